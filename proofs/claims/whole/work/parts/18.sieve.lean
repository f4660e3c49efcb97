/-! Sieve: faces, slots, the tally -/
theorem l_fill {G : sk_G} {E : sk_E} {d mR sR cells slots : Nat} {M : sk_M} {c N : Nat} {v : Int32} (hkd : sk_kd c = 10) (hln : sk_ln c = N) (hlt : c < 159) (hN : N < 2 ^ 31) (hc : cells ≤ mR) (hs : slots ≤ sR) (hk : TJ G mJ7_fill_53178 (sk_R d mR sR) E cells slots 20 [some (.ref (G.2.2.1 c)), some (.int v), some (.int (nI (N))), some (.int (nI N))] [] (flI M c v (N))) : ∀ n i : Nat, i + n = N → TJ G mJ7_fill_53178 (sk_R d mR sR) E cells slots 5 [some (.ref (G.2.2.1 c)), some (.int v), some (.int (nI i)), some (.int (nI N))] [] (flI M c v i) := by
  intro n
  induction n with
  | zero =>
    intro i hi
    obtain rfl : i = N := by omega
    refine T.ild_2 (q := 6) dJ7_fill_53178_5 rfl ?_
    refine T.ild_3 (q := 7) dJ7_fill_53178_6 rfl ?_
    refine T.ic_ge (tgt := 20) (q := 10) dJ7_fill_53178_7 (by decide) rfl (fun h7 => ?_) (fun h7 => absurd (nI_le (Nat.le_refl _) hN) h7)
    exact hk
  | succ n ih =>
    intro i hi
    refine T.ild_2 (q := 6) dJ7_fill_53178_5 rfl ?_
    refine T.ild_3 (q := 7) dJ7_fill_53178_6 rfl ?_
    refine T.ic_ge (tgt := 20) (q := 10) dJ7_fill_53178_7 (by decide) rfl (fun h7 => absurd h7 (nI_ge (by omega) hN)) (fun h7 => ?_)
    refine T.ald_0 (q := 11) dJ7_fill_53178_10 rfl ?_
    refine T.ild_2 (q := 12) dJ7_fill_53178_11 rfl ?_
    refine T.ild_1 (q := 13) dJ7_fill_53178_12 rfl ?_
    refine T.iast ((⟨hkd, hln, hlt⟩ : sk_kd c = 10 ∧ sk_ln c = N ∧ c < 159)).1 ((⟨hkd, hln, hlt⟩ : sk_kd c = 10 ∧ sk_ln c = N ∧ c < 159)).2.1 ((⟨hkd, hln, hlt⟩ : sk_kd c = 10 ∧ sk_ln c = N ∧ c < 159)).2.2 dJ7_fill_53178_13 (q := 14) rfl (vp_in_nI (by omega) hN) ?_
    refine T.inc_2 (q := 17) (1) dJ7_fill_53178_14 rfl (by decide) (by decide) (by first | exact sk_ok_i | exact sk_ok_r | exact sk_ok_n) ?_
    refine T.goto (tgt := 5) dJ7_fill_53178_17 (by decide) ?_
    rw [nI_1, nI_clamp (by omega)]
    exact ih (i + 1) (by omega)
theorem c_fill {G : sk_G} {d : Nat} {M : sk_M} {c N : Nat} {v : Int32} (hkd : sk_kd c = 10) (hln : sk_ln c = N) (hlt : c < 159) (hN : N < 2 ^ 31) : Ctr G mJ7_fill_53178 d 0 0 [.ref (G.2.2.1 c), .int v] M (rV fun M' => M' = flI M c v N) noX := by
  refine Ctr.of 2 (by decide) (Nat.le_of_ble_eq_true rfl) ?_
  refine T.iconst (q := 1) (0) dJ7_fill_53178_0 rfl (by decide) ?_
  refine T.ist_2 (q := 2) dJ7_fill_53178_1 rfl (by decide) (by first | exact sk_ok_i | exact sk_ok_r | exact sk_ok_n) ?_
  refine T.ald_0 (q := 3) dJ7_fill_53178_2 rfl ?_
  refine T.alenI (nI N) hkd hlt (by rw [hln]; rfl) dJ7_fill_53178_3 (q := 4) rfl ?_
  refine T.ist_3 (q := 5) dJ7_fill_53178_4 rfl (by decide) (by first | exact sk_ok_i | exact sk_ok_r | exact sk_ok_n) ?_
  refine l_fill hkd hln hlt hN (Nat.le_refl 0) (Nat.le_refl 0) ?_ N 0 (Nat.zero_add N)
  exact T.retV rfl dJ7_fill_53178_20 (by decide) (by decide) rfl
theorem l_face1 {G : sk_G} {E : sk_E} {d mR sR cells slots : Nat} {M0 : sk_M} {t i : Nat} (ht : t < 216) (hi6 : i < 6) (hk : ∀ M j, pfI M0 M t (6 * i + 6) → TJ G mX4_face (sk_R d mR sR) E cells slots 92 [some (.ref (G.2.2.1 130)), some (.int (nI t)), some (.ref (G.2.2.1 (0 + 7))), some (.int (nI (t / 36 * 6))), some (.int (nI (36 + t / 6 % 6 * 6))), some (.int (nI i)), some (.int (M0.1 (0 + 7) (t / 36 * 6 + i) + 3564)), some (.int (nI j))] [] M) : ∀ n j : Nat, j + n = 6 → ∀ M, pfI M0 M t (6 * i + j) → TJ G mX4_face (sk_R d mR sR) E cells slots 56 [some (.ref (G.2.2.1 130)), some (.int (nI t)), some (.ref (G.2.2.1 (0 + 7))), some (.int (nI (t / 36 * 6))), some (.int (nI (36 + t / 6 % 6 * 6))), some (.int (nI i)), some (.int (M0.1 (0 + 7) (t / 36 * 6 + i) + 3564)), some (.int (nI j))] [] M := by
  intro n
  induction n with
  | zero =>
    intro j hj M hM
    obtain rfl : j = 6 := by omega
    refine T.ild_7 (q := 58) dX4_face_56 rfl ?_
    refine T.bipush (q := 60) (6) dX4_face_58 rfl (by decide) ?_
    refine T.ic_ge (tgt := 92) (q := 63) dX4_face_60 (by decide) rfl (fun h60 => ?_) (fun h60 => absurd (nI_le (a := 6) (b := 6) (Nat.le_refl _) (by decide)) h60)
    exact hk _ _ hM
  | succ n ih =>
    intro j hj M hM
    refine T.ild_7 (q := 58) dX4_face_56 rfl ?_
    refine T.bipush (q := 60) (6) dX4_face_58 rfl (by decide) ?_
    refine T.ic_ge (tgt := 92) (q := 63) dX4_face_60 (by decide) rfl (fun h60 => absurd h60 (nI_ge (a := j) (b := 6) (by omega) (by decide))) (fun h60 => ?_)
    refine T.ald_0 (q := 64) dX4_face_63 rfl ?_
    refine g_X4_23 rfl dX4_face_64 (q := 67) rfl ?_
    refine T.ild_5 (q := 69) dX4_face_67 rfl ?_
    refine T.bipush (q := 71) (6) dX4_face_69 rfl (by decide) ?_
    refine T.imul (q := 72) dX4_face_71 rfl ?_
    refine T.ild_7 (q := 74) dX4_face_72 rfl ?_
    refine T.iadd (q := 75) dX4_face_74 rfl ?_
    rw [show nI i * 6 + nI j = nI (6 * i + j) from (by simp (disch := omega) only [sk_lit, nI_add, pk_mul, pk_div, pk_sub, sk_mod, nI_clamp, nI_1]; try (congr 1 <;> omega))]
    refine T.ild_6 (q := 77) dX4_face_75 rfl ?_
    refine T.ald_2 (q := 78) dX4_face_77 rfl ?_
    refine T.ild_4 (q := 80) dX4_face_78 rfl ?_
    refine T.ild_7 (q := 82) dX4_face_80 rfl ?_
    refine T.iadd (q := 83) dX4_face_82 rfl ?_
    rw [nI_add]
    refine T.iald (sk_a7 sk_s0).1 (sk_a7 sk_s0).2.1 (sk_a7 sk_s0).2.2 dX4_face_83 (q := 84) rfl (vp_in_nI (by omega) (by decide)) ?_
    rw [nI_clamp (by omega), hM.1 (0 + 7) (by decide)]
    refine T.iadd (q := 85) dX4_face_84 rfl ?_
    refine T.iast (n := 36) rfl rfl (by decide) dX4_face_85 (q := 86) rfl (vp_in_nI (by omega) (by decide)) ?_
    rw [nI_clamp (by omega)]
    refine T.inc_7 (q := 89) (1) dX4_face_86 rfl (by decide) (by decide) (by first | exact sk_ok_i | exact sk_ok_r | exact sk_ok_n) ?_
    refine T.goto (tgt := 56) dX4_face_89 (by decide) ?_
    rw [nI_1]
    refine ih (j + 1) (by omega) _ ⟨fun c hc => ?_, hM.2.1, fun x hx => ?_⟩
    · rw [sk_si_ne hc]; exact hM.1 c hc
    · rw [sk_si_at, upd]
      by_cases e : x = 6 * i + j
      · rw [if_pos e, e, show (6 * i + j) / 6 = i by omega, show (6 * i + j) % 6 = j by omega]
      · rw [if_neg e]; exact hM.2.2 x (by omega)
theorem l_face2 {G : sk_G} {E : sk_E} {d mR sR cells slots : Nat} {M0 : sk_M} {t : Nat} (ht : t < 216) (hk : ∀ M i x6 x7, pfI M0 M t 36 → TJ G mX4_face (sk_R d mR sR) E cells slots 98 [some (.ref (G.2.2.1 130)), some (.int (nI t)), some (.ref (G.2.2.1 (0 + 7))), some (.int (nI (t / 36 * 6))), some (.int (nI (36 + t / 6 % 6 * 6))), some (.int (nI i)), x6, x7] [] M) : ∀ n i : Nat, i + n = 6 → ∀ M x6 x7, pfI M0 M t (6 * i) → TJ G mX4_face (sk_R d mR sR) E cells slots 34 [some (.ref (G.2.2.1 130)), some (.int (nI t)), some (.ref (G.2.2.1 (0 + 7))), some (.int (nI (t / 36 * 6))), some (.int (nI (36 + t / 6 % 6 * 6))), some (.int (nI i)), x6, x7] [] M := by
  intro n
  induction n with
  | zero =>
    intro i hi M x6 x7 hM
    obtain rfl : i = 6 := by omega
    refine T.ild_5 (q := 36) dX4_face_34 rfl ?_
    refine T.bipush (q := 38) (6) dX4_face_36 rfl (by decide) ?_
    refine T.ic_ge (tgt := 98) (q := 41) dX4_face_38 (by decide) rfl (fun h38 => ?_) (fun h38 => absurd (nI_le (a := 6) (b := 6) (Nat.le_refl _) (by decide)) h38)
    exact hk _ _ _ _ hM
  | succ n ih =>
    intro i hi M x6 x7 hM
    refine T.ild_5 (q := 36) dX4_face_34 rfl ?_
    refine T.bipush (q := 38) (6) dX4_face_36 rfl (by decide) ?_
    refine T.ic_ge (tgt := 98) (q := 41) dX4_face_38 (by decide) rfl (fun h38 => absurd h38 (nI_ge (a := i) (b := 6) (by omega) (by decide))) (fun h38 => ?_)
    refine T.ald_2 (q := 42) dX4_face_41 rfl ?_
    refine T.ild_3 (q := 43) dX4_face_42 rfl ?_
    refine T.ild_5 (q := 45) dX4_face_43 rfl ?_
    refine T.iadd (q := 46) dX4_face_45 rfl ?_
    rw [nI_add]
    refine T.iald (sk_a7 sk_s0).1 (sk_a7 sk_s0).2.1 (sk_a7 sk_s0).2.2 dX4_face_46 (q := 47) rfl (vp_in_nI (by omega) (by decide)) ?_
    rw [nI_clamp (by omega), hM.1 (0 + 7) (by decide)]
    refine T.sipush (q := 50) (3564) dX4_face_47 rfl (by decide) ?_
    refine T.iadd (q := 51) dX4_face_50 rfl ?_
    refine T.ist_6 (q := 53) dX4_face_51 rfl (by decide) (by first | exact sk_ok_i | exact sk_ok_r | exact sk_ok_n) ?_
    refine T.iconst (q := 54) (0) dX4_face_53 rfl (by decide) ?_
    refine T.ist_7 (q := 56) dX4_face_54 rfl (by decide) (by first | exact sk_ok_i | exact sk_ok_r | exact sk_ok_n) ?_
    refine l_face1 (M0 := M0) ht (by omega) ?_ 6 0 rfl M hM
    intro M5 j hM5
    refine T.inc_5 (q := 95) (1) dX4_face_92 rfl (by decide) (by decide) (by first | exact sk_ok_i | exact sk_ok_r | exact sk_ok_n) ?_
    refine T.goto (tgt := 34) dX4_face_95 (by decide) ?_
    rw [nI_1]
    exact ih (i + 1) (by omega) _ _ _ hM5
theorem c_face {G : sk_G} {d : Nat} {M : sk_M} {t : Nat} (ht : t < 216) : Ctr G mX4_face d 0 0 [.ref (G.2.2.1 130), .int (nI t)] M (rV fun M' => fcI M M' t) noX := by
  refine Ctr.of 6 (by decide) (Nat.le_of_ble_eq_true rfl) ?_
  refine T.ald_0 (q := 1) dX4_face_0 rfl ?_
  refine g_X4_9 rfl dX4_face_1 (q := 4) rfl ?_
  refine g_X4_56 sk_s0 rfl dX4_face_4 (q := 7) rfl ?_
  refine T.ast_2 (q := 8) dX4_face_7 rfl (by decide) (by first | exact sk_ok_i | exact sk_ok_r | exact sk_ok_n) ?_
  refine T.ild_1 (q := 9) dX4_face_8 rfl ?_
  refine T.bipush (q := 11) (36) dX4_face_9 rfl (by decide) ?_
  refine T.idiv (q := 12) dX4_face_11 rfl (by decide) ?_
  refine T.bipush (q := 14) (6) dX4_face_12 rfl (by decide) ?_
  refine T.imul (q := 15) dX4_face_14 rfl ?_
  rw [show nI t / 36 * 6 = nI (t / 36 * 6) from (by simp (disch := omega) only [sk_lit, nI_add, pk_mul, pk_div, pk_sub, sk_mod, nI_clamp, nI_1]; try (congr 1 <;> omega))]
  refine T.ist_3 (q := 16) dX4_face_15 rfl (by decide) (by first | exact sk_ok_i | exact sk_ok_r | exact sk_ok_n) ?_
  refine T.bipush (q := 18) (36) dX4_face_16 rfl (by decide) ?_
  refine T.ild_1 (q := 19) dX4_face_18 rfl ?_
  refine T.bipush (q := 21) (6) dX4_face_19 rfl (by decide) ?_
  refine T.idiv (q := 22) dX4_face_21 rfl (by decide) ?_
  refine T.bipush (q := 24) (6) dX4_face_22 rfl (by decide) ?_
  refine T.irem (q := 25) dX4_face_24 rfl (by decide) ?_
  refine T.bipush (q := 27) (6) dX4_face_25 rfl (by decide) ?_
  refine T.imul (q := 28) dX4_face_27 rfl ?_
  refine T.iadd (q := 29) dX4_face_28 rfl ?_
  rw [show 36 + (nI t / 6 - nI t / 6 / 6 * 6) * 6 = nI (36 + t / 6 % 6 * 6) from (by simp (disch := omega) only [sk_lit, nI_add, pk_mul, pk_div, pk_sub, sk_mod, nI_clamp, nI_1]; try (congr 1 <;> omega))]
  refine T.ist_4 (q := 31) dX4_face_29 rfl (by decide) (by first | exact sk_ok_i | exact sk_ok_r | exact sk_ok_n) ?_
  refine T.iconst (q := 32) (0) dX4_face_31 rfl (by decide) ?_
  refine T.ist_5 (q := 34) dX4_face_32 rfl (by decide) (by first | exact sk_ok_i | exact sk_ok_r | exact sk_ok_n) ?_
  refine l_face2 (M0 := M) ht ?_ 6 0 rfl M _ _ ⟨fun _ _ => rfl, rfl, fun x h => absurd h (Nat.not_lt_zero x)⟩
  intro M5 i x6 x7 hM5
  refine T.ald_0 (q := 99) dX4_face_98 rfl ?_
  refine T.bipush (q := 101) (72) dX4_face_99 rfl (by decide) ?_
  refine T.ild_1 (q := 102) dX4_face_101 rfl ?_
  refine T.bipush (q := 104) (6) dX4_face_102 rfl (by decide) ?_
  refine T.irem (q := 105) dX4_face_104 rfl (by decide) ?_
  refine T.bipush (q := 107) (6) dX4_face_105 rfl (by decide) ?_
  refine T.imul (q := 108) dX4_face_107 rfl ?_
  refine T.iadd (q := 109) dX4_face_108 rfl ?_
  rw [show 72 + (nI t - nI t / 6 * 6) * 6 = nI (72 + t % 6 * 6) from (by simp (disch := omega) only [sk_lit, nI_add, pk_mul, pk_div, pk_sub, sk_mod, nI_clamp, nI_1]; try (congr 1 <;> omega))]
  refine p_X4_59 rfl dX4_face_109 (q := 112) rfl ?_
  exact T.retV rfl dX4_face_112 (by decide) (by decide) ⟨fun c h1 h2 => by rw [sk_si_ne h1]; exact hM5.1 c h2, hM5.2.1, fun k hk9 => by rw [sk_si_at, upd, if_neg hk9]; exact congrFun (hM5.1 130 (by decide)) k, by rw [sk_si_at]; rfl, fun x hx => by rw [sk_si_ne (by decide), sk_si_ne (by decide), hM5.2.2 x hx, hM5.1 (0 + 7) (by decide)]⟩
theorem c_slotOf {G : sk_G} {d : Nat} {M : sk_M} {t c : Nat} (hc : c < 216) (hfc : faced M t) : Ctr G mX4_slotOf d 0 0 [.ref (G.2.2.1 130), .int (nI c)] M (rI fun r M' => r = slt (M.1 (0 + 7)) t c ∧ M' = M) noX := by
  refine Ctr.of 0 (by decide) (Nat.le_of_ble_eq_true rfl) ?_
  refine T.ald_0 (q := 1) dX4_slotOf_0 rfl ?_
  refine g_X4_23 rfl dX4_slotOf_1 (q := 4) rfl ?_
  refine T.ild_1 (q := 5) dX4_slotOf_4 rfl ?_
  refine T.bipush (q := 7) (6) dX4_slotOf_5 rfl (by decide) ?_
  refine T.idiv (q := 8) dX4_slotOf_7 rfl (by decide) ?_
  refine T.iald (n := 36) rfl rfl (by decide) dX4_slotOf_8 (q := 9) rfl (vin (n := c / 6) (by simp (disch := omega) only [sk_lit, nI_add, pk_mul, pk_div, pk_sub, sk_mod, nI_clamp, nI_1]; try (congr 1 <;> omega)) (by omega) (by decide)) ?_
  rw [show nI c / 6 = nI (c / 6) from (by simp (disch := omega) only [sk_lit, nI_add, pk_mul, pk_div, pk_sub, sk_mod, nI_clamp, nI_1]; try (congr 1 <;> omega)), nI_clamp (by omega), hfc.2 _ (by omega)]
  refine T.ald_0 (q := 10) dX4_slotOf_9 rfl ?_
  refine g_X4_9 rfl dX4_slotOf_10 (q := 13) rfl ?_
  refine g_X4_56 sk_s0 rfl dX4_slotOf_13 (q := 16) rfl ?_
  refine T.ald_0 (q := 17) dX4_slotOf_16 rfl ?_
  refine g_X4_59 rfl dX4_slotOf_17 (q := 20) rfl ?_
  refine T.ild_1 (q := 21) dX4_slotOf_20 rfl ?_
  refine T.bipush (q := 23) (6) dX4_slotOf_21 rfl (by decide) ?_
  refine T.irem (q := 24) dX4_slotOf_23 rfl (by decide) ?_
  rw [hfc.1, show nI c - nI c / 6 * 6 = nI (c % 6) from (by simp (disch := omega) only [sk_lit, nI_add, pk_mul, pk_div, pk_sub, sk_mod, nI_clamp, nI_1]; try (congr 1 <;> omega))]
  refine T.iadd (q := 25) dX4_slotOf_24 rfl ?_
  refine T.iald (sk_a7 sk_s0).1 (sk_a7 sk_s0).2.1 (sk_a7 sk_s0).2.2 dX4_slotOf_25 (q := 26) rfl (vin (n := 72 + t % 6 * 6 + c % 6) (by simp (disch := omega) only [sk_lit, nI_add, pk_mul, pk_div, pk_sub, sk_mod, nI_clamp, nI_1]; try (congr 1 <;> omega)) (by omega) (by decide)) ?_
  refine T.iadd (q := 27) dX4_slotOf_26 rfl ?_
  exact T.retI rfl dX4_slotOf_27 (by decide) (by decide) ⟨by rw [nI_add, nI_clamp (by omega)]; simp only [slt, sndC, show c / 6 / 6 = c / 36 by omega]; ac_rfl, rfl⟩
theorem c_startTally {G : sk_G} {d : Nat} {M : sk_M}  (hd : 0 < d) (hT : TB M) : Ctr G mX4_startTally d 0 0 [.ref (G.2.2.1 130)] M (rV fun M' => tlI M M' ∧ ∃ fl, TA M' fl (fun _ => 0)) noX := by
  refine Ctr.of 0 (by decide) (Nat.le_of_ble_eq_true rfl) ?_
  obtain ⟨fl, n, h1, h2, h3⟩ := hT
  refine T.ald_0 (q := 1) dX4_startTally_0 rfl ?_
  refine g_X4_62 rfl dX4_startTally_1 (q := 4) rfl ?_
  refine T.ldc (q := 6) (1000000000) dX4_startTally_4 rfl w_X4_c65 ?_
  rw [h1]
  refine T.ic_lt (tgt := 22) (q := 9) dX4_startTally_6 (by decide) rfl (fun h6 => ?_) (fun h6 => ?_)
  · refine T.ald_0 (q := 23) dX4_startTally_22 rfl ?_
    refine T.dup (q := 24) dX4_startTally_23 rfl rfl ?_
    refine g_X4_62 rfl dX4_startTally_24 (q := 27) rfl ?_
    refine T.sipush (q := 30) (216) dX4_startTally_27 rfl (by decide) ?_
    refine T.iadd (q := 31) dX4_startTally_30 rfl ?_
    refine p_X4_62 rfl dX4_startTally_31 (q := 34) rfl ?_
    exact T.retV rfl dX4_startTally_34 (by decide) (by decide) (by first | exact sT1 h1 h3 (show fl < 1000000000 from (nI_ltI (by omega) (by decide)).mp h6) | exact sT2 M 7129 (Nat.le_refl _))
  · refine T.ald_0 (q := 10) dX4_startTally_9 rfl ?_
    refine g_X4_26 rfl dX4_startTally_10 (q := 13) rfl ?_
    refine T.iconst (q := 14) (0) dX4_startTally_13 rfl (by decide) ?_
    refine k_X4_66 rfl dX4_startTally_14 (q := 17) rfl (by omega) (by decide) (by decide) (Nat.le_of_ble_eq_true rfl) (c_fill (d := 0) rfl rfl (by decide) (by decide)) ?_
    rintro M9 rfl
    refine T.ald_0 (q := 18) dX4_startTally_17 rfl ?_
    refine T.iconst (q := 19) (0) dX4_startTally_18 rfl (by decide) ?_
    refine p_X4_62 rfl dX4_startTally_19 (q := 22) rfl ?_
    refine T.ald_0 (q := 23) dX4_startTally_22 rfl ?_
    refine T.dup (q := 24) dX4_startTally_23 rfl rfl ?_
    refine g_X4_62 rfl dX4_startTally_24 (q := 27) rfl ?_
    refine T.sipush (q := 30) (216) dX4_startTally_27 rfl (by decide) ?_
    refine T.iadd (q := 31) dX4_startTally_30 rfl ?_
    refine p_X4_62 rfl dX4_startTally_31 (q := 34) rfl ?_
    exact T.retV rfl dX4_startTally_34 (by decide) (by decide) (by first | exact sT1 h1 h3 (show fl < 1000000000 from (nI_ltI (by omega) (by decide)).mp h6) | exact sT2 M 7129 (Nat.le_refl _))
theorem c_countOne {G : sk_G} {d : Nat} {M : sk_M} {s fl : Nat} {n : Nat → Nat} (hd : 0 < d) (hs : s < 7129) (hT : TA M fl n) (hn : n s < 216) : Ctr G mX4_countOne d 0 0 [.ref (G.2.2.1 130), .int (nI s)] M (rI fun r M' => r = nI (n s + 1) ∧ tlI M M' ∧ TA M' fl (fun j => if j = s then n s + 1 else n j)) noX := by
  refine Ctr.of 0 (by decide) (Nat.le_of_ble_eq_true rfl) ?_
  obtain ⟨h1, h2, h3⟩ := hT
  obtain ⟨ts, e1, e2, e3⟩ := h3 s hs
  refine T.ald_0 (q := 1) dX4_countOne_0 rfl ?_
  refine g_X4_26 rfl dX4_countOne_1 (q := 4) rfl ?_
  refine T.ild_1 (q := 5) dX4_countOne_4 rfl ?_
  refine T.ald_0 (q := 6) dX4_countOne_5 rfl ?_
  refine g_X4_26 rfl dX4_countOne_6 (q := 9) rfl ?_
  refine T.ild_1 (q := 10) dX4_countOne_9 rfl ?_
  refine T.iald (n := 7129) rfl rfl (by decide) dX4_countOne_10 (q := 11) rfl (vp_in_nI (by omega) (by decide)) ?_
  rw [nI_clamp (by omega), e1]
  refine T.ald_0 (q := 12) dX4_countOne_11 rfl ?_
  refine g_X4_62 rfl dX4_countOne_12 (q := 15) rfl ?_
  rw [h1]
  refine k_X4_72 rfl dX4_countOne_15 (q := 18) rfl (by omega) (by decide) (by decide) (Nat.le_of_ble_eq_true rfl) ?_
  rw [cO1 (show ts < 2 ^ 31 by omega) (show fl < 2 ^ 31 by omega) e2]
  refine T.iconst (q := 19) (1) dX4_countOne_18 rfl (by decide) ?_
  refine T.iadd (q := 20) dX4_countOne_19 rfl ?_
  rw [nI_1]
  refine T.iast (n := 7129) rfl rfl (by decide) dX4_countOne_20 (q := 21) rfl (vp_in_nI (by omega) (by decide)) ?_
  rw [nI_clamp (by omega)]
  refine T.ald_0 (q := 22) dX4_countOne_21 rfl ?_
  refine g_X4_26 rfl dX4_countOne_22 (q := 25) rfl ?_
  refine T.ild_1 (q := 26) dX4_countOne_25 rfl ?_
  refine T.iald (n := 7129) rfl rfl (by decide) dX4_countOne_26 (q := 27) rfl (vp_in_nI (by omega) (by decide)) ?_
  rw [nI_clamp (by omega), sk_si_at, show upd (M.1 134) s (nI (fl + n s + 1)) s = nI (fl + n s + 1) from by rw [upd, if_pos rfl]]
  refine T.ald_0 (q := 28) dX4_countOne_27 rfl ?_
  refine g_X4_62 rfl dX4_countOne_28 (q := 31) rfl ?_
  rw [sk_si_ne (by decide), h1]
  refine T.isub (q := 32) dX4_countOne_31 rfl ?_
  rw [pk_sub (by omega)]
  exact T.retI rfl dX4_countOne_32 (by decide) (by decide) ⟨by congr 1; omega, ⟨fun c _ h => sk_si_ne h, rfl, fun k _ => by rw [sk_si_ne (by decide)]⟩, by rw [sk_si_ne (by decide)]; exact h1, h2, fun j hj => by rw [sk_si_at]; exact cO2 h3 hn j hj⟩
