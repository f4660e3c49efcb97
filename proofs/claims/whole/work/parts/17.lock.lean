/-! Locksmith and Memory -/
theorem c_draw {G : sk_G} {d : Nat} {M : sk_M}   : Ctr G mX2_draw d 0 0 [.ref (G.2.2.1 138)] M (rI fun r M' => r = drw (M.1 138 1) ∧ M' = sk_si M 138 1 (nxt (M.1 138 1))) noX := by
  refine Ctr.of 0 (by decide) (Nat.le_of_ble_eq_true rfl) ?_
  refine T.ald_0 (q := 1) dX2_draw_0 rfl ?_
  refine T.ldc (q := 3) (1103515245) dX2_draw_1 rfl w_X2_c44 ?_
  refine T.ald_0 (q := 4) dX2_draw_3 rfl ?_
  refine g_X2_24 rfl dX2_draw_4 (q := 7) rfl ?_
  refine T.imul (q := 8) dX2_draw_7 rfl ?_
  refine T.sipush (q := 11) (12345) dX2_draw_8 rfl (by decide) ?_
  refine T.iadd (q := 12) dX2_draw_11 rfl ?_
  refine p_X2_24 rfl dX2_draw_12 (q := 15) rfl ?_
  refine T.ald_0 (q := 16) dX2_draw_15 rfl ?_
  refine g_X2_24 rfl dX2_draw_16 (q := 19) rfl ?_
  refine T.bipush (q := 21) (16) dX2_draw_19 rfl (by decide) ?_
  refine T.iushr (q := 22) dX2_draw_21 rfl ?_
  refine T.sipush (q := 25) (32767) dX2_draw_22 rfl (by decide) ?_
  refine T.iand (q := 26) dX2_draw_25 rfl ?_
  exact T.retI rfl dX2_draw_26 (by decide) (by decide) ⟨by rw [sk_si_at]; rfl, rfl⟩
theorem l_work1 {G : sk_G} {E : sk_E} {d mR sR cells slots : Nat} {M0 : sk_M} {b nv : Nat} {x2 x3 : Value} {x4 ch : Int32} {k : LK} (hd : 0 < d) (hb : sk_sb b) (hnv : M0.1 b 0 = nI nv) (hn6 : nv ≤ 6) (hch : M0.1 b 6 = ch) (hc : cells ≤ mR) (hs : slots ≤ sR) (hk : ∀ M i, lkI M0 M (lkD ch k nv) → TJ G mX2_work (sk_R d mR sR) E cells slots 112 [some (.ref (G.2.2.1 138)), some (.ref (G.2.2.1 b)), some x2, some x3, some (.int x4), some (.int (nI i))] [] M) : ∀ n i : Nat, i + n = nv → ∀ M, lkI M0 M (lkD ch k i) → TJ G mX2_work (sk_R d mR sR) E cells slots 45 [some (.ref (G.2.2.1 138)), some (.ref (G.2.2.1 b)), some x2, some x3, some (.int x4), some (.int (nI i))] [] M := by
  have hbb := hb.1
  intro n
  induction n with
  | zero =>
    intro i hi M hM
    obtain rfl : i = nv := by omega
    refine T.ild_5 (q := 47) dX2_work_45 rfl ?_
    refine T.ald_1 (q := 48) dX2_work_47 rfl ?_
    refine g_X2_34 hb rfl dX2_work_48 (q := 51) rfl ?_
    rw [hM.1 b (by omega) (by omega), hnv]
    refine T.ic_ge (tgt := 112) (q := 54) dX2_work_51 (by decide) rfl (fun h51 => ?_) (fun h51 => absurd (nI_le (Nat.le_refl _) (by omega)) h51)
    exact hk _ _ hM
  | succ n ih =>
    intro i hi M hM
    refine T.ild_5 (q := 47) dX2_work_45 rfl ?_
    refine T.ald_1 (q := 48) dX2_work_47 rfl ?_
    refine g_X2_34 hb rfl dX2_work_48 (q := 51) rfl ?_
    rw [hM.1 b (by omega) (by omega), hnv]
    refine T.ic_ge (tgt := 112) (q := 54) dX2_work_51 (by decide) rfl (fun h51 => absurd h51 (nI_ge (by omega) (by omega))) (fun h51 => ?_)
    refine T.ald_0 (q := 55) dX2_work_54 rfl ?_
    refine k_X2_37 rfl dX2_work_55 (q := 58) rfl (by omega) hc hs (Nat.le_of_ble_eq_true rfl) (c_draw (d := 0)) ?_
    rintro r M9 ⟨rfl, rfl⟩
    rw [hM.2.2.1]
    refine T.bipush (q := 60) (100) dX2_work_58 rfl (by decide) ?_
    refine T.irem (q := 61) dX2_work_60 rfl (by decide) ?_
    refine T.ald_1 (q := 62) dX2_work_61 rfl ?_
    rw [show drw (lkD ch k i).1 - drw (lkD ch k i).1 / 100 * 100 = jr (drw (lkD ch k i).1) 100 from rfl]
    refine g_X2_41 hb rfl dX2_work_62 (q := 65) rfl ?_
    rw [sk_si_ne (show b ≠ 138 by omega), hM.1 b (by omega) (by omega), hch]
    refine T.ic_ge (tgt := 106) (q := 68) dX2_work_65 (by decide) rfl (fun h65 => ?_) (fun h65 => ?_)
    · have hM1 : ∀ (A : sk_M), True := fun _ => trivial
      refine T.inc_5 (q := 109) (1) dX2_work_106 rfl (by decide) (by decide) (by first | exact sk_ok_i | exact sk_ok_r | exact sk_ok_n) ?_
      refine T.goto (tgt := 45) dX2_work_109 (by decide) ?_
      rw [nI_1]
      refine ih (i + 1) (by omega) _ ?_
      have e : lkD ch k (i + 1) = lkV ch (lkD ch k i) i := rfl
      rw [e]
      unfold lkV
      first | rw [if_pos h65] | rw [if_neg h65]
      obtain ⟨g1, g2, g3, g4, g5, g6⟩ := hM
      refine ⟨fun c h1 h2 => ?_, ?_, ?_, ?_, ?_, fun j hj => ?_⟩
      · simp only [sk_si_ne h1, sk_si_ne h2]; exact g1 c h1 h2
      · exact g2
      all_goals first | (simp only [sk_si, upd, reduceIte, g3, g4, g5]; done) | (simp [sk_si, upd, g3, g4, g5]; done) | (simp [sk_si, upd, g3, g4, g5, g6 _ hj]; done)
    · refine T.ald_0 (q := 69) dX2_work_68 rfl ?_
      refine g_X2_9 rfl dX2_work_69 (q := 72) rfl ?_
      refine T.ild_5 (q := 74) dX2_work_72 rfl ?_
      refine T.ald_0 (q := 75) dX2_work_74 rfl ?_
      refine k_X2_37 rfl dX2_work_75 (q := 78) rfl (by omega) hc hs (Nat.le_of_ble_eq_true rfl) (c_draw (d := 0)) ?_
      rintro r M9 ⟨rfl, rfl⟩
      rw [sk_si_at]
      refine T.sipush (q := 81) (216) dX2_work_78 rfl (by decide) ?_
      refine T.irem (q := 82) dX2_work_81 rfl (by decide) ?_
      rw [show ∀ (s9 : Int32), upd (M.1 138) 1 s9 1 = s9 from fun s9 => rfl, show ∀ z : Int32, drw z - drw z / 216 * 216 = jr (drw z) 216 from fun z => rfl]
      refine T.iast (n := 6) rfl rfl (by decide) dX2_work_82 (q := 83) rfl (vp_in_nI (by omega) (by decide)) ?_
      rw [nI_clamp (by omega)]
      refine T.ald_0 (q := 84) dX2_work_83 rfl ?_
      refine T.dup (q := 85) dX2_work_84 rfl rfl ?_
      refine g_X2_31 rfl dX2_work_85 (q := 88) rfl ?_
      refine T.iconst (q := 89) (1) dX2_work_88 rfl (by decide) ?_
      refine T.ild_5 (q := 91) dX2_work_89 rfl ?_
      refine T.ishl (q := 92) dX2_work_91 rfl ?_
      refine T.ior (q := 93) dX2_work_92 rfl ?_
      refine p_X2_31 rfl dX2_work_93 (q := 96) rfl ?_
      refine T.ald_0 (q := 97) dX2_work_96 rfl ?_
      refine T.dup (q := 98) dX2_work_97 rfl rfl ?_
      refine g_X2_28 rfl dX2_work_98 (q := 101) rfl ?_
      refine T.iconst (q := 102) (1) dX2_work_101 rfl (by decide) ?_
      refine T.iadd (q := 103) dX2_work_102 rfl ?_
      refine p_X2_28 rfl dX2_work_103 (q := 106) rfl ?_
      have hM1 : ∀ (A : sk_M), True := fun _ => trivial
      refine T.inc_5 (q := 109) (1) dX2_work_106 rfl (by decide) (by decide) (by first | exact sk_ok_i | exact sk_ok_r | exact sk_ok_n) ?_
      refine T.goto (tgt := 45) dX2_work_109 (by decide) ?_
      rw [nI_1]
      refine ih (i + 1) (by omega) _ ?_
      have e : lkD ch k (i + 1) = lkV ch (lkD ch k i) i := rfl
      rw [e]
      unfold lkV
      first | rw [if_pos h65] | rw [if_neg h65]
      obtain ⟨g1, g2, g3, g4, g5, g6⟩ := hM
      refine ⟨fun c h1 h2 => ?_, ?_, ?_, ?_, ?_, fun j hj => ?_⟩
      · simp only [sk_si_ne h1, sk_si_ne h2]; exact g1 c h1 h2
      · exact g2
      all_goals first | (simp only [sk_si, upd, reduceIte, g3, g4, g5]; done) | (simp [sk_si, upd, g3, g4, g5]; done) | (simp [sk_si, upd, g3, g4, g5, g6 _ hj]; done)
theorem l_work2 {G : sk_G} {E : sk_E} {d mR sR cells slots : Nat} {M0 : sk_M} {b nv nd : Nat} {x2 : Value} {ch : Int32} {k : LK} (hd : 0 < d) (hb : sk_sb b) (hnv : M0.1 b 0 = nI nv) (hn6 : nv ≤ 6) (hch : M0.1 b 6 = ch) (hnd : nd ≤ 60) (hc : cells ≤ mR) (hs : slots ≤ sR) (hk : ∀ M i x5, lkI M0 M (lkN ch nv k nd) → TJ G mX2_work (sk_R d mR sR) E cells slots 118 [some (.ref (G.2.2.1 138)), some (.ref (G.2.2.1 b)), some x2, some (.int (nI nd)), some (.int (nI i)), x5] [] M) : ∀ n i : Nat, i + n = nd → ∀ M x5, lkI M0 M (lkN ch nv k i) → TJ G mX2_work (sk_R d mR sR) E cells slots 36 [some (.ref (G.2.2.1 138)), some (.ref (G.2.2.1 b)), some x2, some (.int (nI nd)), some (.int (nI i)), x5] [] M := by
  intro n
  induction n with
  | zero =>
    intro i hi M x5 hM
    obtain rfl : i = nd := by omega
    refine T.ild_4 (q := 38) dX2_work_36 rfl ?_
    refine T.ild_3 (q := 39) dX2_work_38 rfl ?_
    refine T.ic_ge (tgt := 118) (q := 42) dX2_work_39 (by decide) rfl (fun h39 => ?_) (fun h39 => absurd (nI_le (Nat.le_refl _) (by omega)) h39)
    exact hk _ _ _ hM
  | succ n ih =>
    intro i hi M x5 hM
    refine T.ild_4 (q := 38) dX2_work_36 rfl ?_
    refine T.ild_3 (q := 39) dX2_work_38 rfl ?_
    refine T.ic_ge (tgt := 118) (q := 42) dX2_work_39 (by decide) rfl (fun h39 => absurd h39 (nI_ge (by omega) (by omega))) (fun h39 => ?_)
    refine T.iconst (q := 43) (0) dX2_work_42 rfl (by decide) ?_
    refine T.ist_5 (q := 45) dX2_work_43 rfl (by decide) (by first | exact sk_ok_i | exact sk_ok_r | exact sk_ok_n) ?_
    refine l_work1 (M0 := M0) (k := lkN ch nv k i) hd hb hnv hn6 hch hc hs ?_ nv 0 (Nat.zero_add nv) M hM
    intro M5 j hM5
    refine T.inc_4 (q := 115) (1) dX2_work_112 rfl (by decide) (by decide) (by first | exact sk_ok_i | exact sk_ok_r | exact sk_ok_n) ?_
    refine T.goto (tgt := 36) dX2_work_115 (by decide) ?_
    rw [nI_1]
    exact ih (i + 1) (by omega) _ _ hM5
theorem c_work {G : sk_G} {d : Nat} {M : sk_M} {b nv nd : Nat} {s0 : Int32} (hd : 0 < d) (hb : sk_sb b) (hnv : M.1 b 0 = nI nv) (hn6 : nv ≤ 6) (hnd : nd ≤ 60) : Ctr G mX2_work d 0 0 [.ref (G.2.2.1 138), .ref (G.2.2.1 b), .int s0, .int (nI nd)] M (rV fun M' => lkI M M' (lkN (M.1 b 6) nv (s0, M.1 (b + 1), 0, 0) nd)) noX := by
  refine Ctr.of 2 (by decide) (Nat.le_of_ble_eq_true rfl) ?_
  refine T.ald_1 (q := 1) dX2_work_0 rfl ?_
  refine g_X2_15 hb rfl dX2_work_1 (q := 4) rfl ?_
  refine T.iconst (q := 5) (0) dX2_work_4 rfl (by decide) ?_
  refine T.ald_0 (q := 6) dX2_work_5 rfl ?_
  refine g_X2_9 rfl dX2_work_6 (q := 9) rfl ?_
  refine T.iconst (q := 10) (0) dX2_work_9 rfl (by decide) ?_
  refine T.ald_0 (q := 11) dX2_work_10 rfl ?_
  refine g_X2_9 rfl dX2_work_11 (q := 14) rfl ?_
  refine T.alenI (6) rfl (by decide) rfl dX2_work_14 (q := 15) rfl ?_
  refine T.cpI (N := 6) w_X2_18 rfl (sk_a1 hb).1 ((⟨rfl, rfl, by decide⟩ : sk_kd 139 = 10 ∧ sk_ln 139 = 6 ∧ 139 < 159)).1 (sk_a1 hb).2.2 ((⟨rfl, rfl, by decide⟩ : sk_kd 139 = 10 ∧ sk_ln 139 = 6 ∧ 139 < 159)).2.2 (sk_a1 hb).2.1 ((⟨rfl, rfl, by decide⟩ : sk_kd 139 = 10 ∧ sk_ln 139 = 6 ∧ 139 < 159)).2.1 rfl (by decide) (by omega) dX2_work_15 (q := 18) rfl ?_
  refine T.ald_0 (q := 19) dX2_work_18 rfl ?_
  refine T.ild_2 (q := 20) dX2_work_19 rfl ?_
  refine p_X2_24 rfl dX2_work_20 (q := 23) rfl ?_
  refine T.ald_0 (q := 24) dX2_work_23 rfl ?_
  refine T.iconst (q := 25) (0) dX2_work_24 rfl (by decide) ?_
  refine p_X2_28 rfl dX2_work_25 (q := 28) rfl ?_
  refine T.ald_0 (q := 29) dX2_work_28 rfl ?_
  refine T.iconst (q := 30) (0) dX2_work_29 rfl (by decide) ?_
  refine p_X2_31 rfl dX2_work_30 (q := 33) rfl ?_
  refine T.iconst (q := 34) (0) dX2_work_33 rfl (by decide) ?_
  refine T.ist_4 (q := 36) dX2_work_34 rfl (by decide) (by first | exact sk_ok_i | exact sk_ok_r | exact sk_ok_n) ?_
  refine l_work2 (M0 := M) (k := (s0, M.1 (b + 1), 0, 0)) hd hb hnv hn6 rfl hnd (Nat.le_refl 0) (Nat.le_refl 0) ?_ nd 0 (Nat.zero_add nd) _ _ ?_
  · intro M5 i x5 hM5
    exact T.retV rfl dX2_work_118 (by decide) (by decide) hM5
  · refine ⟨fun c h1 h2 => ?_, rfl, ?_, ?_, ?_, fun j hj => ?_⟩
    · simp only [sk_si_ne h1, sk_ri, if_neg h2]
    · simp [sk_si, upd, lkN]
    · simp [sk_si, upd, lkN]
    · simp [sk_si, upd, lkN]
    · simp [sk_si, upd, lkN, sk_ri, cpy_in hj]
theorem c_hasTold {G : sk_G} {d : Nat} {M : sk_M} {v : Nat}  : Ctr G mX2_hasTold d 0 0 [.ref (G.2.2.1 138), .int (nI v)] M (rI fun r M' => r = bI ((M.1 138 3 >>> (nI v &&& 31)) &&& 1 = 1) ∧ M' = M) noX := by
  refine Ctr.of 0 (by decide) (Nat.le_of_ble_eq_true rfl) ?_
  refine T.ald_0 (q := 1) dX2_hasTold_0 rfl ?_
  refine g_X2_31 rfl dX2_hasTold_1 (q := 4) rfl ?_
  refine T.ild_1 (q := 5) dX2_hasTold_4 rfl ?_
  refine T.ishr (q := 6) dX2_hasTold_5 rfl ?_
  refine T.iconst (q := 7) (1) dX2_hasTold_6 rfl (by decide) ?_
  refine T.iand (q := 8) dX2_hasTold_7 rfl ?_
  refine T.iconst (q := 9) (1) dX2_hasTold_8 rfl (by decide) ?_
  refine T.ic_ne (tgt := 16) (q := 12) dX2_hasTold_9 (by decide) rfl (fun h9 => ?_) (fun h9 => ?_)
  · refine T.iconst (q := 17) (0) dX2_hasTold_16 rfl (by decide) ?_
    exact T.retZ rfl dX2_hasTold_17 (by decide) (by decide) rfl ⟨by first | exact (bI_t (p := (M.1 138 3 >>> (nI v &&& 31)) &&& 1 = 1) h9).symm | exact (bI_f (p := (M.1 138 3 >>> (nI v &&& 31)) &&& 1 = 1) h9).symm, rfl⟩
  · refine T.iconst (q := 13) (1) dX2_hasTold_12 rfl (by decide) ?_
    refine T.goto (tgt := 17) dX2_hasTold_13 (by decide) ?_
    exact T.retZ rfl dX2_hasTold_17 (by decide) (by decide) rfl ⟨by first | exact (bI_t (p := (M.1 138 3 >>> (nI v &&& 31)) &&& 1 = 1) h9).symm | exact (bI_f (p := (M.1 138 3 >>> (nI v &&& 31)) &&& 1 = 1) h9).symm, rfl⟩
theorem l_changedFrom {G : sk_G} {E : sk_E} {d mR sR cells slots : Nat} {M : sk_M} {b nv : Nat} (hb : sk_sb b) (hnv : M.1 b 0 = nI nv) (hn6 : nv ≤ 6) (hc : cells ≤ mR) (hs : slots ≤ sR) (hk : TJ G mX2_changedFrom (sk_R d mR sR) E cells slots 39 [some (.ref (G.2.2.1 138)), some (.ref (G.2.2.1 b)), some (.int (bitsP (fun j => ¬ M.1 139 j = M.1 (b + 1) j) (nv))), some (.int (nI (nv)))] [] M) : ∀ n i : Nat, i + n = nv → TJ G mX2_changedFrom (sk_R d mR sR) E cells slots 4 [some (.ref (G.2.2.1 138)), some (.ref (G.2.2.1 b)), some (.int (bitsP (fun j => ¬ M.1 139 j = M.1 (b + 1) j) i)), some (.int (nI i))] [] M := by
  intro n
  induction n with
  | zero =>
    intro i hi
    obtain rfl : i = nv := by omega
    refine T.ild_3 (q := 5) dX2_changedFrom_4 rfl ?_
    refine T.ald_1 (q := 6) dX2_changedFrom_5 rfl ?_
    refine g_X2_34 hb rfl dX2_changedFrom_6 (q := 9) rfl ?_
    rw [hnv]
    refine T.ic_ge (tgt := 39) (q := 12) dX2_changedFrom_9 (by decide) rfl (fun h9 => ?_) (fun h9 => absurd (nI_le (Nat.le_refl _) (by omega)) h9)
    exact hk
  | succ n ih =>
    intro i hi
    refine T.ild_3 (q := 5) dX2_changedFrom_4 rfl ?_
    refine T.ald_1 (q := 6) dX2_changedFrom_5 rfl ?_
    refine g_X2_34 hb rfl dX2_changedFrom_6 (q := 9) rfl ?_
    rw [hnv]
    refine T.ic_ge (tgt := 39) (q := 12) dX2_changedFrom_9 (by decide) rfl (fun h9 => absurd h9 (nI_ge (by omega) (by omega))) (fun h9 => ?_)
    refine T.ald_0 (q := 13) dX2_changedFrom_12 rfl ?_
    refine g_X2_9 rfl dX2_changedFrom_13 (q := 16) rfl ?_
    refine T.ild_3 (q := 17) dX2_changedFrom_16 rfl ?_
    refine T.iald (n := 6) rfl rfl (by decide) dX2_changedFrom_17 (q := 18) rfl (vp_in_nI (by omega) (by decide)) ?_
    rw [nI_clamp (by omega)]
    refine T.ald_1 (q := 19) dX2_changedFrom_18 rfl ?_
    refine g_X2_15 hb rfl dX2_changedFrom_19 (q := 22) rfl ?_
    refine T.ild_3 (q := 23) dX2_changedFrom_22 rfl ?_
    refine T.iald (sk_a1 hb).1 (sk_a1 hb).2.1 (sk_a1 hb).2.2 dX2_changedFrom_23 (q := 24) rfl (vp_in_nI (by omega) (by decide)) ?_
    rw [nI_clamp (by omega)]
    refine T.ic_eq (tgt := 33) (q := 27) dX2_changedFrom_24 (by decide) rfl (fun h24 => ?_) (fun h24 => ?_)
    · first | rw [bitsP_t (P := fun j => ¬ M.1 139 j = M.1 (b + 1) j) h24] | rw [bitsP_f (P := fun j => ¬ M.1 139 j = M.1 (b + 1) j) (fun q => q h24)]
      refine T.inc_3 (q := 36) (1) dX2_changedFrom_33 rfl (by decide) (by decide) (by first | exact sk_ok_i | exact sk_ok_r | exact sk_ok_n) ?_
      refine T.goto (tgt := 4) dX2_changedFrom_36 (by decide) ?_
      rw [nI_1]
      exact ih (i + 1) (by omega)
    · refine T.ild_2 (q := 28) dX2_changedFrom_27 rfl ?_
      refine T.iconst (q := 29) (1) dX2_changedFrom_28 rfl (by decide) ?_
      refine T.ild_3 (q := 30) dX2_changedFrom_29 rfl ?_
      refine T.ishl (q := 31) dX2_changedFrom_30 rfl ?_
      refine T.ior (q := 32) dX2_changedFrom_31 rfl ?_
      refine T.ist_2 (q := 33) dX2_changedFrom_32 rfl (by decide) (by first | exact sk_ok_i | exact sk_ok_r | exact sk_ok_n) ?_
      first | rw [bitsP_t (P := fun j => ¬ M.1 139 j = M.1 (b + 1) j) h24] | rw [bitsP_f (P := fun j => ¬ M.1 139 j = M.1 (b + 1) j) (fun q => q h24)]
      refine T.inc_3 (q := 36) (1) dX2_changedFrom_33 rfl (by decide) (by decide) (by first | exact sk_ok_i | exact sk_ok_r | exact sk_ok_n) ?_
      refine T.goto (tgt := 4) dX2_changedFrom_36 (by decide) ?_
      rw [nI_1]
      exact ih (i + 1) (by omega)
theorem c_changedFrom {G : sk_G} {d : Nat} {M : sk_M} {b nv : Nat} (hb : sk_sb b) (hnv : M.1 b 0 = nI nv) (hn6 : nv ≤ 6) : Ctr G mX2_changedFrom d 0 0 [.ref (G.2.2.1 138), .ref (G.2.2.1 b)] M (rI fun r M' => r = bitsP (fun j => ¬ M.1 139 j = M.1 (b + 1) j) nv ∧ M' = M) noX := by
  refine Ctr.of 2 (by decide) (Nat.le_of_ble_eq_true rfl) ?_
  refine T.iconst (q := 1) (0) dX2_changedFrom_0 rfl (by decide) ?_
  refine T.ist_2 (q := 2) dX2_changedFrom_1 rfl (by decide) (by first | exact sk_ok_i | exact sk_ok_r | exact sk_ok_n) ?_
  refine T.iconst (q := 3) (0) dX2_changedFrom_2 rfl (by decide) ?_
  refine T.ist_3 (q := 4) dX2_changedFrom_3 rfl (by decide) (by first | exact sk_ok_i | exact sk_ok_r | exact sk_ok_n) ?_
  refine l_changedFrom hb hnv hn6 (Nat.le_refl 0) (Nat.le_refl 0) ?_ nv 0 (Nat.zero_add nv)
  refine T.ild_2 (q := 40) dX2_changedFrom_39 rfl ?_
  exact T.retI rfl dX2_changedFrom_40 (by decide) (by decide) ⟨rfl, rfl⟩
theorem c_clear {G : sk_G} {d : Nat} {M : sk_M}   : Ctr G mX3_clear d 0 0 [.ref (G.2.2.1 123)] M (rV fun M' => M' = sk_si M 123 1 0) noX := by
  refine Ctr.of 0 (by decide) (Nat.le_of_ble_eq_true rfl) ?_
  refine T.ald_0 (q := 1) dX3_clear_0 rfl ?_
  refine T.iconst (q := 2) (0) dX3_clear_1 rfl (by decide) ?_
  refine p_X3_24 rfl dX3_clear_2 (q := 5) rfl ?_
  exact T.retV rfl dX3_clear_5 (by decide) (by decide) rfl
theorem c_keep {G : sk_G} {d : Nat} {M : sk_M} {b ns sz : Nat} (hd : 1 < d) (hb : sk_sb b) (hns : M.1 123 2 = nI ns) (hn10 : ns < 10) (hsz : M.1 123 1 = nI sz) (hs10 : sz ≤ 10) : Ctr G mX3_keep d 0 0 [.ref (G.2.2.1 123), .ref (G.2.2.1 b)] M (rV fun M' => M' = sk_si (sk_si (cpS M (20 + 10 * ns) b) 123 2 (nI ((ns + 1) % 10))) 123 1 (nI (min 10 (sz + 1)))) noX := by
  refine Ctr.of 0 (by decide) (Nat.le_of_ble_eq_true rfl) ?_
  refine T.ald_0 (q := 1) dX3_keep_0 rfl ?_
  refine g_X3_11 rfl dX3_keep_1 (q := 4) rfl ?_
  refine T.ald_0 (q := 5) dX3_keep_4 rfl ?_
  refine g_X3_16 rfl dX3_keep_5 (q := 8) rfl ?_
  rw [hns]
  refine T.aald (q := 9) dX3_keep_8 rfl (vp_in_nI (by omega) (by decide)) ?_
  rw [nI_clamp (by omega)]
  refine T.ald_1 (q := 10) dX3_keep_9 rfl ?_
  refine k_X3_20 (sk_sm hn10) rfl dX3_keep_10 (q := 13) rfl (by omega) (by decide) (by decide) (Nat.le_of_ble_eq_true rfl) (c_copyFrom (d := 1) (by decide) (sk_sm hn10) hb) ?_
  rintro M9 rfl
  refine T.ald_0 (q := 14) dX3_keep_13 rfl ?_
  refine T.ald_0 (q := 15) dX3_keep_14 rfl ?_
  refine g_X3_16 rfl dX3_keep_15 (q := 18) rfl ?_
  rw [cpS_ne (by omega), hns]
  refine T.iconst (q := 19) (1) dX3_keep_18 rfl (by decide) ?_
  refine T.iadd (q := 20) dX3_keep_19 rfl ?_
  refine T.bipush (q := 22) (10) dX3_keep_20 rfl (by decide) ?_
  refine T.irem (q := 23) dX3_keep_22 rfl (by decide) ?_
  rw [show nI ns + 1 - (nI ns + 1) / 10 * 10 = nI ((ns + 1) % 10) from (by simp (disch := omega) only [sk_lit, nI_add, pk_mul, pk_div, pk_sub, sk_mod, nI_clamp, nI_1]; try (congr 1 <;> omega))]
  refine p_X3_16 rfl dX3_keep_23 (q := 26) rfl ?_
  refine T.ald_0 (q := 27) dX3_keep_26 rfl ?_
  refine T.bipush (q := 29) (10) dX3_keep_27 rfl (by decide) ?_
  refine T.ald_0 (q := 30) dX3_keep_29 rfl ?_
  refine g_X3_24 rfl dX3_keep_30 (q := 33) rfl ?_
  rw [sk_si_at, show ∀ w : Int32, upd ((cpS M (20 + 10 * ns) b).1 123) 2 w 1 = (cpS M (20 + 10 * ns) b).1 123 1 from fun w => rfl, cpS_ne (by omega), hsz]
  refine T.iconst (q := 34) (1) dX3_keep_33 rfl (by decide) ?_
  refine T.iadd (q := 35) dX3_keep_34 rfl ?_
  refine k_X3_27 rfl dX3_keep_35 (q := 38) rfl (by omega) (by decide) (by decide) (Nat.le_of_ble_eq_true rfl) ?_
  rw [nI_1, sk_lit 10, nImin (by decide) (by omega)]
  refine p_X3_24 rfl dX3_keep_38 (q := 41) rfl ?_
  exact T.retV rfl dX3_keep_41 (by decide) (by decide) rfl
theorem c_giveBack0 {G : sk_G} {d : Nat} {M : sk_M} {b : Nat} (hsz : M.1 123 1 = nI 0) : Ctr G mX3_giveBack d 0 0 [.ref (G.2.2.1 123), .ref (G.2.2.1 b)] M (rI fun r M' => r = 0 ∧ M' = M) noX := by
  refine Ctr.of 0 (by decide) (Nat.le_of_ble_eq_true rfl) ?_
  refine T.ald_0 (q := 1) dX3_giveBack_0 rfl ?_
  refine g_X3_24 rfl dX3_giveBack_1 (q := 4) rfl ?_
  rw [hsz]
  refine T.if_ne (tgt := 9) (q := 7) dX3_giveBack_4 (by decide) rfl (fun h4 => absurd (by decide) h4) (fun h4 => ?_)
  refine T.iconst (q := 8) (0) dX3_giveBack_7 rfl (by decide) ?_
  exact T.retZ rfl dX3_giveBack_8 (by decide) (by decide) rfl ⟨rfl, rfl⟩
theorem c_giveBack {G : sk_G} {d : Nat} {M : sk_M} {b ns sz : Nat} (hd : 1 < d) (hb : sk_sb b) (hns : M.1 123 2 = nI ns) (hn10 : ns < 10) (hsz : M.1 123 1 = nI sz) (hs0 : 0 < sz) (hs10 : sz ≤ 10) : Ctr G mX3_giveBack d 0 0 [.ref (G.2.2.1 123), .ref (G.2.2.1 b)] M (rI fun r M' => r = 1 ∧ M' = cpS (sk_si (sk_si M 123 2 (nI ((ns + 9) % 10))) 123 1 (nI (sz - 1))) b (20 + 10 * ((ns + 9) % 10))) noX := by
  refine Ctr.of 0 (by decide) (Nat.le_of_ble_eq_true rfl) ?_
  refine T.ald_0 (q := 1) dX3_giveBack_0 rfl ?_
  refine g_X3_24 rfl dX3_giveBack_1 (q := 4) rfl ?_
  rw [hsz]
  refine T.if_ne (tgt := 9) (q := 7) dX3_giveBack_4 (by decide) rfl (fun h4 => ?_) (fun h4 => absurd h4 (nI_ne0 hs0 (by omega)))
  refine T.ald_0 (q := 10) dX3_giveBack_9 rfl ?_
  refine T.ald_0 (q := 11) dX3_giveBack_10 rfl ?_
  refine g_X3_16 rfl dX3_giveBack_11 (q := 14) rfl ?_
  rw [hns]
  refine T.bipush (q := 16) (10) dX3_giveBack_14 rfl (by decide) ?_
  refine T.iadd (q := 17) dX3_giveBack_16 rfl ?_
  refine T.iconst (q := 18) (1) dX3_giveBack_17 rfl (by decide) ?_
  refine T.isub (q := 19) dX3_giveBack_18 rfl ?_
  refine T.bipush (q := 21) (10) dX3_giveBack_19 rfl (by decide) ?_
  refine T.irem (q := 22) dX3_giveBack_21 rfl (by decide) ?_
  rw [show nI ns + 10 - 1 - (nI ns + 10 - 1) / 10 * 10 = nI ((ns + 9) % 10) from (by simp (disch := omega) only [sk_lit, nI_add, pk_mul, pk_div, pk_sub, sk_mod, nI_clamp, nI_1]; try (congr 1 <;> omega))]
  refine p_X3_16 rfl dX3_giveBack_22 (q := 25) rfl ?_
  refine T.ald_0 (q := 26) dX3_giveBack_25 rfl ?_
  refine T.dup (q := 27) dX3_giveBack_26 rfl rfl ?_
  refine g_X3_24 rfl dX3_giveBack_27 (q := 30) rfl ?_
  rw [sk_si_at, show ∀ w : Int32, upd (M.1 123) 2 w 1 = M.1 123 1 from fun w => rfl, hsz]
  refine T.iconst (q := 31) (1) dX3_giveBack_30 rfl (by decide) ?_
  refine T.isub (q := 32) dX3_giveBack_31 rfl ?_
  rw [sk_lit 1, pk_sub (by omega)]
  refine p_X3_24 rfl dX3_giveBack_32 (q := 35) rfl ?_
  refine T.ald_1 (q := 36) dX3_giveBack_35 rfl ?_
  refine T.ald_0 (q := 37) dX3_giveBack_36 rfl ?_
  refine g_X3_11 rfl dX3_giveBack_37 (q := 40) rfl ?_
  refine T.ald_0 (q := 41) dX3_giveBack_40 rfl ?_
  refine g_X3_16 rfl dX3_giveBack_41 (q := 44) rfl ?_
  rw [show ∀ (A : sk_M) (w z : Int32), (sk_si (sk_si A 123 2 w) 123 1 z).1 123 2 = w from fun A w z => by simp [sk_si, upd]]
  refine T.aald (q := 45) dX3_giveBack_44 rfl (vp_in_nI (by omega) (by decide)) ?_
  rw [nI_clamp (by omega)]
  refine k_X3_20 hb rfl dX3_giveBack_45 (q := 48) rfl (by omega) (by decide) (by decide) (Nat.le_of_ble_eq_true rfl) (c_copyFrom (d := 1) (by decide) hb (sk_sm (by omega))) ?_
  rintro M9 rfl
  refine T.iconst (q := 49) (1) dX3_giveBack_48 rfl (by decide) ?_
  exact T.retZ rfl dX3_giveBack_49 (by decide) (by decide) rfl ⟨rfl, rfl⟩
