/-! State: the log, what is known, copies -/
theorem c_write {G : sk_G} {d : Nat} {M : sk_M} {b p v nr rw9 : Nat} {c h : Int32} (hd : 0 < d) (hb : sk_sb b) (hv : v < 6) (hn : M.1 b 11 = nI nr) (hnr : nr < 80) (hrw : M.1 b 10 = nI rw9) (hr8 : rw9 ≤ 80) : Ctr G mX5_write d 0 0 [.ref (G.2.2.1 b), .int (nI p), .int (nI v), .int c, .int h] M (rV fun M' => M' = wrM M b nr rw9 (M.1 b 5) (nI p) (nI v) c h (bI (c = M.1 (b + 1) v))) noX := by
  refine Ctr.of 1 (by decide) (Nat.le_of_ble_eq_true rfl) ?_
  have hb8 : b ≠ b + 8 := by omega
  have hb1 : b + 1 ≠ b + 8 := by omega
  refine T.ald_0 (q := 1) dX5_write_0 rfl ?_
  refine g_X5_78 hb rfl dX5_write_1 (q := 4) rfl ?_
  refine T.bipush (q := 6) (6) dX5_write_4 rfl (by decide) ?_
  refine T.imul (q := 7) dX5_write_6 rfl ?_
  rw [hn, show nI nr * 6 = nI (nr * 6) from (by simp (disch := omega) only [sk_lit, nI_add, pk_mul, pk_div, pk_sub, sk_mod, nI_clamp, nI_1]; try (congr 1 <;> omega))]
  refine T.ist_5 (q := 9) dX5_write_7 rfl (by decide) (by first | exact sk_ok_i | exact sk_ok_r | exact sk_ok_n) ?_
  refine T.ald_0 (q := 10) dX5_write_9 rfl ?_
  refine g_X5_40 hb rfl dX5_write_10 (q := 13) rfl ?_
  refine T.ild_5 (q := 15) dX5_write_13 rfl ?_
  refine T.iconst (q := 16) (0) dX5_write_15 rfl (by decide) ?_
  refine T.iadd (q := 17) dX5_write_16 rfl ?_
  rw [show nI (nr * 6) + 0 = nI (nr * 6) from (by simp (disch := omega) only [sk_lit, nI_add, pk_mul, pk_div, pk_sub, sk_mod, nI_clamp, nI_1]; try (congr 1 <;> omega))]
  refine T.ald_0 (q := 18) dX5_write_17 rfl ?_
  refine g_X5_63 hb rfl dX5_write_18 (q := 21) rfl ?_
  refine T.iast (sk_a8 hb).1 (sk_a8 hb).2.1 (sk_a8 hb).2.2 dX5_write_21 (q := 22) rfl (vp_in_nI (by omega) (by decide)) ?_
  rw [nI_clamp (by omega)]
  refine T.ald_0 (q := 23) dX5_write_22 rfl ?_
  refine g_X5_40 hb rfl dX5_write_23 (q := 26) rfl ?_
  refine T.ild_5 (q := 28) dX5_write_26 rfl ?_
  refine T.iconst (q := 29) (1) dX5_write_28 rfl (by decide) ?_
  refine T.iadd (q := 30) dX5_write_29 rfl ?_
  rw [show nI (nr * 6) + 1 = nI (nr * 6 + 1) from (by simp (disch := omega) only [sk_lit, nI_add, pk_mul, pk_div, pk_sub, sk_mod, nI_clamp, nI_1]; try (congr 1 <;> omega))]
  refine T.ild_1 (q := 31) dX5_write_30 rfl ?_
  refine T.iast (sk_a8 hb).1 (sk_a8 hb).2.1 (sk_a8 hb).2.2 dX5_write_31 (q := 32) rfl (vp_in_nI (by omega) (by decide)) ?_
  rw [nI_clamp (by omega)]
  refine T.ald_0 (q := 33) dX5_write_32 rfl ?_
  refine g_X5_40 hb rfl dX5_write_33 (q := 36) rfl ?_
  refine T.ild_5 (q := 38) dX5_write_36 rfl ?_
  refine T.iconst (q := 39) (2) dX5_write_38 rfl (by decide) ?_
  refine T.iadd (q := 40) dX5_write_39 rfl ?_
  rw [show nI (nr * 6) + 2 = nI (nr * 6 + 2) from (by simp (disch := omega) only [sk_lit, nI_add, pk_mul, pk_div, pk_sub, sk_mod, nI_clamp, nI_1]; try (congr 1 <;> omega))]
  refine T.ild_2 (q := 41) dX5_write_40 rfl ?_
  refine T.iast (sk_a8 hb).1 (sk_a8 hb).2.1 (sk_a8 hb).2.2 dX5_write_41 (q := 42) rfl (vp_in_nI (by omega) (by decide)) ?_
  rw [nI_clamp (by omega)]
  refine T.ald_0 (q := 43) dX5_write_42 rfl ?_
  refine g_X5_40 hb rfl dX5_write_43 (q := 46) rfl ?_
  refine T.ild_5 (q := 48) dX5_write_46 rfl ?_
  refine T.iconst (q := 49) (3) dX5_write_48 rfl (by decide) ?_
  refine T.iadd (q := 50) dX5_write_49 rfl ?_
  rw [show nI (nr * 6) + 3 = nI (nr * 6 + 3) from (by simp (disch := omega) only [sk_lit, nI_add, pk_mul, pk_div, pk_sub, sk_mod, nI_clamp, nI_1]; try (congr 1 <;> omega))]
  refine T.ild_3 (q := 51) dX5_write_50 rfl ?_
  refine T.iast (sk_a8 hb).1 (sk_a8 hb).2.1 (sk_a8 hb).2.2 dX5_write_51 (q := 52) rfl (vp_in_nI (by omega) (by decide)) ?_
  rw [nI_clamp (by omega)]
  refine T.ald_0 (q := 53) dX5_write_52 rfl ?_
  refine g_X5_40 hb rfl dX5_write_53 (q := 56) rfl ?_
  refine T.ild_5 (q := 58) dX5_write_56 rfl ?_
  refine T.iconst (q := 59) (4) dX5_write_58 rfl (by decide) ?_
  refine T.iadd (q := 60) dX5_write_59 rfl ?_
  rw [show nI (nr * 6) + 4 = nI (nr * 6 + 4) from (by simp (disch := omega) only [sk_lit, nI_add, pk_mul, pk_div, pk_sub, sk_mod, nI_clamp, nI_1]; try (congr 1 <;> omega))]
  refine T.ild_4 (q := 62) dX5_write_60 rfl ?_
  refine T.iast (sk_a8 hb).1 (sk_a8 hb).2.1 (sk_a8 hb).2.2 dX5_write_62 (q := 63) rfl (vp_in_nI (by omega) (by decide)) ?_
  rw [nI_clamp (by omega)]
  have J86 : ∀ z : Int32, z = bI (c = M.1 (b + 1) v) → TJ G mX5_write (sk_R d 0 0) (sk_K G 0 0 (rV fun M' => M' = wrM M b nr rw9 (M.1 b 5) (nI p) (nI v) c h (bI (c = M.1 (b + 1) v))) noX) 0 0 86 [some (.ref (G.2.2.1 b)), some (.int (nI p)), some (.int (nI v)), some (.int c), some (.int h), some (.int (nI (nr * 6)))] [.int z, .int (nI (nr * 6 + 5)), .ref (G.2.2.1 (b + 8))] (sk_si (sk_si (sk_si (sk_si (sk_si M (b + 8) (nr * 6) (M.1 b 5)) (b + 8) (nr * 6 + 1) (nI p)) (b + 8) (nr * 6 + 2) (nI v)) (b + 8) (nr * 6 + 3) c) (b + 8) (nr * 6 + 4) h) := by
    rintro z rfl
    refine T.iast (sk_a8 hb).1 (sk_a8 hb).2.1 (sk_a8 hb).2.2 dX5_write_86 (q := 87) rfl (vp_in_nI (by omega) (by decide)) ?_
    rw [nI_clamp (by omega)]
    refine T.ald_0 (q := 88) dX5_write_87 rfl ?_
    refine T.ald_0 (q := 89) dX5_write_88 rfl ?_
    refine g_X5_78 hb rfl dX5_write_89 (q := 92) rfl ?_
    simp only [sk_si_ne hb8]
    refine T.iconst (q := 93) (1) dX5_write_92 rfl (by decide) ?_
    refine T.iadd (q := 94) dX5_write_93 rfl ?_
    refine T.bipush (q := 96) (80) dX5_write_94 rfl (by decide) ?_
    refine T.irem (q := 97) dX5_write_96 rfl (by decide) ?_
    rw [hn, show nI nr + 1 - (nI nr + 1) / 80 * 80 = nI ((nr + 1) % 80) from (by simp (disch := omega) only [sk_lit, nI_add, pk_mul, pk_div, pk_sub, sk_mod, nI_clamp, nI_1]; try (congr 1 <;> omega))]
    refine p_X5_78 hb rfl dX5_write_97 (q := 100) rfl ?_
    refine T.ald_0 (q := 101) dX5_write_100 rfl ?_
    refine T.bipush (q := 103) (80) dX5_write_101 rfl (by decide) ?_
    refine T.ald_0 (q := 104) dX5_write_103 rfl ?_
    refine g_X5_75 hb rfl dX5_write_104 (q := 107) rfl ?_
    rw [show ∀ (A : sk_M) (w : Int32), (sk_si A b 11 w).1 b 10 = A.1 b 10 from fun A w => by rw [sk_si_at]; rfl]
    simp only [sk_si_ne hb8]
    refine T.iconst (q := 108) (1) dX5_write_107 rfl (by decide) ?_
    refine T.iadd (q := 109) dX5_write_108 rfl ?_
    refine k_X5_95 rfl dX5_write_109 (q := 112) rfl (by omega) (by decide) (by decide) (Nat.le_of_ble_eq_true rfl) ?_
    rw [hrw, nI_1, sk_lit 80, nImin (by decide) (by omega)]
    refine p_X5_75 hb rfl dX5_write_112 (q := 115) rfl ?_
    exact T.retV rfl dX5_write_115 (by decide) (by decide) rfl
  refine T.ald_0 (q := 64) dX5_write_63 rfl ?_
  refine g_X5_40 hb rfl dX5_write_64 (q := 67) rfl ?_
  refine T.ild_5 (q := 69) dX5_write_67 rfl ?_
  refine T.iconst (q := 70) (5) dX5_write_69 rfl (by decide) ?_
  refine T.iadd (q := 71) dX5_write_70 rfl ?_
  rw [show nI (nr * 6) + 5 = nI (nr * 6 + 5) from (by simp (disch := omega) only [sk_lit, nI_add, pk_mul, pk_div, pk_sub, sk_mod, nI_clamp, nI_1]; try (congr 1 <;> omega))]
  refine T.ild_3 (q := 72) dX5_write_71 rfl ?_
  refine T.ald_0 (q := 73) dX5_write_72 rfl ?_
  refine g_X5_18 hb rfl dX5_write_73 (q := 76) rfl ?_
  refine T.ild_2 (q := 77) dX5_write_76 rfl ?_
  refine T.iald (sk_a1 hb).1 (sk_a1 hb).2.1 (sk_a1 hb).2.2 dX5_write_77 (q := 78) rfl (vp_in_nI (by omega) (by decide)) ?_
  simp only [sk_si_ne hb1]
  rw [nI_clamp (by omega)]
  refine T.ic_ne (tgt := 85) (q := 81) dX5_write_78 (by decide) rfl (fun h78 => ?_) (fun h78 => ?_)
  · refine T.iconst (q := 86) (0) dX5_write_85 rfl (by decide) ?_
    exact J86 _ (by first | exact (bI_t (p := c = M.1 (b + 1) v) h78).symm | exact (bI_f (p := c = M.1 (b + 1) v) h78).symm)
  · refine T.iconst (q := 82) (1) dX5_write_81 rfl (by decide) ?_
    refine T.goto (tgt := 86) dX5_write_82 (by decide) ?_
    exact J86 _ (by first | exact (bI_t (p := c = M.1 (b + 1) v) h78).symm | exact (bI_f (p := c = M.1 (b + 1) v) h78).symm)
theorem l_know1 {G : sk_G} {E : sk_E} {d mR sR cells slots : Nat} {M : sk_M} {b p v : Nat} {x1 x2 : Value} {x6 : Option Value} (hb : sk_sb b) (hp : p < 6) (hv : v < 6) (hc : cells ≤ mR) (hs : slots ≤ sR) (hk : TJ G mX5_know (sk_R d mR sR) E cells slots 34 [some (.ref (G.2.2.1 b)), some x1, some x2, some (.ref (G.2.2.1 130)), some (.int (nI (4 * (6 * p + v)))), some (.int (nI (4 * (6 * p + v) + (4)))), x6] [] (z4 M (b + 9) (4 * (6 * p + v)) (4))) : ∀ n i : Nat, i + n = 4 → TJ G mX5_know (sk_R d mR sR) E cells slots 11 [some (.ref (G.2.2.1 b)), some x1, some x2, some (.ref (G.2.2.1 130)), some (.int (nI (4 * (6 * p + v)))), some (.int (nI (4 * (6 * p + v) + i))), x6] [] (z4 M (b + 9) (4 * (6 * p + v)) i) := by
  intro n
  induction n with
  | zero =>
    intro i hi
    obtain rfl : i = 4 := by omega
    refine T.ild_5 (q := 13) dX5_know_11 rfl ?_
    refine T.ild_4 (q := 15) dX5_know_13 rfl ?_
    refine T.iconst (q := 16) (4) dX5_know_15 rfl (by decide) ?_
    refine T.iadd (q := 17) dX5_know_16 rfl ?_
    rw [show nI (4 * (6 * p + v)) + 4 = nI (4 * (6 * p + v) + 4) from (by simp (disch := omega) only [sk_lit, nI_add, pk_mul, pk_div, pk_sub, sk_mod, nI_clamp, nI_1]; try (congr 1 <;> omega))]
    refine T.ic_ge (tgt := 34) (q := 20) dX5_know_17 (by decide) rfl (fun h17 => ?_) (fun h17 => absurd (nI_le (Nat.le_refl _) (by omega)) h17)
    exact hk
  | succ n ih =>
    intro i hi
    refine T.ild_5 (q := 13) dX5_know_11 rfl ?_
    refine T.ild_4 (q := 15) dX5_know_13 rfl ?_
    refine T.iconst (q := 16) (4) dX5_know_15 rfl (by decide) ?_
    refine T.iadd (q := 17) dX5_know_16 rfl ?_
    rw [show nI (4 * (6 * p + v)) + 4 = nI (4 * (6 * p + v) + 4) from (by simp (disch := omega) only [sk_lit, nI_add, pk_mul, pk_div, pk_sub, sk_mod, nI_clamp, nI_1]; try (congr 1 <;> omega))]
    refine T.ic_ge (tgt := 34) (q := 20) dX5_know_17 (by decide) rfl (fun h17 => absurd h17 (nI_ge (by omega) (by omega))) (fun h17 => ?_)
    refine T.ald_0 (q := 21) dX5_know_20 rfl ?_
    refine g_X5_43 hb rfl dX5_know_21 (q := 24) rfl ?_
    refine T.ild_5 (q := 26) dX5_know_24 rfl ?_
    refine T.lconst (q := 27) (0) dX5_know_26 rfl (by decide) ?_
    refine T.last (sk_kn hb).1 (sk_kn hb).2.1 (sk_kn hb).2.2 dX5_know_27 (q := 28) rfl (vp_in_nI (by omega) (by decide)) ?_
    refine T.inc_5 (q := 31) (1) dX5_know_28 rfl (by decide) (by decide) (by first | exact sk_ok_i | exact sk_ok_r | exact sk_ok_n) ?_
    refine T.goto (tgt := 11) dX5_know_31 (by decide) ?_
    rw [nI_1, nI_clamp (by omega)]
    exact ih (i + 1) (by omega)
theorem l_know2 {G : sk_G} {E : sk_E} {d mR sR cells slots : Nat} {M : sk_M} {b p v sz : Nat} {x1 x2 : Value} {f : Nat → Nat} (hb : sk_sb b) (hp : p < 6) (hv : v < 6) (hsz : M.1 130 8 = nI sz) (hs6 : sz ≤ 216) (hf : ∀ i, i < sz → M.1 131 i = nI (f i) ∧ f i < 216) (hc : cells ≤ mR) (hs : slots ≤ sR) (hk : ∀ x6, TJ G mX5_know (sk_R d mR sR) E cells slots 84 [some (.ref (G.2.2.1 b)), some x1, some x2, some (.ref (G.2.2.1 130)), some (.int (nI (4 * (6 * p + v)))), some (.int (nI sz)), x6] [] (orB M (b + 9) (4 * (6 * p + v)) f sz)) : ∀ n i : Nat, i + n = sz → ∀ x6, TJ G mX5_know (sk_R d mR sR) E cells slots 37 [some (.ref (G.2.2.1 b)), some x1, some x2, some (.ref (G.2.2.1 130)), some (.int (nI (4 * (6 * p + v)))), some (.int (nI i)), x6] [] (orB M (b + 9) (4 * (6 * p + v)) f i) := by
  intro n
  induction n with
  | zero =>
    intro i hi x6
    obtain rfl : i = sz := by omega
    refine T.ild_5 (q := 39) dX5_know_37 rfl ?_
    refine T.ald_3 (q := 40) dX5_know_39 rfl ?_
    refine g_X5_112 rfl dX5_know_40 (q := 43) rfl ?_
    rw [orB_1, hsz]
    refine T.ic_ge (tgt := 84) (q := 46) dX5_know_43 (by decide) rfl (fun h43 => ?_) (fun h43 => absurd (nI_le (Nat.le_refl _) (by omega)) h43)
    exact hk _
  | succ n ih =>
    intro i hi x6
    have hfi := hf i (by omega)
    refine T.ild_5 (q := 39) dX5_know_37 rfl ?_
    refine T.ald_3 (q := 40) dX5_know_39 rfl ?_
    refine g_X5_112 rfl dX5_know_40 (q := 43) rfl ?_
    rw [orB_1, hsz]
    refine T.ic_ge (tgt := 84) (q := 46) dX5_know_43 (by decide) rfl (fun h43 => absurd h43 (nI_ge (by omega) (by omega))) (fun h43 => ?_)
    refine T.ald_3 (q := 47) dX5_know_46 rfl ?_
    refine g_X5_117 rfl dX5_know_47 (q := 50) rfl ?_
    refine T.ild_5 (q := 52) dX5_know_50 rfl ?_
    refine T.iald (n := 216) rfl rfl (by decide) dX5_know_52 (q := 53) rfl (vp_in_nI (by omega) (by decide)) ?_
    rw [nI_clamp (by omega), orB_1, hfi.1]
    refine T.ist_6 (q := 55) dX5_know_53 rfl (by decide) (by first | exact sk_ok_i | exact sk_ok_r | exact sk_ok_n) ?_
    refine T.ald_0 (q := 56) dX5_know_55 rfl ?_
    refine g_X5_43 hb rfl dX5_know_56 (q := 59) rfl ?_
    refine T.ild_4 (q := 61) dX5_know_59 rfl ?_
    refine T.ild_6 (q := 63) dX5_know_61 rfl ?_
    refine T.bipush (q := 65) (64) dX5_know_63 rfl (by decide) ?_
    refine T.idiv (q := 66) dX5_know_65 rfl (by decide) ?_
    refine T.iadd (q := 67) dX5_know_66 rfl ?_
    rw [show nI (4 * (6 * p + v)) + nI (f i) / 64 = nI (4 * (6 * p + v) + f i / 64) from (by simp (disch := omega) only [sk_lit, nI_add, pk_mul, pk_div, pk_sub, sk_mod, nI_clamp, nI_1]; try (congr 1 <;> omega))]
    refine T.dup2 (q := 68) dX5_know_67 rfl rfl rfl ?_
    refine T.lald (sk_kn hb).1 (sk_kn hb).2.1 (sk_kn hb).2.2 dX5_know_68 (q := 69) rfl (vp_in_nI (by omega) (by decide)) ?_
    rw [nI_clamp (by omega)]
    refine T.lconst (q := 70) (1) dX5_know_69 rfl (by decide) ?_
    refine T.ild_6 (q := 72) dX5_know_70 rfl ?_
    refine T.bipush (q := 74) (64) dX5_know_72 rfl (by decide) ?_
    refine T.irem (q := 75) dX5_know_74 rfl (by decide) ?_
    rw [show nI (f i) - nI (f i) / 64 * 64 = nI (f i % 64) from (by simp (disch := omega) only [sk_lit, nI_add, pk_mul, pk_div, pk_sub, sk_mod, nI_clamp, nI_1]; try (congr 1 <;> omega))]
    refine T.lshl (q := 76) dX5_know_75 rfl ?_
    refine T.lor (q := 77) dX5_know_76 rfl ?_
    refine T.last (sk_kn hb).1 (sk_kn hb).2.1 (sk_kn hb).2.2 dX5_know_77 (q := 78) rfl (vp_in_nI (by omega) (by decide)) ?_
    rw [nI_clamp (by omega)]
    refine T.inc_5 (q := 81) (1) dX5_know_78 rfl (by decide) (by decide) (by first | exact sk_ok_i | exact sk_ok_r | exact sk_ok_n) ?_
    refine T.goto (tgt := 37) dX5_know_81 (by decide) ?_
    rw [nI_1]
    exact ih (i + 1) (by omega) _
theorem c_know {G : sk_G} {d : Nat} {M : sk_M} {b p v sz : Nat} {f : Nat → Nat} (hd : 0 < d) (hb : sk_sb b) (hp : p < 6) (hv : v < 6) (hsz : M.1 130 8 = nI sz) (hs6 : sz ≤ 216) (hf : ∀ i, i < sz → M.1 131 i = nI (f i) ∧ f i < 216) : Ctr G mX5_know d 0 0 [.ref (G.2.2.1 b), .int (nI p), .int (nI v), .ref (G.2.2.1 130)] M (rV fun M' => M' = orB (z4 M (b + 9) (4 * (6 * p + v)) 4) (b + 9) (4 * (6 * p + v)) f sz) noX := by
  refine Ctr.of 3 (by decide) (Nat.le_of_ble_eq_true rfl) ?_
  refine T.ild_1 (q := 1) dX5_know_0 rfl ?_
  refine T.ild_2 (q := 2) dX5_know_1 rfl ?_
  refine k_X5_103 rfl dX5_know_2 (q := 5) rfl (by omega) (by decide) (by decide) (Nat.le_of_ble_eq_true rfl) (c_wordsOf (d := 0)) ?_
  rintro r M9 ⟨rfl, hM9⟩
  obtain rfl := hM9.symm
  refine T.ist_4 (q := 7) dX5_know_5 rfl (by decide) (by first | exact sk_ok_i | exact sk_ok_r | exact sk_ok_n) ?_
  refine T.ild_4 (q := 9) dX5_know_7 rfl ?_
  refine T.ist_5 (q := 11) dX5_know_9 rfl (by decide) (by first | exact sk_ok_i | exact sk_ok_r | exact sk_ok_n) ?_
  refine l_know1 hb hp hv (Nat.le_refl 0) (Nat.le_refl 0) ?_ 4 0 rfl
  refine T.iconst (q := 35) (0) dX5_know_34 rfl (by decide) ?_
  refine T.ist_5 (q := 37) dX5_know_35 rfl (by decide) (by first | exact sk_ok_i | exact sk_ok_r | exact sk_ok_n) ?_
  refine l_know2 (M := z4 M (b + 9) (4 * (6 * p + v)) 4) (f := f) hb hp hv (by rw [z4_1]; exact hsz) hs6 (fun i hi => by rw [z4_1]; exact hf i hi) (Nat.le_refl 0) (Nat.le_refl 0) ?_ sz 0 (Nat.zero_add sz) _
  intro x6
  exact T.retV rfl dX5_know_84 (by decide) (by decide) rfl
theorem l_obey1 {G : sk_G} {E : sk_E} {d mR sR cells slots : Nat} {M : sk_M} {b p nv : Nat} {x1 : Value} {x2 : Int32} (hd : 1 < d) (hb : sk_sb b) (hp : p < 6) (hnv : M.1 b 0 = nI nv) (hn6 : nv ≤ 6) (hc : cells ≤ mR) (hs : slots ≤ sR) (hk : TJ G mX5_obey (sk_R d mR sR) E cells slots 55 [some (.ref (G.2.2.1 b)), some x1, some (.int x2), some (.int (nI p)), some (.int (nI (nv)))] [] (knB M (b + 9) p (nv))) : ∀ n i : Nat, i + n = nv → TJ G mX5_obey (sk_R d mR sR) E cells slots 33 [some (.ref (G.2.2.1 b)), some x1, some (.int x2), some (.int (nI p)), some (.int (nI i))] [] (knB M (b + 9) p i) := by
  intro n
  induction n with
  | zero =>
    intro i hi
    obtain rfl : i = nv := by omega
    refine T.ild_4 (q := 35) dX5_obey_33 rfl ?_
    refine T.ald_0 (q := 36) dX5_obey_35 rfl ?_
    refine g_X5_51 hb rfl dX5_obey_36 (q := 39) rfl ?_
    rw [knB_1, hnv]
    refine T.ic_ge (tgt := 55) (q := 42) dX5_obey_39 (by decide) rfl (fun h39 => ?_) (fun h39 => absurd (nI_le (Nat.le_refl _) (by omega)) h39)
    exact hk
  | succ n ih =>
    intro i hi
    refine T.ild_4 (q := 35) dX5_obey_33 rfl ?_
    refine T.ald_0 (q := 36) dX5_obey_35 rfl ?_
    refine g_X5_51 hb rfl dX5_obey_36 (q := 39) rfl ?_
    rw [knB_1, hnv]
    refine T.ic_ge (tgt := 55) (q := 42) dX5_obey_39 (by decide) rfl (fun h39 => absurd h39 (nI_ge (by omega) (by omega))) (fun h39 => ?_)
    refine T.ald_0 (q := 43) dX5_obey_42 rfl ?_
    refine T.ild_3 (q := 44) dX5_obey_43 rfl ?_
    refine T.ild_4 (q := 46) dX5_obey_44 rfl ?_
    refine k_X5_87 hb rfl dX5_obey_46 (q := 49) rfl (by omega) hc hs (Nat.le_of_ble_eq_true rfl) (c_knowNothing (d := 1) (by decide) hb hp (by omega)) ?_
    rintro M9 rfl
    refine T.inc_4 (q := 52) (1) dX5_obey_49 rfl (by decide) (by decide) (by first | exact sk_ok_i | exact sk_ok_r | exact sk_ok_n) ?_
    refine T.goto (tgt := 33) dX5_obey_52 (by decide) ?_
    rw [nI_1]
    exact ih (i + 1) (by omega)
theorem l_obey2 {G : sk_G} {E : sk_E} {d mR sR cells slots : Nat} {M : sk_M} {b np nv : Nat} {x1 : Value} {x2 : Int32} (hd : 1 < d) (hb : sk_sb b) (hnp : M.1 b 1 = nI np) (hp6 : np ≤ 6) (hnv : M.1 b 0 = nI nv) (hn6 : nv ≤ 6) (hc : cells ≤ mR) (hs : slots ≤ sR) (hk : ∀ x4, TJ G mX5_obey (sk_R d mR sR) E cells slots 61 [some (.ref (G.2.2.1 b)), some x1, some (.int x2), some (.int (nI np)), x4] [] (knC M (b + 9) nv np)) : ∀ n i : Nat, i + n = np → ∀ x4, TJ G mX5_obey (sk_R d mR sR) E cells slots 22 [some (.ref (G.2.2.1 b)), some x1, some (.int x2), some (.int (nI i)), x4] [] (knC M (b + 9) nv i) := by
  intro n
  induction n with
  | zero =>
    intro i hi x4
    obtain rfl : i = np := by omega
    refine T.ild_3 (q := 23) dX5_obey_22 rfl ?_
    refine T.ald_0 (q := 24) dX5_obey_23 rfl ?_
    refine g_X5_54 hb rfl dX5_obey_24 (q := 27) rfl ?_
    rw [knC_1, hnp]
    refine T.ic_ge (tgt := 61) (q := 30) dX5_obey_27 (by decide) rfl (fun h27 => ?_) (fun h27 => absurd (nI_le (Nat.le_refl _) (by omega)) h27)
    exact hk _
  | succ n ih =>
    intro i hi x4
    refine T.ild_3 (q := 23) dX5_obey_22 rfl ?_
    refine T.ald_0 (q := 24) dX5_obey_23 rfl ?_
    refine g_X5_54 hb rfl dX5_obey_24 (q := 27) rfl ?_
    rw [knC_1, hnp]
    refine T.ic_ge (tgt := 61) (q := 30) dX5_obey_27 (by decide) rfl (fun h27 => absurd h27 (nI_ge (by omega) (by omega))) (fun h27 => ?_)
    refine T.iconst (q := 31) (0) dX5_obey_30 rfl (by decide) ?_
    refine T.ist_4 (q := 33) dX5_obey_31 rfl (by decide) (by first | exact sk_ok_i | exact sk_ok_r | exact sk_ok_n) ?_
    refine l_obey1 hd hb (by omega) (by rw [knC_1]; exact hnv) hn6 hc hs ?_ nv 0 (Nat.zero_add nv)
    refine T.inc_3 (q := 58) (1) dX5_obey_55 rfl (by decide) (by decide) (by first | exact sk_ok_i | exact sk_ok_r | exact sk_ok_n) ?_
    refine T.goto (tgt := 22) dX5_obey_58 (by decide) ?_
    rw [nI_1]
    exact ih (i + 1) (by omega) _
theorem c_obey {G : sk_G} {d : Nat} {M : sk_M} {b np nv : Nat} {ln : Int32} (hd : 1 < d) (hb : sk_sb b) (hnp : M.1 b 1 = nI np) (hp6 : np ≤ 6) (hnv : M.1 b 0 = nI nv) (hn6 : nv ≤ 6) : Ctr G mX5_obey d 0 0 [.ref (G.2.2.1 b), .ref (G.2.2.1 127), .int ln] M (rV fun M' => M' = knC (obA M b ln) (b + 9) nv np) noX := by
  refine Ctr.of 2 (by decide) (Nat.le_of_ble_eq_true rfl) ?_
  refine T.ald_1 (q := 1) dX5_obey_0 rfl ?_
  refine T.iconst (q := 2) (0) dX5_obey_1 rfl (by decide) ?_
  refine T.ald_0 (q := 3) dX5_obey_2 rfl ?_
  refine g_X5_37 hb rfl dX5_obey_3 (q := 6) rfl ?_
  refine T.iconst (q := 7) (0) dX5_obey_6 rfl (by decide) ?_
  refine T.ald_0 (q := 8) dX5_obey_7 rfl ?_
  refine g_X5_37 hb rfl dX5_obey_8 (q := 11) rfl ?_
  refine T.alenI (108) (sk_a7 hb).1 (sk_a7 hb).2.2 (by rw [(sk_a7 hb).2.1]; rfl) dX5_obey_11 (q := 12) rfl ?_
  refine T.cpI (N := 108) w_X5_81 rfl ((⟨rfl, rfl, by decide⟩ : sk_kd 127 = 10 ∧ sk_ln 127 = 108 ∧ 127 < 159)).1 (sk_a7 hb).1 ((⟨rfl, rfl, by decide⟩ : sk_kd 127 = 10 ∧ sk_ln 127 = 108 ∧ 127 < 159)).2.2 (sk_a7 hb).2.2 ((⟨rfl, rfl, by decide⟩ : sk_kd 127 = 10 ∧ sk_ln 127 = 108 ∧ 127 < 159)).2.1 (sk_a7 hb).2.1 rfl (by decide) (by omega) dX5_obey_12 (q := 15) rfl ?_
  refine T.ald_0 (q := 16) dX5_obey_15 rfl ?_
  refine T.ild_2 (q := 17) dX5_obey_16 rfl ?_
  refine p_X5_11 hb rfl dX5_obey_17 (q := 20) rfl ?_
  refine T.iconst (q := 21) (0) dX5_obey_20 rfl (by decide) ?_
  refine T.ist_3 (q := 22) dX5_obey_21 rfl (by decide) (by first | exact sk_ok_i | exact sk_ok_r | exact sk_ok_n) ?_
  have e7 : ∀ k, (obA M b ln).1 b k = if k = 4 then ln else M.1 b k := by
    intro k
    simp only [obA, sk_si_at, upd, sk_ri, if_neg (show b ≠ b + 7 by omega)]
  refine l_obey2 (M := obA M b ln) hd hb (by rw [e7]; exact hnp) hp6 (by rw [e7]; exact hnv) hn6 (Nat.le_refl 0) (Nat.le_refl 0) ?_ np 0 (Nat.zero_add np) _
  intro x4
  exact T.retV rfl dX5_obey_61 (by decide) (by decide) rfl
theorem c_copyFrom {G : sk_G} {d : Nat} {M : sk_M} {b o : Nat} (hd : 0 < d) (hb : sk_sb b) (ho : sk_sb o) : Ctr G mX5_copyFrom d 0 0 [.ref (G.2.2.1 b), .ref (G.2.2.1 o)] M (rV fun M' => M' = cpS M b o) noX := by
  refine Ctr.of 0 (by decide) (Nat.le_of_ble_eq_true rfl) ?_
  refine T.ald_0 (q := 1) dX5_copyFrom_0 rfl ?_
  refine T.ald_1 (q := 2) dX5_copyFrom_1 rfl ?_
  refine g_X5_51 ho rfl dX5_copyFrom_2 (q := 5) rfl ?_
  refine p_X5_51 hb rfl dX5_copyFrom_5 (q := 8) rfl ?_
  refine T.ald_0 (q := 9) dX5_copyFrom_8 rfl ?_
  refine T.ald_1 (q := 10) dX5_copyFrom_9 rfl ?_
  refine g_X5_54 ho rfl dX5_copyFrom_10 (q := 13) rfl ?_
  refine p_X5_54 hb rfl dX5_copyFrom_13 (q := 16) rfl ?_
  refine T.ald_0 (q := 17) dX5_copyFrom_16 rfl ?_
  refine T.ald_1 (q := 18) dX5_copyFrom_17 rfl ?_
  refine g_X5_57 ho rfl dX5_copyFrom_18 (q := 21) rfl ?_
  refine p_X5_57 hb rfl dX5_copyFrom_21 (q := 24) rfl ?_
  refine T.ald_0 (q := 25) dX5_copyFrom_24 rfl ?_
  refine T.ald_1 (q := 26) dX5_copyFrom_25 rfl ?_
  refine g_X5_60 ho rfl dX5_copyFrom_26 (q := 29) rfl ?_
  refine p_X5_60 hb rfl dX5_copyFrom_29 (q := 32) rfl ?_
  refine T.ald_0 (q := 33) dX5_copyFrom_32 rfl ?_
  refine T.ald_1 (q := 34) dX5_copyFrom_33 rfl ?_
  refine g_X5_11 ho rfl dX5_copyFrom_34 (q := 37) rfl ?_
  refine p_X5_11 hb rfl dX5_copyFrom_37 (q := 40) rfl ?_
  refine T.ald_0 (q := 41) dX5_copyFrom_40 rfl ?_
  refine T.ald_1 (q := 42) dX5_copyFrom_41 rfl ?_
  refine g_X5_63 ho rfl dX5_copyFrom_42 (q := 45) rfl ?_
  refine p_X5_63 hb rfl dX5_copyFrom_45 (q := 48) rfl ?_
  refine T.ald_0 (q := 49) dX5_copyFrom_48 rfl ?_
  refine T.ald_1 (q := 50) dX5_copyFrom_49 rfl ?_
  refine g_X5_66 ho rfl dX5_copyFrom_50 (q := 53) rfl ?_
  refine p_X5_66 hb rfl dX5_copyFrom_53 (q := 56) rfl ?_
  refine T.ald_0 (q := 57) dX5_copyFrom_56 rfl ?_
  refine T.ald_1 (q := 58) dX5_copyFrom_57 rfl ?_
  refine g_X5_15 ho rfl dX5_copyFrom_58 (q := 61) rfl ?_
  refine p_X5_15 hb rfl dX5_copyFrom_61 (q := 64) rfl ?_
  refine T.ald_0 (q := 65) dX5_copyFrom_64 rfl ?_
  refine T.ald_1 (q := 66) dX5_copyFrom_65 rfl ?_
  refine g_X5_69 ho rfl dX5_copyFrom_66 (q := 69) rfl ?_
  refine p_X5_69 hb rfl dX5_copyFrom_69 (q := 72) rfl ?_
  refine T.ald_0 (q := 73) dX5_copyFrom_72 rfl ?_
  refine T.ald_1 (q := 74) dX5_copyFrom_73 rfl ?_
  refine g_X5_72 ho rfl dX5_copyFrom_74 (q := 77) rfl ?_
  refine p_X5_72 hb rfl dX5_copyFrom_77 (q := 80) rfl ?_
  refine T.ald_0 (q := 81) dX5_copyFrom_80 rfl ?_
  refine T.ald_1 (q := 82) dX5_copyFrom_81 rfl ?_
  refine g_X5_75 ho rfl dX5_copyFrom_82 (q := 85) rfl ?_
  refine p_X5_75 hb rfl dX5_copyFrom_85 (q := 88) rfl ?_
  refine T.ald_0 (q := 89) dX5_copyFrom_88 rfl ?_
  refine T.ald_1 (q := 90) dX5_copyFrom_89 rfl ?_
  refine g_X5_78 ho rfl dX5_copyFrom_90 (q := 93) rfl ?_
  refine p_X5_78 hb rfl dX5_copyFrom_93 (q := 96) rfl ?_
  refine T.ald_1 (q := 97) dX5_copyFrom_96 rfl ?_
  refine g_X5_18 ho rfl dX5_copyFrom_97 (q := 100) rfl ?_
  refine T.iconst (q := 101) (0) dX5_copyFrom_100 rfl (by decide) ?_
  refine T.ald_0 (q := 102) dX5_copyFrom_101 rfl ?_
  refine g_X5_18 hb rfl dX5_copyFrom_102 (q := 105) rfl ?_
  refine T.iconst (q := 106) (0) dX5_copyFrom_105 rfl (by decide) ?_
  refine T.ald_0 (q := 107) dX5_copyFrom_106 rfl ?_
  refine g_X5_18 hb rfl dX5_copyFrom_107 (q := 110) rfl ?_
  refine T.alenI (6) (sk_a1 hb).1 (sk_a1 hb).2.2 (by rw [(sk_a1 hb).2.1]; rfl) dX5_copyFrom_110 (q := 111) rfl ?_
  refine T.cpI (N := 6) w_X5_81 rfl (sk_a1 ho).1 (sk_a1 hb).1 (sk_a1 ho).2.2 (sk_a1 hb).2.2 (sk_a1 ho).2.1 (sk_a1 hb).2.1 rfl (by decide) (by omega) dX5_copyFrom_111 (q := 114) rfl ?_
  refine T.ald_1 (q := 115) dX5_copyFrom_114 rfl ?_
  refine g_X5_22 ho rfl dX5_copyFrom_115 (q := 118) rfl ?_
  refine T.iconst (q := 119) (0) dX5_copyFrom_118 rfl (by decide) ?_
  refine T.ald_0 (q := 120) dX5_copyFrom_119 rfl ?_
  refine g_X5_22 hb rfl dX5_copyFrom_120 (q := 123) rfl ?_
  refine T.iconst (q := 124) (0) dX5_copyFrom_123 rfl (by decide) ?_
  refine T.ald_0 (q := 125) dX5_copyFrom_124 rfl ?_
  refine g_X5_22 hb rfl dX5_copyFrom_125 (q := 128) rfl ?_
  refine T.alenI (6) (sk_a2 hb).1 (sk_a2 hb).2.2 (by rw [(sk_a2 hb).2.1]; rfl) dX5_copyFrom_128 (q := 129) rfl ?_
  refine T.cpI (N := 6) w_X5_81 rfl (sk_a2 ho).1 (sk_a2 hb).1 (sk_a2 ho).2.2 (sk_a2 hb).2.2 (sk_a2 ho).2.1 (sk_a2 hb).2.1 rfl (by decide) (by omega) dX5_copyFrom_129 (q := 132) rfl ?_
  refine T.ald_1 (q := 133) dX5_copyFrom_132 rfl ?_
  refine g_X5_25 ho rfl dX5_copyFrom_133 (q := 136) rfl ?_
  refine T.iconst (q := 137) (0) dX5_copyFrom_136 rfl (by decide) ?_
  refine T.ald_0 (q := 138) dX5_copyFrom_137 rfl ?_
  refine g_X5_25 hb rfl dX5_copyFrom_138 (q := 141) rfl ?_
  refine T.iconst (q := 142) (0) dX5_copyFrom_141 rfl (by decide) ?_
  refine T.ald_0 (q := 143) dX5_copyFrom_142 rfl ?_
  refine g_X5_25 hb rfl dX5_copyFrom_143 (q := 146) rfl ?_
  refine T.alenI (6) (sk_a3 hb).1 (sk_a3 hb).2.2 (by rw [(sk_a3 hb).2.1]; rfl) dX5_copyFrom_146 (q := 147) rfl ?_
  refine T.cpI (N := 6) w_X5_81 rfl (sk_a3 ho).1 (sk_a3 hb).1 (sk_a3 ho).2.2 (sk_a3 hb).2.2 (sk_a3 ho).2.1 (sk_a3 hb).2.1 rfl (by decide) (by omega) dX5_copyFrom_147 (q := 150) rfl ?_
  refine T.ald_1 (q := 151) dX5_copyFrom_150 rfl ?_
  refine g_X5_28 ho rfl dX5_copyFrom_151 (q := 154) rfl ?_
  refine T.iconst (q := 155) (0) dX5_copyFrom_154 rfl (by decide) ?_
  refine T.ald_0 (q := 156) dX5_copyFrom_155 rfl ?_
  refine g_X5_28 hb rfl dX5_copyFrom_156 (q := 159) rfl ?_
  refine T.iconst (q := 160) (0) dX5_copyFrom_159 rfl (by decide) ?_
  refine T.ald_0 (q := 161) dX5_copyFrom_160 rfl ?_
  refine g_X5_28 hb rfl dX5_copyFrom_161 (q := 164) rfl ?_
  refine T.alenI (12) (sk_a4 hb).1 (sk_a4 hb).2.2 (by rw [(sk_a4 hb).2.1]; rfl) dX5_copyFrom_164 (q := 165) rfl ?_
  refine T.cpI (N := 12) w_X5_81 rfl (sk_a4 ho).1 (sk_a4 hb).1 (sk_a4 ho).2.2 (sk_a4 hb).2.2 (sk_a4 ho).2.1 (sk_a4 hb).2.1 rfl (by decide) (by omega) dX5_copyFrom_165 (q := 168) rfl ?_
  refine T.ald_1 (q := 169) dX5_copyFrom_168 rfl ?_
  refine g_X5_31 ho rfl dX5_copyFrom_169 (q := 172) rfl ?_
  refine T.iconst (q := 173) (0) dX5_copyFrom_172 rfl (by decide) ?_
  refine T.ald_0 (q := 174) dX5_copyFrom_173 rfl ?_
  refine g_X5_31 hb rfl dX5_copyFrom_174 (q := 177) rfl ?_
  refine T.iconst (q := 178) (0) dX5_copyFrom_177 rfl (by decide) ?_
  refine T.ald_0 (q := 179) dX5_copyFrom_178 rfl ?_
  refine g_X5_31 hb rfl dX5_copyFrom_179 (q := 182) rfl ?_
  refine T.alenI (12) (sk_a5 hb).1 (sk_a5 hb).2.2 (by rw [(sk_a5 hb).2.1]; rfl) dX5_copyFrom_182 (q := 183) rfl ?_
  refine T.cpI (N := 12) w_X5_81 rfl (sk_a5 ho).1 (sk_a5 hb).1 (sk_a5 ho).2.2 (sk_a5 hb).2.2 (sk_a5 ho).2.1 (sk_a5 hb).2.1 rfl (by decide) (by omega) dX5_copyFrom_183 (q := 186) rfl ?_
  refine T.ald_1 (q := 187) dX5_copyFrom_186 rfl ?_
  refine g_X5_34 ho rfl dX5_copyFrom_187 (q := 190) rfl ?_
  refine T.iconst (q := 191) (0) dX5_copyFrom_190 rfl (by decide) ?_
  refine T.ald_0 (q := 192) dX5_copyFrom_191 rfl ?_
  refine g_X5_34 hb rfl dX5_copyFrom_192 (q := 195) rfl ?_
  refine T.iconst (q := 196) (0) dX5_copyFrom_195 rfl (by decide) ?_
  refine T.ald_0 (q := 197) dX5_copyFrom_196 rfl ?_
  refine g_X5_34 hb rfl dX5_copyFrom_197 (q := 200) rfl ?_
  refine T.alenI (12) (sk_a6 hb).1 (sk_a6 hb).2.2 (by rw [(sk_a6 hb).2.1]; rfl) dX5_copyFrom_200 (q := 201) rfl ?_
  refine T.cpI (N := 12) w_X5_81 rfl (sk_a6 ho).1 (sk_a6 hb).1 (sk_a6 ho).2.2 (sk_a6 hb).2.2 (sk_a6 ho).2.1 (sk_a6 hb).2.1 rfl (by decide) (by omega) dX5_copyFrom_201 (q := 204) rfl ?_
  refine T.ald_1 (q := 205) dX5_copyFrom_204 rfl ?_
  refine g_X5_37 ho rfl dX5_copyFrom_205 (q := 208) rfl ?_
  refine T.iconst (q := 209) (0) dX5_copyFrom_208 rfl (by decide) ?_
  refine T.ald_0 (q := 210) dX5_copyFrom_209 rfl ?_
  refine g_X5_37 hb rfl dX5_copyFrom_210 (q := 213) rfl ?_
  refine T.iconst (q := 214) (0) dX5_copyFrom_213 rfl (by decide) ?_
  refine T.ald_0 (q := 215) dX5_copyFrom_214 rfl ?_
  refine g_X5_37 hb rfl dX5_copyFrom_215 (q := 218) rfl ?_
  refine T.alenI (108) (sk_a7 hb).1 (sk_a7 hb).2.2 (by rw [(sk_a7 hb).2.1]; rfl) dX5_copyFrom_218 (q := 219) rfl ?_
  refine T.cpI (N := 108) w_X5_81 rfl (sk_a7 ho).1 (sk_a7 hb).1 (sk_a7 ho).2.2 (sk_a7 hb).2.2 (sk_a7 ho).2.1 (sk_a7 hb).2.1 rfl (by decide) (by omega) dX5_copyFrom_219 (q := 222) rfl ?_
  refine T.ald_1 (q := 223) dX5_copyFrom_222 rfl ?_
  refine g_X5_40 ho rfl dX5_copyFrom_223 (q := 226) rfl ?_
  refine T.iconst (q := 227) (0) dX5_copyFrom_226 rfl (by decide) ?_
  refine T.ald_0 (q := 228) dX5_copyFrom_227 rfl ?_
  refine g_X5_40 hb rfl dX5_copyFrom_228 (q := 231) rfl ?_
  refine T.iconst (q := 232) (0) dX5_copyFrom_231 rfl (by decide) ?_
  refine T.ald_0 (q := 233) dX5_copyFrom_232 rfl ?_
  refine g_X5_40 hb rfl dX5_copyFrom_233 (q := 236) rfl ?_
  refine T.alenI (480) (sk_a8 hb).1 (sk_a8 hb).2.2 (by rw [(sk_a8 hb).2.1]; rfl) dX5_copyFrom_236 (q := 237) rfl ?_
  refine T.cpI (N := 480) w_X5_81 rfl (sk_a8 ho).1 (sk_a8 hb).1 (sk_a8 ho).2.2 (sk_a8 hb).2.2 (sk_a8 ho).2.1 (sk_a8 hb).2.1 rfl (by decide) (by omega) dX5_copyFrom_237 (q := 240) rfl ?_
  refine T.ald_1 (q := 241) dX5_copyFrom_240 rfl ?_
  refine g_X5_43 ho rfl dX5_copyFrom_241 (q := 244) rfl ?_
  refine T.iconst (q := 245) (0) dX5_copyFrom_244 rfl (by decide) ?_
  refine T.ald_0 (q := 246) dX5_copyFrom_245 rfl ?_
  refine g_X5_43 hb rfl dX5_copyFrom_246 (q := 249) rfl ?_
  refine T.iconst (q := 250) (0) dX5_copyFrom_249 rfl (by decide) ?_
  refine T.ald_0 (q := 251) dX5_copyFrom_250 rfl ?_
  refine g_X5_43 hb rfl dX5_copyFrom_251 (q := 254) rfl ?_
  refine T.alenL (144) (sk_kn hb).1 (sk_kn hb).2.2 (by rw [(sk_kn hb).2.1]; rfl) dX5_copyFrom_254 (q := 255) rfl ?_
  refine T.cpL (N := 144) w_X5_81 rfl (sk_kn ho).1 (sk_kn hb).1 (sk_kn ho).2.2 (sk_kn hb).2.2 (sk_kn ho).2.1 (sk_kn hb).2.1 rfl (by decide) (by omega) dX5_copyFrom_255 (q := 258) rfl ?_
  exact T.retV rfl dX5_copyFrom_258 (by decide) (by decide) rfl
