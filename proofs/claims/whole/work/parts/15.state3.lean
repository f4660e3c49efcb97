/-! State: writes -/
theorem l_knowNothing {G : sk_G} {E : sk_E} {d mR sR cells slots : Nat} {M : sk_M} {b p v : Nat} {x1 x2 : Value} (hb : sk_sb b) (hp : p < 6) (hv : v < 6) (hc : cells ≤ mR) (hs : slots ≤ sR) (hk : TJ G mX5_knowNothing (sk_R d mR sR) E cells slots 35 [some (.ref (G.2.2.1 b)), some x1, some x2, some (.int (nI (4 * (6 * p + v)))), some (.int (nI (4 * (6 * p + v) + (3))))] [] (fk M (b + 9) (4 * (6 * p + v)) (3))) : ∀ n i : Nat, i + n = 3 → TJ G mX5_knowNothing (sk_R d mR sR) E cells slots 9 [some (.ref (G.2.2.1 b)), some x1, some x2, some (.int (nI (4 * (6 * p + v)))), some (.int (nI (4 * (6 * p + v) + i)))] [] (fk M (b + 9) (4 * (6 * p + v)) i) := by
  intro n
  induction n with
  | zero =>
    intro i hi
    obtain rfl : i = 3 := by omega
    refine T.ild_4 (q := 11) dX5_knowNothing_9 rfl ?_
    refine T.ild_3 (q := 12) dX5_knowNothing_11 rfl ?_
    refine T.iconst (q := 13) (4) dX5_knowNothing_12 rfl (by decide) ?_
    refine T.iadd (q := 14) dX5_knowNothing_13 rfl ?_
    refine T.iconst (q := 15) (1) dX5_knowNothing_14 rfl (by decide) ?_
    refine T.isub (q := 16) dX5_knowNothing_15 rfl ?_
    rw [show nI (4 * (6 * p + v)) + 4 - 1 = nI (4 * (6 * p + v) + 3) from (by simp (disch := omega) only [sk_lit, nI_add, pk_mul, pk_div, pk_sub, sk_mod, nI_clamp, nI_1]; try (congr 1 <;> omega))]
    refine T.ic_ge (tgt := 35) (q := 19) dX5_knowNothing_16 (by decide) rfl (fun h16 => ?_) (fun h16 => absurd (nI_le (by omega) (by omega)) h16)
    exact hk
  | succ n ih =>
    intro i hi
    refine T.ild_4 (q := 11) dX5_knowNothing_9 rfl ?_
    refine T.ild_3 (q := 12) dX5_knowNothing_11 rfl ?_
    refine T.iconst (q := 13) (4) dX5_knowNothing_12 rfl (by decide) ?_
    refine T.iadd (q := 14) dX5_knowNothing_13 rfl ?_
    refine T.iconst (q := 15) (1) dX5_knowNothing_14 rfl (by decide) ?_
    refine T.isub (q := 16) dX5_knowNothing_15 rfl ?_
    rw [show nI (4 * (6 * p + v)) + 4 - 1 = nI (4 * (6 * p + v) + 3) from (by simp (disch := omega) only [sk_lit, nI_add, pk_mul, pk_div, pk_sub, sk_mod, nI_clamp, nI_1]; try (congr 1 <;> omega))]
    refine T.ic_ge (tgt := 35) (q := 19) dX5_knowNothing_16 (by decide) rfl (fun h16 => absurd h16 (nI_ge (by omega) (by omega))) (fun h16 => ?_)
    refine T.ald_0 (q := 20) dX5_knowNothing_19 rfl ?_
    refine g_X5_43 hb rfl dX5_knowNothing_20 (q := 23) rfl ?_
    refine T.ild_4 (q := 25) dX5_knowNothing_23 rfl ?_
    refine T.ldc2 (q := 28) (-1) dX5_knowNothing_25 rfl w_X5_c49 ?_
    refine T.last (sk_kn hb).1 (sk_kn hb).2.1 (sk_kn hb).2.2 dX5_knowNothing_28 (q := 29) rfl (vp_in_nI (by omega) (by decide)) ?_
    refine T.inc_4 (q := 32) (1) dX5_knowNothing_29 rfl (by decide) (by decide) (by first | exact sk_ok_i | exact sk_ok_r | exact sk_ok_n) ?_
    refine T.goto (tgt := 9) dX5_knowNothing_32 (by decide) ?_
    rw [nI_1, nI_clamp (by omega)]
    have := ih (i + 1) (by omega)
    simp only [fk, kMask, if_neg (show ¬ i = 3 by omega)] at this
    exact this
theorem c_knowNothing {G : sk_G} {d : Nat} {M : sk_M} {b p v : Nat} (hd : 0 < d) (hb : sk_sb b) (hp : p < 6) (hv : v < 6) : Ctr G mX5_knowNothing d 0 0 [.ref (G.2.2.1 b), .int (nI p), .int (nI v)] M (rV fun M' => M' = fk M (b + 9) (4 * (6 * p + v)) 4) noX := by
  refine Ctr.of 2 (by decide) (Nat.le_of_ble_eq_true rfl) ?_
  refine T.ild_1 (q := 1) dX5_knowNothing_0 rfl ?_
  refine T.ild_2 (q := 2) dX5_knowNothing_1 rfl ?_
  refine k_X5_103 rfl dX5_knowNothing_2 (q := 5) rfl (by omega) (by decide) (by decide) (Nat.le_of_ble_eq_true rfl) (c_wordsOf (d := 0)) ?_
  rintro r M9 ⟨rfl, hM9⟩
  obtain rfl := hM9.symm
  refine T.ist_3 (q := 6) dX5_knowNothing_5 rfl (by decide) (by first | exact sk_ok_i | exact sk_ok_r | exact sk_ok_n) ?_
  refine T.ild_3 (q := 7) dX5_knowNothing_6 rfl ?_
  refine T.ist_4 (q := 9) dX5_knowNothing_7 rfl (by decide) (by first | exact sk_ok_i | exact sk_ok_r | exact sk_ok_n) ?_
  refine l_knowNothing hb hp hv (Nat.le_refl 0) (Nat.le_refl 0) ?_ 3 0 rfl
  refine T.ald_0 (q := 36) dX5_knowNothing_35 rfl ?_
  refine g_X5_43 hb rfl dX5_knowNothing_36 (q := 39) rfl ?_
  refine T.ild_3 (q := 40) dX5_knowNothing_39 rfl ?_
  refine T.iconst (q := 41) (4) dX5_knowNothing_40 rfl (by decide) ?_
  refine T.iadd (q := 42) dX5_knowNothing_41 rfl ?_
  refine T.iconst (q := 43) (1) dX5_knowNothing_42 rfl (by decide) ?_
  refine T.isub (q := 44) dX5_knowNothing_43 rfl ?_
  rw [show nI (4 * (6 * p + v)) + 4 - 1 = nI (4 * (6 * p + v) + 3) from (by simp (disch := omega) only [sk_lit, nI_add, pk_mul, pk_div, pk_sub, sk_mod, nI_clamp, nI_1]; try (congr 1 <;> omega))]
  refine T.ldc2 (q := 47) (16777215) dX5_knowNothing_44 rfl w_X5_c47 ?_
  refine T.last (sk_kn hb).1 (sk_kn hb).2.1 (sk_kn hb).2.2 dX5_knowNothing_47 (q := 48) rfl (vp_in_nI (by omega) (by decide)) ?_
  exact T.retV rfl dX5_knowNothing_48 (by decide) (by decide) (by rw [nI_clamp (by omega)]; rfl)
theorem l_learnFrom {G : sk_G} {E : sk_E} {d mR sR cells slots : Nat} {M : sk_M} {b t f v : Nat} {x1 x2 x3 : Value} (hb : sk_sb b) (ht : t < 6) (hf : f < 6) (hv : v < 6) (hc : cells ≤ mR) (hs : slots ≤ sR) (hk : TJ G mX5_learnFrom (sk_R d mR sR) E cells slots 52 [some (.ref (G.2.2.1 b)), some x1, some x2, some x3, some (.int (nI (4 * (6 * t + v)))), some (.int (nI (4 * (6 * f + v)))), some (.int (nI (4)))] [] (lf M (b + 9) (4 * (6 * t + v)) (4 * (6 * f + v)) (4))) : ∀ n i : Nat, i + n = 4 → TJ G mX5_learnFrom (sk_R d mR sR) E cells slots 17 [some (.ref (G.2.2.1 b)), some x1, some x2, some x3, some (.int (nI (4 * (6 * t + v)))), some (.int (nI (4 * (6 * f + v)))), some (.int (nI i))] [] (lf M (b + 9) (4 * (6 * t + v)) (4 * (6 * f + v)) i) := by
  intro n
  induction n with
  | zero =>
    intro i hi
    obtain rfl : i = 4 := by omega
    refine T.ild_6 (q := 19) dX5_learnFrom_17 rfl ?_
    refine T.iconst (q := 20) (4) dX5_learnFrom_19 rfl (by decide) ?_
    refine T.ic_ge (tgt := 52) (q := 23) dX5_learnFrom_20 (by decide) rfl (fun h20 => ?_) (fun h20 => absurd (nI_le (a := 4) (b := 4) (Nat.le_refl _) (by decide)) h20)
    exact hk
  | succ n ih =>
    intro i hi
    refine T.ild_6 (q := 19) dX5_learnFrom_17 rfl ?_
    refine T.iconst (q := 20) (4) dX5_learnFrom_19 rfl (by decide) ?_
    refine T.ic_ge (tgt := 52) (q := 23) dX5_learnFrom_20 (by decide) rfl (fun h20 => absurd h20 (nI_ge (a := i) (b := 4) (by omega) (by decide))) (fun h20 => ?_)
    refine T.ald_0 (q := 24) dX5_learnFrom_23 rfl ?_
    refine g_X5_43 hb rfl dX5_learnFrom_24 (q := 27) rfl ?_
    refine T.ild_4 (q := 29) dX5_learnFrom_27 rfl ?_
    refine T.ild_6 (q := 31) dX5_learnFrom_29 rfl ?_
    refine T.iadd (q := 32) dX5_learnFrom_31 rfl ?_
    rw [nI_add]
    refine T.dup2 (q := 33) dX5_learnFrom_32 rfl rfl rfl ?_
    refine T.lald (sk_kn hb).1 (sk_kn hb).2.1 (sk_kn hb).2.2 dX5_learnFrom_33 (q := 34) rfl (vp_in_nI (by omega) (by decide)) ?_
    rw [nI_clamp (by omega)]
    refine T.ald_0 (q := 35) dX5_learnFrom_34 rfl ?_
    refine g_X5_43 hb rfl dX5_learnFrom_35 (q := 38) rfl ?_
    refine T.ild_5 (q := 40) dX5_learnFrom_38 rfl ?_
    refine T.ild_6 (q := 42) dX5_learnFrom_40 rfl ?_
    refine T.iadd (q := 43) dX5_learnFrom_42 rfl ?_
    rw [nI_add]
    refine T.lald (sk_kn hb).1 (sk_kn hb).2.1 (sk_kn hb).2.2 dX5_learnFrom_43 (q := 44) rfl (vp_in_nI (by omega) (by decide)) ?_
    rw [nI_clamp (by omega)]
    refine T.land (q := 45) dX5_learnFrom_44 rfl ?_
    refine T.last (sk_kn hb).1 (sk_kn hb).2.1 (sk_kn hb).2.2 dX5_learnFrom_45 (q := 46) rfl (vp_in_nI (by omega) (by decide)) ?_
    rw [nI_clamp (by omega)]
    refine T.inc_6 (q := 49) (1) dX5_learnFrom_46 rfl (by decide) (by decide) (by first | exact sk_ok_i | exact sk_ok_r | exact sk_ok_n) ?_
    refine T.goto (tgt := 17) dX5_learnFrom_49 (by decide) ?_
    rw [nI_1]
    exact ih (i + 1) (by omega)
theorem c_learnFrom {G : sk_G} {d : Nat} {M : sk_M} {b t f v : Nat} (hd : 0 < d) (hb : sk_sb b) (ht : t < 6) (hf : f < 6) (hv : v < 6) : Ctr G mX5_learnFrom d 0 0 [.ref (G.2.2.1 b), .int (nI t), .int (nI f), .int (nI v)] M (rV fun M' => M' = lf M (b + 9) (4 * (6 * t + v)) (4 * (6 * f + v)) 4) noX := by
  refine Ctr.of 3 (by decide) (Nat.le_of_ble_eq_true rfl) ?_
  refine T.ild_1 (q := 1) dX5_learnFrom_0 rfl ?_
  refine T.ild_3 (q := 2) dX5_learnFrom_1 rfl ?_
  refine k_X5_103 rfl dX5_learnFrom_2 (q := 5) rfl (by omega) (by decide) (by decide) (Nat.le_of_ble_eq_true rfl) (c_wordsOf (d := 0)) ?_
  rintro r M9 ⟨rfl, hM9⟩
  obtain rfl := hM9.symm
  refine T.ist_4 (q := 7) dX5_learnFrom_5 rfl (by decide) (by first | exact sk_ok_i | exact sk_ok_r | exact sk_ok_n) ?_
  refine T.ild_2 (q := 8) dX5_learnFrom_7 rfl ?_
  refine T.ild_3 (q := 9) dX5_learnFrom_8 rfl ?_
  refine k_X5_103 rfl dX5_learnFrom_9 (q := 12) rfl (by omega) (by decide) (by decide) (Nat.le_of_ble_eq_true rfl) (c_wordsOf (d := 0)) ?_
  rintro r M9 ⟨rfl, hM9⟩
  obtain rfl := hM9.symm
  refine T.ist_5 (q := 14) dX5_learnFrom_12 rfl (by decide) (by first | exact sk_ok_i | exact sk_ok_r | exact sk_ok_n) ?_
  refine T.iconst (q := 15) (0) dX5_learnFrom_14 rfl (by decide) ?_
  refine T.ist_6 (q := 17) dX5_learnFrom_15 rfl (by decide) (by first | exact sk_ok_i | exact sk_ok_r | exact sk_ok_n) ?_
  refine l_learnFrom hb ht hf hv (Nat.le_refl 0) (Nat.le_refl 0) ?_ 4 0 rfl
  exact T.retV rfl dX5_learnFrom_52 (by decide) (by decide) rfl
theorem l_tellAnew {G : sk_G} {E : sk_E} {d mR sR cells slots : Nat} {M : sk_M} {b v np : Nat} {x2 : Int32} (hd : 1 < d) (hb : sk_sb b) (hv : v < 6) (hnp : M.1 b 1 = nI np) (hn6 : np ≤ 6) (hc : cells ≤ mR) (hs : slots ≤ sR) (hk : TJ G mX5_tellAnew (sk_R d mR sR) E cells slots 43 [some (.ref (G.2.2.1 b)), some (.int (nI v)), some (.int x2), some (.int (nI (np)))] [] (knA M (b + 9) v (np))) : ∀ n i : Nat, i + n = np → TJ G mX5_tellAnew (sk_R d mR sR) E cells slots 23 [some (.ref (G.2.2.1 b)), some (.int (nI v)), some (.int x2), some (.int (nI i))] [] (knA M (b + 9) v i) := by
  intro n
  induction n with
  | zero =>
    intro i hi
    obtain rfl : i = np := by omega
    refine T.ild_3 (q := 24) dX5_tellAnew_23 rfl ?_
    refine T.ald_0 (q := 25) dX5_tellAnew_24 rfl ?_
    refine g_X5_54 hb rfl dX5_tellAnew_25 (q := 28) rfl ?_
    rw [knA_1, hnp]
    refine T.ic_ge (tgt := 43) (q := 31) dX5_tellAnew_28 (by decide) rfl (fun h28 => ?_) (fun h28 => absurd (nI_le (Nat.le_refl _) (by omega)) h28)
    exact hk
  | succ n ih =>
    intro i hi
    refine T.ild_3 (q := 24) dX5_tellAnew_23 rfl ?_
    refine T.ald_0 (q := 25) dX5_tellAnew_24 rfl ?_
    refine g_X5_54 hb rfl dX5_tellAnew_25 (q := 28) rfl ?_
    rw [knA_1, hnp]
    refine T.ic_ge (tgt := 43) (q := 31) dX5_tellAnew_28 (by decide) rfl (fun h28 => absurd h28 (nI_ge (by omega) (by omega))) (fun h28 => ?_)
    refine T.ald_0 (q := 32) dX5_tellAnew_31 rfl ?_
    refine T.ild_3 (q := 33) dX5_tellAnew_32 rfl ?_
    refine T.ild_1 (q := 34) dX5_tellAnew_33 rfl ?_
    refine k_X5_87 hb rfl dX5_tellAnew_34 (q := 37) rfl (by omega) hc hs (Nat.le_of_ble_eq_true rfl) (c_knowNothing (d := 1) (by decide) hb (by omega) hv) ?_
    rintro M9 rfl
    refine T.inc_3 (q := 40) (1) dX5_tellAnew_37 rfl (by decide) (by decide) (by first | exact sk_ok_i | exact sk_ok_r | exact sk_ok_n) ?_
    refine T.goto (tgt := 23) dX5_tellAnew_40 (by decide) ?_
    rw [nI_1]
    exact ih (i + 1) (by omega)
theorem c_tellAnew {G : sk_G} {d : Nat} {M : sk_M} {b v np : Nat} {c : Int32} (hd : 1 < d) (hb : sk_sb b) (hv : v < 6) (hnp : M.1 b 1 = nI np) (hn6 : np ≤ 6) : Ctr G mX5_tellAnew d 0 0 [.ref (G.2.2.1 b), .int (nI v), .int c] M (rV fun M' => M' = knA (tA M b v c) (b + 9) v np) noX := by
  refine Ctr.of 1 (by decide) (Nat.le_of_ble_eq_true rfl) ?_
  refine T.ald_0 (q := 1) dX5_tellAnew_0 rfl ?_
  refine g_X5_18 hb rfl dX5_tellAnew_1 (q := 4) rfl ?_
  refine T.ild_1 (q := 5) dX5_tellAnew_4 rfl ?_
  refine T.ild_2 (q := 6) dX5_tellAnew_5 rfl ?_
  refine T.iast (sk_a1 hb).1 (sk_a1 hb).2.1 (sk_a1 hb).2.2 dX5_tellAnew_6 (q := 7) rfl (vp_in_nI (by omega) (by decide)) ?_
  rw [nI_clamp (by omega)]
  refine T.ald_0 (q := 8) dX5_tellAnew_7 rfl ?_
  refine T.dup (q := 9) dX5_tellAnew_8 rfl rfl ?_
  refine g_X5_72 hb rfl dX5_tellAnew_9 (q := 12) rfl ?_
  refine T.iconst (q := 13) (1) dX5_tellAnew_12 rfl (by decide) ?_
  refine T.ild_1 (q := 14) dX5_tellAnew_13 rfl ?_
  refine T.ishl (q := 15) dX5_tellAnew_14 rfl ?_
  refine T.iconst (q := 16) (-1) dX5_tellAnew_15 rfl (by decide) ?_
  refine T.ixor (q := 17) dX5_tellAnew_16 rfl ?_
  refine T.iand (q := 18) dX5_tellAnew_17 rfl ?_
  refine p_X5_72 hb rfl dX5_tellAnew_18 (q := 21) rfl ?_
  refine T.iconst (q := 22) (0) dX5_tellAnew_21 rfl (by decide) ?_
  refine T.ist_3 (q := 23) dX5_tellAnew_22 rfl (by decide) (by first | exact sk_ok_i | exact sk_ok_r | exact sk_ok_n) ?_
  have e1 : (sk_si M (b + 1) v c).1 b = M.1 b := sk_si_ne (by omega)
  rw [e1]
  refine l_tellAnew (M := tA M b v c) hd hb hv (by simp only [tA, sk_si_at, e1, upd]; exact hnp) hn6 (Nat.le_refl 0) (Nat.le_refl 0) ?_ np 0 (Nat.zero_add np)
  exact T.retV rfl dX5_tellAnew_43 (by decide) (by decide) rfl
theorem l_guardedToday {G : sk_G} {E : sk_E} {d mR sR cells slots : Nat} {M : sk_M} {b nv dy : Nat} (hd : 0 < d) (hb : sk_sb b) (hnv : M.1 b 0 = nI nv) (hn6 : nv ≤ 6) (hdy : M.1 b 5 = nI dy) (hdl : dy < 10000) (hc : cells ≤ mR) (hs : slots ≤ sR) (hk : TJ G mX5_guardedToday (sk_R d mR sR) E cells slots 32 [some (.ref (G.2.2.1 b)), some (.int (bitsP (isG M b dy) (nv))), some (.int (nI (nv)))] [] M) : ∀ n i : Nat, i + n = nv → TJ G mX5_guardedToday (sk_R d mR sR) E cells slots 4 [some (.ref (G.2.2.1 b)), some (.int (bitsP (isG M b dy) i)), some (.int (nI i))] [] M := by
  intro n
  induction n with
  | zero =>
    intro i hi
    obtain rfl : i = nv := by omega
    refine T.ild_2 (q := 5) dX5_guardedToday_4 rfl ?_
    refine T.ald_0 (q := 6) dX5_guardedToday_5 rfl ?_
    refine g_X5_51 hb rfl dX5_guardedToday_6 (q := 9) rfl ?_
    rw [hnv]
    refine T.ic_ge (tgt := 32) (q := 12) dX5_guardedToday_9 (by decide) rfl (fun h9 => ?_) (fun h9 => absurd (nI_le (Nat.le_refl _) (by omega)) h9)
    exact hk
  | succ n ih =>
    intro i hi
    refine T.ild_2 (q := 5) dX5_guardedToday_4 rfl ?_
    refine T.ald_0 (q := 6) dX5_guardedToday_5 rfl ?_
    refine g_X5_51 hb rfl dX5_guardedToday_6 (q := 9) rfl ?_
    rw [hnv]
    refine T.ic_ge (tgt := 32) (q := 12) dX5_guardedToday_9 (by decide) rfl (fun h9 => absurd h9 (nI_ge (by omega) (by omega))) (fun h9 => ?_)
    refine T.ald_0 (q := 13) dX5_guardedToday_12 rfl ?_
    refine T.ild_2 (q := 14) dX5_guardedToday_13 rfl ?_
    refine k_X5_120 hb rfl dX5_guardedToday_14 (q := 17) rfl (by omega) hc hs (Nat.le_of_ble_eq_true rfl) (c_isGuarded (d := 0) hb (by omega) hdy hdl) ?_
    rintro r M9 ⟨rfl, hM9⟩
    obtain rfl := hM9.symm
    refine T.if_eq (tgt := 26) (q := 20) dX5_guardedToday_17 (by decide) rfl (fun h17 => ?_) (fun h17 => ?_)
    · first | rw [bitsP_t (P := isG M b dy) (bI_n.mp h17)] | rw [bitsP_f (P := isG M b dy) (bI_z.mp h17)]
      refine T.inc_2 (q := 29) (1) dX5_guardedToday_26 rfl (by decide) (by decide) (by first | exact sk_ok_i | exact sk_ok_r | exact sk_ok_n) ?_
      refine T.goto (tgt := 4) dX5_guardedToday_29 (by decide) ?_
      rw [nI_1]
      exact ih (i + 1) (by omega)
    · refine T.ild_1 (q := 21) dX5_guardedToday_20 rfl ?_
      refine T.iconst (q := 22) (1) dX5_guardedToday_21 rfl (by decide) ?_
      refine T.ild_2 (q := 23) dX5_guardedToday_22 rfl ?_
      refine T.ishl (q := 24) dX5_guardedToday_23 rfl ?_
      refine T.ior (q := 25) dX5_guardedToday_24 rfl ?_
      refine T.ist_1 (q := 26) dX5_guardedToday_25 rfl (by decide) (by first | exact sk_ok_i | exact sk_ok_r | exact sk_ok_n) ?_
      first | rw [bitsP_t (P := isG M b dy) (bI_n.mp h17)] | rw [bitsP_f (P := isG M b dy) (bI_z.mp h17)]
      refine T.inc_2 (q := 29) (1) dX5_guardedToday_26 rfl (by decide) (by decide) (by first | exact sk_ok_i | exact sk_ok_r | exact sk_ok_n) ?_
      refine T.goto (tgt := 4) dX5_guardedToday_29 (by decide) ?_
      rw [nI_1]
      exact ih (i + 1) (by omega)
theorem c_guardedToday {G : sk_G} {d : Nat} {M : sk_M} {b nv dy : Nat} (hd : 0 < d) (hb : sk_sb b) (hnv : M.1 b 0 = nI nv) (hn6 : nv ≤ 6) (hdy : M.1 b 5 = nI dy) (hdl : dy < 10000) : Ctr G mX5_guardedToday d 0 0 [.ref (G.2.2.1 b)] M (rI fun r M' => r = bitsP (isG M b dy) nv ∧ M' = M) noX := by
  refine Ctr.of 2 (by decide) (Nat.le_of_ble_eq_true rfl) ?_
  refine T.iconst (q := 1) (0) dX5_guardedToday_0 rfl (by decide) ?_
  refine T.ist_1 (q := 2) dX5_guardedToday_1 rfl (by decide) (by first | exact sk_ok_i | exact sk_ok_r | exact sk_ok_n) ?_
  refine T.iconst (q := 3) (0) dX5_guardedToday_2 rfl (by decide) ?_
  refine T.ist_2 (q := 4) dX5_guardedToday_3 rfl (by decide) (by first | exact sk_ok_i | exact sk_ok_r | exact sk_ok_n) ?_
  refine l_guardedToday hd hb hnv hn6 hdy hdl (Nat.le_refl 0) (Nat.le_refl 0) ?_ nv 0 (Nat.zero_add nv)
  refine T.ild_1 (q := 33) dX5_guardedToday_32 rfl ?_
  exact T.retI rfl dX5_guardedToday_33 (by decide) (by decide) ⟨rfl, rfl⟩
theorem l_worthOfAll {G : sk_G} {E : sk_E} {d mR sR cells slots : Nat} {M : sk_M} {b nv : Nat} (hb : sk_sb b) (hnv : M.1 b 0 = nI nv) (hn6 : nv ≤ 6) (hc : cells ≤ mR) (hs : slots ≤ sR) (hk : TJ G mX5_worthOfAll (sk_R d mR sR) E cells slots 27 [some (.ref (G.2.2.1 b)), some (.int (sumI (M.1 (b + 3)) (nv))), some (.int (nI (nv)))] [] M) : ∀ n i : Nat, i + n = nv → TJ G mX5_worthOfAll (sk_R d mR sR) E cells slots 4 [some (.ref (G.2.2.1 b)), some (.int (sumI (M.1 (b + 3)) i)), some (.int (nI i))] [] M := by
  intro n
  induction n with
  | zero =>
    intro i hi
    obtain rfl : i = nv := by omega
    refine T.ild_2 (q := 5) dX5_worthOfAll_4 rfl ?_
    refine T.ald_0 (q := 6) dX5_worthOfAll_5 rfl ?_
    refine g_X5_51 hb rfl dX5_worthOfAll_6 (q := 9) rfl ?_
    rw [hnv]
    refine T.ic_ge (tgt := 27) (q := 12) dX5_worthOfAll_9 (by decide) rfl (fun h9 => ?_) (fun h9 => absurd (nI_le (Nat.le_refl _) (by omega)) h9)
    exact hk
  | succ n ih =>
    intro i hi
    refine T.ild_2 (q := 5) dX5_worthOfAll_4 rfl ?_
    refine T.ald_0 (q := 6) dX5_worthOfAll_5 rfl ?_
    refine g_X5_51 hb rfl dX5_worthOfAll_6 (q := 9) rfl ?_
    rw [hnv]
    refine T.ic_ge (tgt := 27) (q := 12) dX5_worthOfAll_9 (by decide) rfl (fun h9 => absurd h9 (nI_ge (by omega) (by omega))) (fun h9 => ?_)
    refine T.ild_1 (q := 13) dX5_worthOfAll_12 rfl ?_
    refine T.ald_0 (q := 14) dX5_worthOfAll_13 rfl ?_
    refine g_X5_25 hb rfl dX5_worthOfAll_14 (q := 17) rfl ?_
    refine T.ild_2 (q := 18) dX5_worthOfAll_17 rfl ?_
    refine T.iald (sk_a3 hb).1 (sk_a3 hb).2.1 (sk_a3 hb).2.2 dX5_worthOfAll_18 (q := 19) rfl (vp_in_nI (by omega) (by decide)) ?_
    rw [nI_clamp (by omega)]
    refine T.iadd (q := 20) dX5_worthOfAll_19 rfl ?_
    refine T.ist_1 (q := 21) dX5_worthOfAll_20 rfl (by decide) (by first | exact sk_ok_i | exact sk_ok_r | exact sk_ok_n) ?_
    refine T.inc_2 (q := 24) (1) dX5_worthOfAll_21 rfl (by decide) (by decide) (by first | exact sk_ok_i | exact sk_ok_r | exact sk_ok_n) ?_
    refine T.goto (tgt := 4) dX5_worthOfAll_24 (by decide) ?_
    rw [nI_1]
    exact ih (i + 1) (by omega)
theorem c_worthOfAll {G : sk_G} {d : Nat} {M : sk_M} {b nv : Nat} (hb : sk_sb b) (hnv : M.1 b 0 = nI nv) (hn6 : nv ≤ 6) : Ctr G mX5_worthOfAll d 0 0 [.ref (G.2.2.1 b)] M (rI fun r M' => r = sumI (M.1 (b + 3)) nv ∧ M' = M) noX := by
  refine Ctr.of 2 (by decide) (Nat.le_of_ble_eq_true rfl) ?_
  refine T.iconst (q := 1) (0) dX5_worthOfAll_0 rfl (by decide) ?_
  refine T.ist_1 (q := 2) dX5_worthOfAll_1 rfl (by decide) (by first | exact sk_ok_i | exact sk_ok_r | exact sk_ok_n) ?_
  refine T.iconst (q := 3) (0) dX5_worthOfAll_2 rfl (by decide) ?_
  refine T.ist_2 (q := 4) dX5_worthOfAll_3 rfl (by decide) (by first | exact sk_ok_i | exact sk_ok_r | exact sk_ok_n) ?_
  refine l_worthOfAll hb hnv hn6 (Nat.le_refl 0) (Nat.le_refl 0) ?_ nv 0 (Nat.zero_add nv)
  refine T.ild_1 (q := 28) dX5_worthOfAll_27 rfl ?_
  exact T.retI rfl dX5_worthOfAll_28 (by decide) (by decide) ⟨rfl, rfl⟩
theorem l_quarrelsOf {G : sk_G} {E : sk_E} {d mR sR cells slots : Nat} {M : sk_M} {b c nc : Nat} (hd : 0 < d) (hb : sk_sb b) (hcc : c < 12) (hnc : M.1 b 2 = nI nc) (hn6 : nc ≤ 12) (hc : cells ≤ mR) (hs : slots ≤ sR) (hk : TJ G mX5_quarrelsOf (sk_R d mR sR) E cells slots 67 [some (.ref (G.2.2.1 b)), some (.int (nI c)), some (.int (bitsP (qrl M b c) (nc))), some (.int (nI (nc)))] [] M) : ∀ n i : Nat, i + n = nc → TJ G mX5_quarrelsOf (sk_R d mR sR) E cells slots 4 [some (.ref (G.2.2.1 b)), some (.int (nI c)), some (.int (bitsP (qrl M b c) i)), some (.int (nI i))] [] M := by
  intro n
  induction n with
  | zero =>
    intro i hi
    obtain rfl : i = nc := by omega
    refine T.ild_3 (q := 5) dX5_quarrelsOf_4 rfl ?_
    refine T.ald_0 (q := 6) dX5_quarrelsOf_5 rfl ?_
    refine g_X5_57 hb rfl dX5_quarrelsOf_6 (q := 9) rfl ?_
    rw [hnc]
    refine T.ic_ge (tgt := 67) (q := 12) dX5_quarrelsOf_9 (by decide) rfl (fun h9 => ?_) (fun h9 => absurd (nI_le (Nat.le_refl _) (by omega)) h9)
    exact hk
  | succ n ih =>
    intro i hi
    refine T.ild_3 (q := 5) dX5_quarrelsOf_4 rfl ?_
    refine T.ald_0 (q := 6) dX5_quarrelsOf_5 rfl ?_
    refine g_X5_57 hb rfl dX5_quarrelsOf_6 (q := 9) rfl ?_
    rw [hnc]
    refine T.ic_ge (tgt := 67) (q := 12) dX5_quarrelsOf_9 (by decide) rfl (fun h9 => absurd h9 (nI_ge (by omega) (by omega))) (fun h9 => ?_)
    refine T.ald_0 (q := 13) dX5_quarrelsOf_12 rfl ?_
    refine g_X5_28 hb rfl dX5_quarrelsOf_13 (q := 16) rfl ?_
    refine T.ild_3 (q := 17) dX5_quarrelsOf_16 rfl ?_
    refine T.iald (sk_a4 hb).1 (sk_a4 hb).2.1 (sk_a4 hb).2.2 dX5_quarrelsOf_17 (q := 18) rfl (vp_in_nI (by omega) (by decide)) ?_
    rw [nI_clamp (by omega)]
    refine T.ald_0 (q := 19) dX5_quarrelsOf_18 rfl ?_
    refine g_X5_28 hb rfl dX5_quarrelsOf_19 (q := 22) rfl ?_
    refine T.ild_1 (q := 23) dX5_quarrelsOf_22 rfl ?_
    refine T.iald (sk_a4 hb).1 (sk_a4 hb).2.1 (sk_a4 hb).2.2 dX5_quarrelsOf_23 (q := 24) rfl (vp_in_nI (by omega) (by decide)) ?_
    rw [nI_clamp (by omega)]
    refine T.ic_ne (tgt := 61) (q := 27) dX5_quarrelsOf_24 (by decide) rfl (fun h24 => ?_) (fun h24 => ?_)
    · first | rw [bitsP_t (P := qrl M b c) ⟨h24, h39, h52⟩] | rw [bitsP_f (P := qrl M b c) (fun q => h24 q.1)] | rw [bitsP_f (P := qrl M b c) (fun q => h39 q.2.1)] | rw [bitsP_f (P := qrl M b c) (fun q => q.2.2 h52)]
      refine T.inc_3 (q := 64) (1) dX5_quarrelsOf_61 rfl (by decide) (by decide) (by first | exact sk_ok_i | exact sk_ok_r | exact sk_ok_n) ?_
      refine T.goto (tgt := 4) dX5_quarrelsOf_64 (by decide) ?_
      rw [nI_1]
      exact ih (i + 1) (by omega)
    · refine T.ald_0 (q := 28) dX5_quarrelsOf_27 rfl ?_
      refine g_X5_31 hb rfl dX5_quarrelsOf_28 (q := 31) rfl ?_
      refine T.ild_3 (q := 32) dX5_quarrelsOf_31 rfl ?_
      refine T.iald (sk_a5 hb).1 (sk_a5 hb).2.1 (sk_a5 hb).2.2 dX5_quarrelsOf_32 (q := 33) rfl (vp_in_nI (by omega) (by decide)) ?_
      rw [nI_clamp (by omega)]
      refine T.ald_0 (q := 34) dX5_quarrelsOf_33 rfl ?_
      refine g_X5_31 hb rfl dX5_quarrelsOf_34 (q := 37) rfl ?_
      refine T.ild_1 (q := 38) dX5_quarrelsOf_37 rfl ?_
      refine T.iald (sk_a5 hb).1 (sk_a5 hb).2.1 (sk_a5 hb).2.2 dX5_quarrelsOf_38 (q := 39) rfl (vp_in_nI (by omega) (by decide)) ?_
      rw [nI_clamp (by omega)]
      refine T.ic_ne (tgt := 61) (q := 42) dX5_quarrelsOf_39 (by decide) rfl (fun h39 => ?_) (fun h39 => ?_)
      · first | rw [bitsP_t (P := qrl M b c) ⟨h24, h39, h52⟩] | rw [bitsP_f (P := qrl M b c) (fun q => h24 q.1)] | rw [bitsP_f (P := qrl M b c) (fun q => h39 q.2.1)] | rw [bitsP_f (P := qrl M b c) (fun q => q.2.2 h52)]
        refine T.inc_3 (q := 64) (1) dX5_quarrelsOf_61 rfl (by decide) (by decide) (by first | exact sk_ok_i | exact sk_ok_r | exact sk_ok_n) ?_
        refine T.goto (tgt := 4) dX5_quarrelsOf_64 (by decide) ?_
        rw [nI_1]
        exact ih (i + 1) (by omega)
      · refine T.ald_0 (q := 43) dX5_quarrelsOf_42 rfl ?_
        refine T.ild_3 (q := 44) dX5_quarrelsOf_43 rfl ?_
        refine k_X5_127 hb rfl dX5_quarrelsOf_44 (q := 47) rfl (by omega) hc hs (Nat.le_of_ble_eq_true rfl) (c_isOpen (d := 0) hb (by omega)) ?_
        rintro r M9 ⟨rfl, hM9⟩
        obtain rfl := hM9.symm
        refine T.ald_0 (q := 48) dX5_quarrelsOf_47 rfl ?_
        refine T.ild_1 (q := 49) dX5_quarrelsOf_48 rfl ?_
        refine k_X5_127 hb rfl dX5_quarrelsOf_49 (q := 52) rfl (by omega) hc hs (Nat.le_of_ble_eq_true rfl) (c_isOpen (d := 0) hb hcc) ?_
        rintro r M9 ⟨rfl, hM9⟩
        obtain rfl := hM9.symm
        refine T.ic_eq (tgt := 61) (q := 55) dX5_quarrelsOf_52 (by decide) rfl (fun h52 => ?_) (fun h52 => ?_)
        · first | rw [bitsP_t (P := qrl M b c) ⟨h24, h39, h52⟩] | rw [bitsP_f (P := qrl M b c) (fun q => h24 q.1)] | rw [bitsP_f (P := qrl M b c) (fun q => h39 q.2.1)] | rw [bitsP_f (P := qrl M b c) (fun q => q.2.2 h52)]
          refine T.inc_3 (q := 64) (1) dX5_quarrelsOf_61 rfl (by decide) (by decide) (by first | exact sk_ok_i | exact sk_ok_r | exact sk_ok_n) ?_
          refine T.goto (tgt := 4) dX5_quarrelsOf_64 (by decide) ?_
          rw [nI_1]
          exact ih (i + 1) (by omega)
        · refine T.ild_2 (q := 56) dX5_quarrelsOf_55 rfl ?_
          refine T.iconst (q := 57) (1) dX5_quarrelsOf_56 rfl (by decide) ?_
          refine T.ild_3 (q := 58) dX5_quarrelsOf_57 rfl ?_
          refine T.ishl (q := 59) dX5_quarrelsOf_58 rfl ?_
          refine T.ior (q := 60) dX5_quarrelsOf_59 rfl ?_
          refine T.ist_2 (q := 61) dX5_quarrelsOf_60 rfl (by decide) (by first | exact sk_ok_i | exact sk_ok_r | exact sk_ok_n) ?_
          first | rw [bitsP_t (P := qrl M b c) ⟨h24, h39, h52⟩] | rw [bitsP_f (P := qrl M b c) (fun q => h24 q.1)] | rw [bitsP_f (P := qrl M b c) (fun q => h39 q.2.1)] | rw [bitsP_f (P := qrl M b c) (fun q => q.2.2 h52)]
          refine T.inc_3 (q := 64) (1) dX5_quarrelsOf_61 rfl (by decide) (by decide) (by first | exact sk_ok_i | exact sk_ok_r | exact sk_ok_n) ?_
          refine T.goto (tgt := 4) dX5_quarrelsOf_64 (by decide) ?_
          rw [nI_1]
          exact ih (i + 1) (by omega)
theorem c_quarrelsOf {G : sk_G} {d : Nat} {M : sk_M} {b c nc : Nat} (hd : 0 < d) (hb : sk_sb b) (hcc : c < 12) (hnc : M.1 b 2 = nI nc) (hn6 : nc ≤ 12) : Ctr G mX5_quarrelsOf d 0 0 [.ref (G.2.2.1 b), .int (nI c)] M (rI fun r M' => r = bitsP (qrl M b c) nc ∧ M' = M) noX := by
  refine Ctr.of 2 (by decide) (Nat.le_of_ble_eq_true rfl) ?_
  refine T.iconst (q := 1) (0) dX5_quarrelsOf_0 rfl (by decide) ?_
  refine T.ist_2 (q := 2) dX5_quarrelsOf_1 rfl (by decide) (by first | exact sk_ok_i | exact sk_ok_r | exact sk_ok_n) ?_
  refine T.iconst (q := 3) (0) dX5_quarrelsOf_2 rfl (by decide) ?_
  refine T.ist_3 (q := 4) dX5_quarrelsOf_3 rfl (by decide) (by first | exact sk_ok_i | exact sk_ok_r | exact sk_ok_n) ?_
  refine l_quarrelsOf hd hb hcc hnc hn6 (Nat.le_refl 0) (Nat.le_refl 0) ?_ nc 0 (Nat.zero_add nc)
  refine T.ild_2 (q := 68) dX5_quarrelsOf_67 rfl ?_
  exact T.retI rfl dX5_quarrelsOf_68 (by decide) (by decide) ⟨rfl, rfl⟩
theorem l_isBroken {G : sk_G} {d : Nat} {M : sk_M} {b c nr rw9 : Nat} (hd : 0 < d) (hb : sk_sb b) (hcc : c < 12) (hn : M.1 b 11 = nI nr) (hnr : nr < 80) (hrw : M.1 b 10 = nI rw9) (hr8 : rw9 ≤ 80) (hq : isO M b c → M.1 (b + 6) c < M.1 b 5) : ∀ n i : Nat, i + n = rw9 → (∀ a, a < i → ¬ hitP M b nr c a) → ∀ x4 x5, sk_ok1 x4 → TJ G mX5_isBroken (sk_R d 0 0) (sk_K G 0 0 (rI fun r M' => r = bI (brk M b nr rw9 c) ∧ M' = M) noX) 0 0 27 [some (.ref (G.2.2.1 b)), some (.int (nI c)), some (.int (bI (isO M b c))), some (.int (nI i)), x4, x5] [] M := by
  intro n
  induction n with
  | zero =>
    intro i hi hno x4 x5 hx4
    obtain rfl : i = rw9 := by omega
    refine T.ild_3 (q := 28) dX5_isBroken_27 rfl ?_
    refine T.ald_0 (q := 29) dX5_isBroken_28 rfl ?_
    refine g_X5_75 hb rfl dX5_isBroken_29 (q := 32) rfl ?_
    rw [hrw]
    refine T.ic_ge (tgt := 134) (q := 35) dX5_isBroken_32 (by decide) rfl (fun h32 => ?_) (fun h32 => absurd (nI_le (Nat.le_refl _) (by omega)) h32)
    refine T.ild_2 (q := 135) dX5_isBroken_134 rfl ?_
    exact T.retZ rfl dX5_isBroken_135 (by decide) (by decide) (bI_nar _) ⟨bI_cg ⟨fun h => Or.inl ⟨h, hq h, fun ⟨a, ha, hh⟩ => hno a ha hh⟩, fun h => h.elim (fun z => z.1) (fun z => (z.2.elim fun a ha => (hno a ha.1 ha.2).elim))⟩, rfl⟩
  | succ n ih =>
    intro i hi hno x4 x5 hx4
    refine T.ild_3 (q := 28) dX5_isBroken_27 rfl ?_
    refine T.ald_0 (q := 29) dX5_isBroken_28 rfl ?_
    refine g_X5_75 hb rfl dX5_isBroken_29 (q := 32) rfl ?_
    rw [hrw]
    refine T.ic_ge (tgt := 134) (q := 35) dX5_isBroken_32 (by decide) rfl (fun h32 => absurd h32 (nI_ge (by omega) (by omega))) (fun h32 => ?_)
    have J70 : ∀ z4 : Int32, z4 = bI (thr M b nr c i) → TJ G mX5_isBroken (sk_R d 0 0) (sk_K G 0 0 (rI fun r M' => r = bI (brk M b nr rw9 c) ∧ M' = M) noX) 0 0 70 [some (.ref (G.2.2.1 b)), some (.int (nI c)), some (.int (bI (isO M b c))), some (.int (nI i)), x4, x5] [.int z4] M := by
      rintro z4 rfl
      refine T.ist_4 (q := 72) dX5_isBroken_70 rfl (by decide) sk_ok_i ?_
      have J102 : ∀ z5 : Int32, z5 = bI (kep M b nr c i) → TJ G mX5_isBroken (sk_R d 0 0) (sk_K G 0 0 (rI fun r M' => r = bI (brk M b nr rw9 c) ∧ M' = M) noX) 0 0 102 [some (.ref (G.2.2.1 b)), some (.int (nI c)), some (.int (bI (isO M b c))), some (.int (nI i)), some (.int (bI (thr M b nr c i))), x5] [.int z5] M := by
        rintro z5 rfl
        refine T.ist_5 (q := 104) dX5_isBroken_102 rfl (by decide) (by first | exact sk_ok_i | exact sk_ok_r | exact sk_ok_n) ?_
        refine T.ild_4 (q := 106) dX5_isBroken_104 rfl ?_
        refine T.if_eq (tgt := 128) (q := 109) dX5_isBroken_106 (by decide) rfl (fun h106 => ?_) (fun h106 => ?_)
        · have hni : ¬ hitP M b nr c i := by first | exact fun hh => bI_z.mp h106 hh.1 | exact fun hh => bI_z.mp h115 (hh.2 (bI_n.mp h110))
          refine T.inc_3 (q := 131) (1) dX5_isBroken_128 rfl (by decide) (by decide) (by first | exact sk_ok_i | exact sk_ok_r | exact sk_ok_n) ?_
          refine T.goto (tgt := 27) dX5_isBroken_131 (by decide) ?_
          rw [nI_1]
          refine ih (i + 1) (by omega) ?_ _ _ sk_ok_i
          intro a ha
          rcases Nat.lt_succ_iff_lt_or_eq.mp ha with h | h
          · exact hno a h
          · rw [h]; exact hni
        · refine T.ild_2 (q := 110) dX5_isBroken_109 rfl ?_
          refine T.if_eq (tgt := 118) (q := 113) dX5_isBroken_110 (by decide) rfl (fun h110 => ?_) (fun h110 => ?_)
          · refine T.ild_2 (q := 119) dX5_isBroken_118 rfl ?_
            refine T.if_ne (tgt := 126) (q := 122) dX5_isBroken_119 (by decide) rfl (fun h119 => ?_) (fun h119 => ?_)
            · refine T.iconst (q := 127) (0) dX5_isBroken_126 rfl (by decide) ?_
              exact T.retZ rfl dX5_isBroken_127 (by decide) (by decide) rfl ⟨by first | exact (bI_t (p := brk M b nr rw9 c) (Or.inr ⟨bI_z.mp h119, i, by omega, ⟨bI_n.mp h106, fun q9 => by first | exact bI_n.mp h115 | exact absurd q9 (bI_z.mp h110)⟩⟩)).symm | exact (bI_f (p := brk M b nr rw9 c) (fun z => z.elim (fun y => y.2.2 ⟨i, by omega, ⟨bI_n.mp h106, fun q9 => by first | exact bI_n.mp h115 | exact absurd q9 (bI_z.mp h110)⟩⟩) (fun y => y.1 (bI_n.mp h119)))).symm, rfl⟩
            · refine T.iconst (q := 123) (1) dX5_isBroken_122 rfl (by decide) ?_
              refine T.goto (tgt := 127) dX5_isBroken_123 (by decide) ?_
              exact T.retZ rfl dX5_isBroken_127 (by decide) (by decide) rfl ⟨by first | exact (bI_t (p := brk M b nr rw9 c) (Or.inr ⟨bI_z.mp h119, i, by omega, ⟨bI_n.mp h106, fun q9 => by first | exact bI_n.mp h115 | exact absurd q9 (bI_z.mp h110)⟩⟩)).symm | exact (bI_f (p := brk M b nr rw9 c) (fun z => z.elim (fun y => y.2.2 ⟨i, by omega, ⟨bI_n.mp h106, fun q9 => by first | exact bI_n.mp h115 | exact absurd q9 (bI_z.mp h110)⟩⟩) (fun y => y.1 (bI_n.mp h119)))).symm, rfl⟩
          · refine T.ild_5 (q := 115) dX5_isBroken_113 rfl ?_
            refine T.if_eq (tgt := 128) (q := 118) dX5_isBroken_115 (by decide) rfl (fun h115 => ?_) (fun h115 => ?_)
            · have hni : ¬ hitP M b nr c i := by first | exact fun hh => bI_z.mp h106 hh.1 | exact fun hh => bI_z.mp h115 (hh.2 (bI_n.mp h110))
              refine T.inc_3 (q := 131) (1) dX5_isBroken_128 rfl (by decide) (by decide) (by first | exact sk_ok_i | exact sk_ok_r | exact sk_ok_n) ?_
              refine T.goto (tgt := 27) dX5_isBroken_131 (by decide) ?_
              rw [nI_1]
              refine ih (i + 1) (by omega) ?_ _ _ sk_ok_i
              intro a ha
              rcases Nat.lt_succ_iff_lt_or_eq.mp ha with h | h
              · exact hno a h
              · rw [h]; exact hni
            · refine T.ild_2 (q := 119) dX5_isBroken_118 rfl ?_
              refine T.if_ne (tgt := 126) (q := 122) dX5_isBroken_119 (by decide) rfl (fun h119 => ?_) (fun h119 => ?_)
              · refine T.iconst (q := 127) (0) dX5_isBroken_126 rfl (by decide) ?_
                exact T.retZ rfl dX5_isBroken_127 (by decide) (by decide) rfl ⟨by first | exact (bI_t (p := brk M b nr rw9 c) (Or.inr ⟨bI_z.mp h119, i, by omega, ⟨bI_n.mp h106, fun q9 => by first | exact bI_n.mp h115 | exact absurd q9 (bI_z.mp h110)⟩⟩)).symm | exact (bI_f (p := brk M b nr rw9 c) (fun z => z.elim (fun y => y.2.2 ⟨i, by omega, ⟨bI_n.mp h106, fun q9 => by first | exact bI_n.mp h115 | exact absurd q9 (bI_z.mp h110)⟩⟩) (fun y => y.1 (bI_n.mp h119)))).symm, rfl⟩
              · refine T.iconst (q := 123) (1) dX5_isBroken_122 rfl (by decide) ?_
                refine T.goto (tgt := 127) dX5_isBroken_123 (by decide) ?_
                exact T.retZ rfl dX5_isBroken_127 (by decide) (by decide) rfl ⟨by first | exact (bI_t (p := brk M b nr rw9 c) (Or.inr ⟨bI_z.mp h119, i, by omega, ⟨bI_n.mp h106, fun q9 => by first | exact bI_n.mp h115 | exact absurd q9 (bI_z.mp h110)⟩⟩)).symm | exact (bI_f (p := brk M b nr rw9 c) (fun z => z.elim (fun y => y.2.2 ⟨i, by omega, ⟨bI_n.mp h106, fun q9 => by first | exact bI_n.mp h115 | exact absurd q9 (bI_z.mp h110)⟩⟩) (fun y => y.1 (bI_n.mp h119)))).symm, rfl⟩
      refine T.ald_0 (q := 73) dX5_isBroken_72 rfl ?_
      refine T.ild_3 (q := 74) dX5_isBroken_73 rfl ?_
      refine T.iconst (q := 75) (5) dX5_isBroken_74 rfl (by decide) ?_
      rw [sk_lit 5]
      refine k_X5_130 hb rfl dX5_isBroken_75 (q := 78) rfl (by omega) (by decide) (by decide) (Nat.le_of_ble_eq_true rfl) (c_rowCell (d := 0) (k := 5) hb (by omega) (by decide) hn hnr) ?_
      rintro r M9 ⟨rfl, hM9⟩
      obtain rfl := hM9.symm
      refine T.iconst (q := 79) (1) dX5_isBroken_78 rfl (by decide) ?_
      rw [show M.1 (b + 8) ((nr + 79 - i) % 80 * 6 + 5) = rwC M b nr i 5 from rfl]
      refine T.ic_ne (tgt := 101) (q := 82) dX5_isBroken_79 (by decide) rfl (fun h79 => ?_) (fun h79 => ?_)
      · refine T.iconst (q := 102) (0) dX5_isBroken_101 rfl (by decide) ?_
        exact J102 _ (by first | exact (bI_t (p := kep M b nr c i) ⟨h79, h94⟩).symm | exact (bI_f (p := kep M b nr c i) (fun z => z.2 h94)).symm | exact (bI_f (p := kep M b nr c i) (fun z => h79 z.1)).symm)
      · refine T.ald_0 (q := 83) dX5_isBroken_82 rfl ?_
        refine T.ild_3 (q := 84) dX5_isBroken_83 rfl ?_
        refine T.iconst (q := 85) (0) dX5_isBroken_84 rfl (by decide) ?_
        rw [show (0 : Int32) = nI 0 from rfl]
        refine k_X5_130 hb rfl dX5_isBroken_85 (q := 88) rfl (by omega) (by decide) (by decide) (Nat.le_of_ble_eq_true rfl) (c_rowCell (d := 0) (k := 0) hb (by omega) (by decide) hn hnr) ?_
        rintro r M9 ⟨rfl, hM9⟩
        obtain rfl := hM9.symm
        rw [show M.1 (b + 8) ((nr + 79 - i) % 80 * 6 + 0) = rwC M b nr i 0 from rfl]
        refine T.ald_0 (q := 89) dX5_isBroken_88 rfl ?_
        refine g_X5_34 hb rfl dX5_isBroken_89 (q := 92) rfl ?_
        refine T.ild_1 (q := 93) dX5_isBroken_92 rfl ?_
        refine T.iald (sk_a6 hb).1 (sk_a6 hb).2.1 (sk_a6 hb).2.2 dX5_isBroken_93 (q := 94) rfl (vp_in_nI (by omega) (by decide)) ?_
        rw [nI_clamp (by omega)]
        refine T.ic_gt (tgt := 101) (q := 97) dX5_isBroken_94 (by decide) rfl (fun h94 => ?_) (fun h94 => ?_)
        · refine T.iconst (q := 102) (0) dX5_isBroken_101 rfl (by decide) ?_
          exact J102 _ (by first | exact (bI_t (p := kep M b nr c i) ⟨h79, h94⟩).symm | exact (bI_f (p := kep M b nr c i) (fun z => z.2 h94)).symm | exact (bI_f (p := kep M b nr c i) (fun z => h79 z.1)).symm)
        · refine T.iconst (q := 98) (1) dX5_isBroken_97 rfl (by decide) ?_
          refine T.goto (tgt := 102) dX5_isBroken_98 (by decide) ?_
          exact J102 _ (by first | exact (bI_t (p := kep M b nr c i) ⟨h79, h94⟩).symm | exact (bI_f (p := kep M b nr c i) (fun z => z.2 h94)).symm | exact (bI_f (p := kep M b nr c i) (fun z => h79 z.1)).symm)
    refine T.ald_0 (q := 36) dX5_isBroken_35 rfl ?_
    refine T.ild_3 (q := 37) dX5_isBroken_36 rfl ?_
    refine T.iconst (q := 38) (1) dX5_isBroken_37 rfl (by decide) ?_
    rw [sk_lit 1]
    refine k_X5_130 hb rfl dX5_isBroken_38 (q := 41) rfl (by omega) (by decide) (by decide) (Nat.le_of_ble_eq_true rfl) (c_rowCell (d := 0) (k := 1) hb (by omega) (by decide) hn hnr) ?_
    rintro r M9 ⟨rfl, hM9⟩
    obtain rfl := hM9.symm
    refine T.ald_0 (q := 42) dX5_isBroken_41 rfl ?_
    refine g_X5_28 hb rfl dX5_isBroken_42 (q := 45) rfl ?_
    refine T.ild_1 (q := 46) dX5_isBroken_45 rfl ?_
    refine T.iald (sk_a4 hb).1 (sk_a4 hb).2.1 (sk_a4 hb).2.2 dX5_isBroken_46 (q := 47) rfl (vp_in_nI (by omega) (by decide)) ?_
    rw [nI_clamp (by omega)]
    refine T.ic_ne (tgt := 69) (q := 50) dX5_isBroken_47 (by decide) rfl (fun h47 => ?_) (fun h47 => ?_)
    · refine T.iconst (q := 70) (0) dX5_isBroken_69 rfl (by decide) ?_
      exact J70 _ (by first | exact (bI_t (p := thr M b nr c i) ⟨h47, h62⟩).symm | exact (bI_f (p := thr M b nr c i) (fun z => h47 z.1)).symm | exact (bI_f (p := thr M b nr c i) (fun z => h62 z.2)).symm)
    · refine T.ald_0 (q := 51) dX5_isBroken_50 rfl ?_
      refine T.ild_3 (q := 52) dX5_isBroken_51 rfl ?_
      refine T.iconst (q := 53) (2) dX5_isBroken_52 rfl (by decide) ?_
      rw [sk_lit 2]
      refine k_X5_130 hb rfl dX5_isBroken_53 (q := 56) rfl (by omega) (by decide) (by decide) (Nat.le_of_ble_eq_true rfl) (c_rowCell (d := 0) (k := 2) hb (by omega) (by decide) hn hnr) ?_
      rintro r M9 ⟨rfl, hM9⟩
      obtain rfl := hM9.symm
      refine T.ald_0 (q := 57) dX5_isBroken_56 rfl ?_
      refine g_X5_31 hb rfl dX5_isBroken_57 (q := 60) rfl ?_
      refine T.ild_1 (q := 61) dX5_isBroken_60 rfl ?_
      refine T.iald (sk_a5 hb).1 (sk_a5 hb).2.1 (sk_a5 hb).2.2 dX5_isBroken_61 (q := 62) rfl (vp_in_nI (by omega) (by decide)) ?_
      rw [nI_clamp (by omega)]
      refine T.ic_ne (tgt := 69) (q := 65) dX5_isBroken_62 (by decide) rfl (fun h62 => ?_) (fun h62 => ?_)
      · refine T.iconst (q := 70) (0) dX5_isBroken_69 rfl (by decide) ?_
        exact J70 _ (by first | exact (bI_t (p := thr M b nr c i) ⟨h47, h62⟩).symm | exact (bI_f (p := thr M b nr c i) (fun z => h47 z.1)).symm | exact (bI_f (p := thr M b nr c i) (fun z => h62 z.2)).symm)
      · refine T.iconst (q := 66) (1) dX5_isBroken_65 rfl (by decide) ?_
        refine T.goto (tgt := 70) dX5_isBroken_66 (by decide) ?_
        exact J70 _ (by first | exact (bI_t (p := thr M b nr c i) ⟨h47, h62⟩).symm | exact (bI_f (p := thr M b nr c i) (fun z => h47 z.1)).symm | exact (bI_f (p := thr M b nr c i) (fun z => h62 z.2)).symm)
theorem c_isBroken {G : sk_G} {d : Nat} {M : sk_M} {b c nr rw9 : Nat} (hd : 0 < d) (hb : sk_sb b) (hcc : c < 12) (hn : M.1 b 11 = nI nr) (hnr : nr < 80) (hrw : M.1 b 10 = nI rw9) (hr8 : rw9 ≤ 80) : Ctr G mX5_isBroken d 0 0 [.ref (G.2.2.1 b), .int (nI c)] M (rI fun r M' => r = bI (brk M b nr rw9 c) ∧ M' = M) noX := by
  refine Ctr.of 4 (by decide) (Nat.le_of_ble_eq_true rfl) ?_
  refine T.ald_0 (q := 1) dX5_isBroken_0 rfl ?_
  refine T.ild_1 (q := 2) dX5_isBroken_1 rfl ?_
  refine k_X5_127 hb rfl dX5_isBroken_2 (q := 5) rfl (by omega) (by decide) (by decide) (Nat.le_of_ble_eq_true rfl) (c_isOpen (d := 0) hb hcc) ?_
  rintro r M9 ⟨rfl, hM9⟩
  obtain rfl := hM9.symm
  refine T.ist_2 (q := 6) dX5_isBroken_5 rfl (by decide) (by first | exact sk_ok_i | exact sk_ok_r | exact sk_ok_n) ?_
  refine T.ild_2 (q := 7) dX5_isBroken_6 rfl ?_
  refine T.if_eq (tgt := 25) (q := 10) dX5_isBroken_7 (by decide) rfl (fun h7 => ?_) (fun h7 => ?_)
  · refine T.iconst (q := 26) (0) dX5_isBroken_25 rfl (by decide) ?_
    refine T.ist_3 (q := 27) dX5_isBroken_26 rfl (by decide) (by first | exact sk_ok_i | exact sk_ok_r | exact sk_ok_n) ?_
    refine l_isBroken hd hb hcc hn hnr hrw hr8 ?_ rw9 0 (Nat.zero_add rw9) (fun a h => absurd h (Nat.not_lt_zero a)) _ _ sk_ok_n
    first | exact fun _ => h20 | exact fun q9 => absurd q9 (bI_z.mp h7)
  · refine T.ald_0 (q := 11) dX5_isBroken_10 rfl ?_
    refine g_X5_63 hb rfl dX5_isBroken_11 (q := 14) rfl ?_
    refine T.ald_0 (q := 15) dX5_isBroken_14 rfl ?_
    refine g_X5_34 hb rfl dX5_isBroken_15 (q := 18) rfl ?_
    refine T.ild_1 (q := 19) dX5_isBroken_18 rfl ?_
    refine T.iald (sk_a6 hb).1 (sk_a6 hb).2.1 (sk_a6 hb).2.2 dX5_isBroken_19 (q := 20) rfl (vp_in_nI (by omega) (by decide)) ?_
    rw [nI_clamp (by omega)]
    refine T.ic_gt (tgt := 25) (q := 23) dX5_isBroken_20 (by decide) rfl (fun h20 => ?_) (fun h20 => ?_)
    · refine T.iconst (q := 26) (0) dX5_isBroken_25 rfl (by decide) ?_
      refine T.ist_3 (q := 27) dX5_isBroken_26 rfl (by decide) (by first | exact sk_ok_i | exact sk_ok_r | exact sk_ok_n) ?_
      refine l_isBroken hd hb hcc hn hnr hrw hr8 ?_ rw9 0 (Nat.zero_add rw9) (fun a h => absurd h (Nat.not_lt_zero a)) _ _ sk_ok_n
      first | exact fun _ => h20 | exact fun q9 => absurd q9 (bI_z.mp h7)
    · refine T.iconst (q := 24) (0) dX5_isBroken_23 rfl (by decide) ?_
      exact T.retZ rfl dX5_isBroken_24 (by decide) (by decide) rfl ⟨(bI_f (p := brk M b nr rw9 c) (fun z => z.elim (fun y => h20 y.2.1) (fun y => y.1 (bI_n.mp h7)))).symm, rfl⟩
