/-! State: reads -/
theorem c_wordsOf {G : sk_G} {d : Nat} {M : sk_M} {p v : Nat}  : Ctr G mX5_wordsOf d 0 0 [.int (nI p), .int (nI v)] M (rI fun r M' => r = nI (4 * (6 * p + v)) ∧ M' = M) noX := by
  refine Ctr.of 0 (by decide) (Nat.le_of_ble_eq_true rfl) ?_
  refine T.ild_0 (q := 1) dX5_wordsOf_0 rfl ?_
  refine T.bipush (q := 3) (6) dX5_wordsOf_1 rfl (by decide) ?_
  refine T.imul (q := 4) dX5_wordsOf_3 rfl ?_
  refine T.ild_1 (q := 5) dX5_wordsOf_4 rfl ?_
  refine T.iadd (q := 6) dX5_wordsOf_5 rfl ?_
  refine T.iconst (q := 7) (4) dX5_wordsOf_6 rfl (by decide) ?_
  refine T.imul (q := 8) dX5_wordsOf_7 rfl ?_
  exact T.retI rfl dX5_wordsOf_8 (by decide) (by decide) ⟨(by simp (disch := omega) only [sk_lit, nI_add, pk_mul, pk_div, pk_sub, sk_mod, nI_clamp, nI_1]; try (congr 1 <;> omega)), rfl⟩
theorem l_leftOf {G : sk_G} {E : sk_E} {d mR sR cells slots : Nat} {M : sk_M} {b p v : Nat} {x1 x2 : Value} (hb : sk_sb b) (hp : p < 6) (hv : v < 6) (hd : 0 < d) (hc : cells ≤ mR) (hs : slots ≤ sR) (hk : TJ G mX5_leftOf (sk_R d mR sR) E cells slots 41 [some (.ref (G.2.2.1 b)), some x1, some x2, some (.int (nI (4 * (6 * p + v)))), some (.int (leftP (M.2 (b + 9)) (4 * (6 * p + v)) (4))), some (.int (nI (4 * (6 * p + v) + (4))))] [] M) : ∀ n i : Nat, i + n = 4 → TJ G mX5_leftOf (sk_R d mR sR) E cells slots 12 [some (.ref (G.2.2.1 b)), some x1, some x2, some (.int (nI (4 * (6 * p + v)))), some (.int (leftP (M.2 (b + 9)) (4 * (6 * p + v)) i)), some (.int (nI (4 * (6 * p + v) + i)))] [] M := by
  intro n
  induction n with
  | zero =>
    intro i hi
    obtain rfl : i = 4 := by omega
    refine T.ild_5 (q := 14) dX5_leftOf_12 rfl ?_
    refine T.ild_3 (q := 15) dX5_leftOf_14 rfl ?_
    refine T.iconst (q := 16) (4) dX5_leftOf_15 rfl (by decide) ?_
    refine T.iadd (q := 17) dX5_leftOf_16 rfl ?_
    refine T.ic_ge (tgt := 41) (q := 20) dX5_leftOf_17 (by decide) rfl (fun h17 => ?_) (fun h17 => absurd (by rw [show (4 : Int32) = nI 4 from rfl, nI_add]; exact nI_le (by omega) (by omega)) h17)
    exact hk
  | succ n ih =>
    intro i hi
    refine T.ild_5 (q := 14) dX5_leftOf_12 rfl ?_
    refine T.ild_3 (q := 15) dX5_leftOf_14 rfl ?_
    refine T.iconst (q := 16) (4) dX5_leftOf_15 rfl (by decide) ?_
    refine T.iadd (q := 17) dX5_leftOf_16 rfl ?_
    refine T.ic_ge (tgt := 41) (q := 20) dX5_leftOf_17 (by decide) rfl (fun h17 => absurd h17 (by rw [show (4 : Int32) = nI 4 from rfl, nI_add]; exact nI_ge (by omega) (by omega))) (fun h17 => ?_)
    refine T.ild_4 (q := 22) dX5_leftOf_20 rfl ?_
    refine T.ald_0 (q := 23) dX5_leftOf_22 rfl ?_
    refine g_X5_43 hb rfl dX5_leftOf_23 (q := 26) rfl ?_
    refine T.ild_5 (q := 28) dX5_leftOf_26 rfl ?_
    refine T.lald (sk_kn hb).1 (sk_kn hb).2.1 (sk_kn hb).2.2 dX5_leftOf_28 (q := 29) rfl (vp_in_nI (by omega) (by omega)) ?_
    refine k_X5_106 rfl dX5_leftOf_29 (q := 32) rfl (by omega) hc hs (Nat.le_of_ble_eq_true rfl) (c_bc64 (d := 0)) ?_
    rintro r M9 ⟨rfl, hM9⟩
    obtain rfl := hM9.symm
    rw [nI_clamp (by omega)]
    refine T.iadd (q := 33) dX5_leftOf_32 rfl ?_
    refine T.ist_4 (q := 35) dX5_leftOf_33 rfl (by decide) (by first | exact sk_ok_i | exact sk_ok_r | exact sk_ok_n) ?_
    refine T.inc_5 (q := 38) (1) dX5_leftOf_35 rfl (by decide) (by decide) (by first | exact sk_ok_i | exact sk_ok_r | exact sk_ok_n) ?_
    refine T.goto (tgt := 12) dX5_leftOf_38 (by decide) ?_
    rw [nI_1]
    exact ih (i + 1) (by omega)
theorem c_leftOf {G : sk_G} {d : Nat} {M : sk_M} {b p v : Nat} (hd : 0 < d) (hb : sk_sb b) (hp : p < 6) (hv : v < 6) : Ctr G mX5_leftOf d 0 0 [.ref (G.2.2.1 b), .int (nI p), .int (nI v)] M (rI fun r M' => r = leftP (M.2 (b + 9)) (4 * (6 * p + v)) 4 ∧ M' = M) noX := by
  refine Ctr.of 3 (by decide) (Nat.le_of_ble_eq_true rfl) ?_
  refine T.ild_1 (q := 1) dX5_leftOf_0 rfl ?_
  refine T.ild_2 (q := 2) dX5_leftOf_1 rfl ?_
  refine k_X5_103 rfl dX5_leftOf_2 (q := 5) rfl (by omega) (by decide) (by decide) (Nat.le_of_ble_eq_true rfl) (c_wordsOf (d := 0)) ?_
  rintro r M9 ⟨rfl, hM9⟩
  obtain rfl := hM9.symm
  refine T.ist_3 (q := 6) dX5_leftOf_5 rfl (by decide) (by first | exact sk_ok_i | exact sk_ok_r | exact sk_ok_n) ?_
  refine T.iconst (q := 7) (0) dX5_leftOf_6 rfl (by decide) ?_
  refine T.ist_4 (q := 9) dX5_leftOf_7 rfl (by decide) (by first | exact sk_ok_i | exact sk_ok_r | exact sk_ok_n) ?_
  refine T.ild_3 (q := 10) dX5_leftOf_9 rfl ?_
  refine T.ist_5 (q := 12) dX5_leftOf_10 rfl (by decide) (by first | exact sk_ok_i | exact sk_ok_r | exact sk_ok_n) ?_
  refine l_leftOf hb hp hv hd (Nat.le_refl 0) (Nat.le_refl 0) ?_ 4 0 rfl
  refine T.ild_4 (q := 43) dX5_leftOf_41 rfl ?_
  exact T.retI rfl dX5_leftOf_43 (by decide) (by decide) ⟨rfl, rfl⟩
theorem c_soundOf {G : sk_G} {d : Nat} {M : sk_M} {b t c : Nat} (hb : sk_sb b) (ht : t < 216) (hc : c < 216) : Ctr G mX5_soundOf d 0 0 [.ref (G.2.2.1 b), .int (nI t), .int (nI c)] M (rI fun r M' => r = sndC (M.1 (b + 7)) t c ∧ M' = M) noX := by
  refine Ctr.of 0 (by decide) (Nat.le_of_ble_eq_true rfl) ?_
  refine T.ald_0 (q := 1) dX5_soundOf_0 rfl ?_
  refine g_X5_37 hb rfl dX5_soundOf_1 (q := 4) rfl ?_
  refine T.ild_1 (q := 5) dX5_soundOf_4 rfl ?_
  refine T.bipush (q := 7) (36) dX5_soundOf_5 rfl (by decide) ?_
  refine T.idiv (q := 8) dX5_soundOf_7 rfl (by decide) ?_
  refine T.bipush (q := 10) (6) dX5_soundOf_8 rfl (by decide) ?_
  refine T.imul (q := 11) dX5_soundOf_10 rfl ?_
  refine T.ild_2 (q := 12) dX5_soundOf_11 rfl ?_
  refine T.bipush (q := 14) (36) dX5_soundOf_12 rfl (by decide) ?_
  refine T.idiv (q := 15) dX5_soundOf_14 rfl (by decide) ?_
  refine T.iadd (q := 16) dX5_soundOf_15 rfl ?_
  refine T.iald (sk_a7 hb).1 (sk_a7 hb).2.1 (sk_a7 hb).2.2 dX5_soundOf_16 (q := 17) rfl (vin (n := t / 36 * 6 + c / 36) (by simp (disch := omega) only [sk_lit, nI_add, pk_mul, pk_div, pk_sub, sk_mod, nI_clamp, nI_1]; try (congr 1 <;> omega)) (by omega) (by decide)) ?_
  refine T.ald_0 (q := 18) dX5_soundOf_17 rfl ?_
  refine g_X5_37 hb rfl dX5_soundOf_18 (q := 21) rfl ?_
  refine T.bipush (q := 23) (36) dX5_soundOf_21 rfl (by decide) ?_
  refine T.ild_1 (q := 24) dX5_soundOf_23 rfl ?_
  refine T.bipush (q := 26) (6) dX5_soundOf_24 rfl (by decide) ?_
  refine T.idiv (q := 27) dX5_soundOf_26 rfl (by decide) ?_
  refine T.bipush (q := 29) (6) dX5_soundOf_27 rfl (by decide) ?_
  refine T.irem (q := 30) dX5_soundOf_29 rfl (by decide) ?_
  refine T.bipush (q := 32) (6) dX5_soundOf_30 rfl (by decide) ?_
  refine T.imul (q := 33) dX5_soundOf_32 rfl ?_
  refine T.iadd (q := 34) dX5_soundOf_33 rfl ?_
  refine T.ild_2 (q := 35) dX5_soundOf_34 rfl ?_
  refine T.bipush (q := 37) (6) dX5_soundOf_35 rfl (by decide) ?_
  refine T.idiv (q := 38) dX5_soundOf_37 rfl (by decide) ?_
  refine T.bipush (q := 40) (6) dX5_soundOf_38 rfl (by decide) ?_
  refine T.irem (q := 41) dX5_soundOf_40 rfl (by decide) ?_
  refine T.iadd (q := 42) dX5_soundOf_41 rfl ?_
  refine T.iald (sk_a7 hb).1 (sk_a7 hb).2.1 (sk_a7 hb).2.2 dX5_soundOf_42 (q := 43) rfl (vin (n := 36 + t / 6 % 6 * 6 + c / 6 % 6) (by simp (disch := omega) only [sk_lit, nI_add, pk_mul, pk_div, pk_sub, sk_mod, nI_clamp, nI_1]; try (congr 1 <;> omega)) (by omega) (by decide)) ?_
  refine T.iadd (q := 44) dX5_soundOf_43 rfl ?_
  refine T.ald_0 (q := 45) dX5_soundOf_44 rfl ?_
  refine g_X5_37 hb rfl dX5_soundOf_45 (q := 48) rfl ?_
  refine T.bipush (q := 50) (72) dX5_soundOf_48 rfl (by decide) ?_
  refine T.ild_1 (q := 51) dX5_soundOf_50 rfl ?_
  refine T.bipush (q := 53) (6) dX5_soundOf_51 rfl (by decide) ?_
  refine T.irem (q := 54) dX5_soundOf_53 rfl (by decide) ?_
  refine T.bipush (q := 56) (6) dX5_soundOf_54 rfl (by decide) ?_
  refine T.imul (q := 57) dX5_soundOf_56 rfl ?_
  refine T.iadd (q := 58) dX5_soundOf_57 rfl ?_
  refine T.ild_2 (q := 59) dX5_soundOf_58 rfl ?_
  refine T.bipush (q := 61) (6) dX5_soundOf_59 rfl (by decide) ?_
  refine T.irem (q := 62) dX5_soundOf_61 rfl (by decide) ?_
  refine T.iadd (q := 63) dX5_soundOf_62 rfl ?_
  refine T.iald (sk_a7 hb).1 (sk_a7 hb).2.1 (sk_a7 hb).2.2 dX5_soundOf_63 (q := 64) rfl (vin (n := 72 + t % 6 * 6 + c % 6) (by simp (disch := omega) only [sk_lit, nI_add, pk_mul, pk_div, pk_sub, sk_mod, nI_clamp, nI_1]; try (congr 1 <;> omega)) (by omega) (by decide)) ?_
  refine T.iadd (q := 65) dX5_soundOf_64 rfl ?_
  exact T.retI rfl dX5_soundOf_65 (by decide) (by decide) ⟨by simp (disch := omega) only [sk_lit, nI_add, pk_mul, pk_div, pk_sub, sk_mod, nI_clamp, nI_1, sndC], rfl⟩
theorem c_isGuarded {G : sk_G} {d : Nat} {M : sk_M} {b v dy : Nat} (hb : sk_sb b) (hv : v < 6) (hdy : M.1 b 5 = nI dy) (hdl : dy < 10000) : Ctr G mX5_isGuarded d 0 0 [.ref (G.2.2.1 b), .int (nI v)] M (rI fun r M' => r = bI (isG M b dy v) ∧ M' = M) noX := by
  refine Ctr.of 0 (by decide) (Nat.le_of_ble_eq_true rfl) ?_
  refine T.ald_0 (q := 1) dX5_isGuarded_0 rfl ?_
  refine g_X5_22 hb rfl dX5_isGuarded_1 (q := 4) rfl ?_
  refine T.ild_1 (q := 5) dX5_isGuarded_4 rfl ?_
  refine T.iald (sk_a2 hb).1 (sk_a2 hb).2.1 (sk_a2 hb).2.2 dX5_isGuarded_5 (q := 6) rfl (vin (n := v) (by simp (disch := omega) only [sk_lit, nI_add, pk_mul, pk_div, pk_sub, sk_mod, nI_clamp, nI_1]; try (congr 1 <;> omega)) (by omega) (by decide)) ?_
  refine T.ald_0 (q := 7) dX5_isGuarded_6 rfl ?_
  refine g_X5_63 hb rfl dX5_isGuarded_7 (q := 10) rfl ?_
  refine T.bipush (q := 12) (7) dX5_isGuarded_10 rfl (by decide) ?_
  refine T.irem (q := 13) dX5_isGuarded_12 rfl (by decide) ?_
  rw [hdy, show nI dy - nI dy / 7 * 7 = nI (dy % 7) from (by simp (disch := omega) only [sk_lit, nI_add, pk_mul, pk_div, pk_sub, sk_mod, nI_clamp, nI_1]; try (congr 1 <;> omega)), nI_clamp (by omega)]
  refine T.ishr (q := 14) dX5_isGuarded_13 rfl ?_
  refine T.iconst (q := 15) (1) dX5_isGuarded_14 rfl (by decide) ?_
  refine T.iand (q := 16) dX5_isGuarded_15 rfl ?_
  refine T.iconst (q := 17) (1) dX5_isGuarded_16 rfl (by decide) ?_
  refine T.ic_ne (tgt := 24) (q := 20) dX5_isGuarded_17 (by decide) rfl (fun h17 => ?_) (fun h17 => ?_)
  · refine T.iconst (q := 25) (0) dX5_isGuarded_24 rfl (by decide) ?_
    exact T.retZ rfl dX5_isGuarded_25 (by decide) (by decide) rfl ⟨by first | exact (bI_t (p := isG _ _ _ _) h17).symm | exact (bI_f (p := isG _ _ _ _) h17).symm, rfl⟩
  · refine T.iconst (q := 21) (1) dX5_isGuarded_20 rfl (by decide) ?_
    refine T.goto (tgt := 25) dX5_isGuarded_21 (by decide) ?_
    exact T.retZ rfl dX5_isGuarded_25 (by decide) (by decide) rfl ⟨by first | exact (bI_t (p := isG _ _ _ _) h17).symm | exact (bI_f (p := isG _ _ _ _) h17).symm, rfl⟩
theorem c_shareOf {G : sk_G} {d : Nat} {M : sk_M} {b p v : Nat} (hd : 1 < d) (hb : sk_sb b) (hp : p < 6) (hv : v < 6) : Ctr G mX5_shareOf d 0 0 [.ref (G.2.2.1 b), .int (nI p), .int (nI v)] M (rI fun r M' => r = (if leftP (M.2 (b + 9)) (4 * (6 * p + v)) 4 = 0 then 0 else M.1 (b + 3) v / leftP (M.2 (b + 9)) (4 * (6 * p + v)) 4) ∧ M' = M) noX := by
  refine Ctr.of 1 (by decide) (Nat.le_of_ble_eq_true rfl) ?_
  refine T.ald_0 (q := 1) dX5_shareOf_0 rfl ?_
  refine T.ild_1 (q := 2) dX5_shareOf_1 rfl ?_
  refine T.ild_2 (q := 3) dX5_shareOf_2 rfl ?_
  refine k_X5_124 hb rfl dX5_shareOf_3 (q := 6) rfl (by omega) (by decide) (by decide) (Nat.le_of_ble_eq_true rfl) (c_leftOf (d := 1) (by decide) hb hp hv) ?_
  rintro r M9 ⟨rfl, hM9⟩
  obtain rfl := hM9.symm
  refine T.ist_3 (q := 7) dX5_shareOf_6 rfl (by decide) (by first | exact sk_ok_i | exact sk_ok_r | exact sk_ok_n) ?_
  refine T.ild_3 (q := 8) dX5_shareOf_7 rfl ?_
  refine T.if_ne (tgt := 15) (q := 11) dX5_shareOf_8 (by decide) rfl (fun h8 => ?_) (fun h8 => ?_)
  · refine T.ald_0 (q := 16) dX5_shareOf_15 rfl ?_
    refine g_X5_25 hb rfl dX5_shareOf_16 (q := 19) rfl ?_
    refine T.ild_2 (q := 20) dX5_shareOf_19 rfl ?_
    refine T.iald (sk_a3 hb).1 (sk_a3 hb).2.1 (sk_a3 hb).2.2 dX5_shareOf_20 (q := 21) rfl (vin (n := v) (by simp (disch := omega) only [sk_lit, nI_add, pk_mul, pk_div, pk_sub, sk_mod, nI_clamp, nI_1]; try (congr 1 <;> omega)) (by omega) (by decide)) ?_
    refine T.ild_3 (q := 22) dX5_shareOf_21 rfl ?_
    rw [nI_clamp (by omega)]
    refine T.idiv (q := 23) dX5_shareOf_22 rfl h8 ?_
    exact T.retI rfl dX5_shareOf_23 (by decide) (by decide) ⟨by first | rw [if_pos h8] | rw [if_neg h8], rfl⟩
  · refine T.iconst (q := 12) (0) dX5_shareOf_11 rfl (by decide) ?_
    refine T.goto (tgt := 23) dX5_shareOf_12 (by decide) ?_
    exact T.retI rfl dX5_shareOf_23 (by decide) (by decide) ⟨by first | rw [if_pos h8] | rw [if_neg h8], rfl⟩
theorem c_isOpen {G : sk_G} {d : Nat} {M : sk_M} {b v : Nat} (hb : sk_sb b) (hv : v < 12) : Ctr G mX5_isOpenContract d 0 0 [.ref (G.2.2.1 b), .int (nI v)] M (rI fun r M' => r = bI (isO M b v) ∧ M' = M) noX := by
  refine Ctr.of 0 (by decide) (Nat.le_of_ble_eq_true rfl) ?_
  refine T.ald_0 (q := 1) dX5_isOpenContract_0 rfl ?_
  refine g_X5_34 hb rfl dX5_isOpenContract_1 (q := 4) rfl ?_
  refine T.ild_1 (q := 5) dX5_isOpenContract_4 rfl ?_
  refine T.iald (sk_a6 hb).1 (sk_a6 hb).2.1 (sk_a6 hb).2.2 dX5_isOpenContract_5 (q := 6) rfl (vin (n := v) (by simp (disch := omega) only [sk_lit, nI_add, pk_mul, pk_div, pk_sub, sk_mod, nI_clamp, nI_1]; try (congr 1 <;> omega)) (by omega) (by decide)) ?_
  refine T.iconst (q := 7) (-1) dX5_isOpenContract_6 rfl (by decide) ?_
  rw [nI_clamp (by omega)]
  refine T.ic_eq (tgt := 14) (q := 10) dX5_isOpenContract_7 (by decide) rfl (fun h7 => ?_) (fun h7 => ?_)
  · refine T.iconst (q := 15) (0) dX5_isOpenContract_14 rfl (by decide) ?_
    exact T.retZ rfl dX5_isOpenContract_15 (by decide) (by decide) rfl ⟨by first | exact (bI_t (p := isO _ _ _) h7).symm | exact (bI_f (p := isO _ _ _) (fun q => q h7)).symm, rfl⟩
  · refine T.iconst (q := 11) (1) dX5_isOpenContract_10 rfl (by decide) ?_
    refine T.goto (tgt := 15) dX5_isOpenContract_11 (by decide) ?_
    exact T.retZ rfl dX5_isOpenContract_15 (by decide) (by decide) rfl ⟨by first | exact (bI_t (p := isO _ _ _) h7).symm | exact (bI_f (p := isO _ _ _) (fun q => q h7)).symm, rfl⟩
theorem c_rowCell {G : sk_G} {d : Nat} {M : sk_M} {b a k nr : Nat} (hb : sk_sb b) (ha : a < 80) (hk : k < 6) (hn : M.1 b 11 = nI nr) (hnr : nr < 80) : Ctr G mX5_rowCell d 0 0 [.ref (G.2.2.1 b), .int (nI a), .int (nI k)] M (rI fun r M' => r = M.1 (b + 8) ((nr + 79 - a) % 80 * 6 + k) ∧ M' = M) noX := by
  refine Ctr.of 0 (by decide) (Nat.le_of_ble_eq_true rfl) ?_
  refine T.ald_0 (q := 1) dX5_rowCell_0 rfl ?_
  refine g_X5_40 hb rfl dX5_rowCell_1 (q := 4) rfl ?_
  refine T.ald_0 (q := 5) dX5_rowCell_4 rfl ?_
  refine g_X5_78 hb rfl dX5_rowCell_5 (q := 8) rfl ?_
  refine T.bipush (q := 10) (80) dX5_rowCell_8 rfl (by decide) ?_
  refine T.iadd (q := 11) dX5_rowCell_10 rfl ?_
  refine T.iconst (q := 12) (1) dX5_rowCell_11 rfl (by decide) ?_
  refine T.isub (q := 13) dX5_rowCell_12 rfl ?_
  refine T.ild_1 (q := 14) dX5_rowCell_13 rfl ?_
  refine T.isub (q := 15) dX5_rowCell_14 rfl ?_
  refine T.bipush (q := 17) (80) dX5_rowCell_15 rfl (by decide) ?_
  rw [hn, show nI nr + 80 - 1 - nI a = nI (nr + 79 - a) from (by simp (disch := omega) only [sk_lit, nI_add, pk_mul, pk_div, pk_sub, sk_mod, nI_clamp, nI_1]; try (congr 1 <;> omega))]
  refine T.irem (q := 18) dX5_rowCell_17 rfl (by decide) ?_
  refine T.bipush (q := 20) (6) dX5_rowCell_18 rfl (by decide) ?_
  refine T.imul (q := 21) dX5_rowCell_20 rfl ?_
  refine T.ild_2 (q := 22) dX5_rowCell_21 rfl ?_
  refine T.iadd (q := 23) dX5_rowCell_22 rfl ?_
  refine T.iald (sk_a8 hb).1 (sk_a8 hb).2.1 (sk_a8 hb).2.2 dX5_rowCell_23 (q := 24) rfl (vin (n := (nr + 79 - a) % 80 * 6 + k) (by simp (disch := omega) only [sk_lit, nI_add, pk_mul, pk_div, pk_sub, sk_mod, nI_clamp, nI_1]; try (congr 1 <;> omega)) (by omega) (by decide)) ?_
  exact T.retI rfl dX5_rowCell_24 (by decide) (by decide) ⟨by simp (disch := omega) only [sk_lit, nI_add, pk_mul, pk_div, pk_sub, sk_mod, nI_clamp, nI_1], rfl⟩
