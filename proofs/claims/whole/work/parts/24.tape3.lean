/-! Tape: what stands there, and going on -/
theorem c_isWrong {G : sk_G} {d : Nat} {M : sk_M}   : Ctr G mX6_isWrong d 0 0 [.ref (G.2.2.1 121)] M (rI fun r M' => r = bI (¬ M.1 121 5 = -1) ∧ M' = M) noX := by
  refine Ctr.of 0 (by decide) (Nat.le_of_ble_eq_true rfl) ?_
  refine T.ald_0 (q := 1) dX6_isWrong_0 rfl ?_
  refine g_X6_15 rfl dX6_isWrong_1 (q := 4) rfl ?_
  refine T.iconst (q := 5) (-1) dX6_isWrong_4 rfl (by decide) ?_
  refine T.ic_eq (tgt := 12) (q := 8) dX6_isWrong_5 (by decide) rfl (fun h5 => ?_) (fun h5 => ?_)
  · refine T.iconst (q := 13) (0) dX6_isWrong_12 rfl (by decide) ?_
    exact T.retZ rfl dX6_isWrong_13 (by decide) (by decide) rfl ⟨by first | exact (bI_t (p := ¬ M.1 121 5 = -1) h5).symm | exact (bI_f (p := ¬ M.1 121 5 = -1) (fun q => q h5)).symm, rfl⟩
  · refine T.iconst (q := 9) (1) dX6_isWrong_8 rfl (by decide) ?_
    refine T.goto (tgt := 13) dX6_isWrong_9 (by decide) ?_
    exact T.retZ rfl dX6_isWrong_13 (by decide) (by decide) rfl ⟨by first | exact (bI_t (p := ¬ M.1 121 5 = -1) h5).symm | exact (bI_f (p := ¬ M.1 121 5 = -1) (fun q => q h5)).symm, rfl⟩
theorem c_refuse {G : sk_G} {d : Nat} {M : sk_M}   : Ctr G mX6_refuse d 0 0 [.ref (G.2.2.1 121)] M (rI fun r M' => r = 0 ∧ M' = rfM M) noX := by
  refine Ctr.of 0 (by decide) (Nat.le_of_ble_eq_true rfl) ?_
  refine T.ald_0 (q := 1) dX6_refuse_0 rfl ?_
  refine g_X6_15 rfl dX6_refuse_1 (q := 4) rfl ?_
  refine T.iconst (q := 5) (-1) dX6_refuse_4 rfl (by decide) ?_
  refine T.ic_ne (tgt := 16) (q := 8) dX6_refuse_5 (by decide) rfl (fun h5 => ?_) (fun h5 => ?_)
  · refine T.iconst (q := 17) (0) dX6_refuse_16 rfl (by decide) ?_
    exact T.retZ rfl dX6_refuse_17 (by decide) (by decide) rfl ⟨rfl, by unfold rfM; first | rw [if_neg h5] | rw [if_pos h5]⟩
  · refine T.ald_0 (q := 9) dX6_refuse_8 rfl ?_
    refine T.ald_0 (q := 10) dX6_refuse_9 rfl ?_
    refine g_X6_28 rfl dX6_refuse_10 (q := 13) rfl ?_
    refine p_X6_15 rfl dX6_refuse_13 (q := 16) rfl ?_
    refine T.iconst (q := 17) (0) dX6_refuse_16 rfl (by decide) ?_
    exact T.retZ rfl dX6_refuse_17 (by decide) (by decide) rfl ⟨rfl, by unfold rfM; first | rw [if_neg h5] | rw [if_pos h5]⟩
theorem c_hasRoom {G : sk_G} {d : Nat} {M : sk_M} {n k : Nat} (hn : M.1 121 1 = nI n) (hn4 : n ≤ 400) (hk : k ≤ 400) : Ctr G mX6_hasRoom d 0 0 [.ref (G.2.2.1 121), .int (nI k)] M (rI fun r M' => r = bI (n + k ≤ 400) ∧ M' = M) noX := by
  refine Ctr.of 0 (by decide) (Nat.le_of_ble_eq_true rfl) ?_
  refine T.ald_0 (q := 1) dX6_hasRoom_0 rfl ?_
  refine g_X6_19 rfl dX6_hasRoom_1 (q := 4) rfl ?_
  refine T.ild_1 (q := 5) dX6_hasRoom_4 rfl ?_
  refine T.iadd (q := 6) dX6_hasRoom_5 rfl ?_
  refine T.sipush (q := 9) (400) dX6_hasRoom_6 rfl (by decide) ?_
  rw [hn, nI_add, sk_lit 400]
  refine T.ic_gt (tgt := 16) (q := 12) dX6_hasRoom_9 (by decide) rfl (fun h9 => ?_) (fun h9 => ?_)
  · refine T.iconst (q := 17) (0) dX6_hasRoom_16 rfl (by decide) ?_
    exact T.retZ rfl dX6_hasRoom_17 (by decide) (by decide) rfl ⟨by first | exact (bI_t (p := n + k ≤ 400) (Nat.not_lt.mp (fun q => h9 ((nI_ltI (by omega) (by omega)).mpr q)))).symm | exact (bI_f (p := n + k ≤ 400) (Nat.not_le.mpr ((nI_ltI (by omega) (by omega)).mp h9))).symm, rfl⟩
  · refine T.iconst (q := 13) (1) dX6_hasRoom_12 rfl (by decide) ?_
    refine T.goto (tgt := 17) dX6_hasRoom_13 (by decide) ?_
    exact T.retZ rfl dX6_hasRoom_17 (by decide) (by decide) rfl ⟨by first | exact (bI_t (p := n + k ≤ 400) (Nat.not_lt.mp (fun q => h9 ((nI_ltI (by omega) (by omega)).mpr q)))).symm | exact (bI_f (p := n + k ≤ 400) (Nat.not_le.mpr ((nI_ltI (by omega) (by omega)).mp h9))).symm, rfl⟩
theorem c_isSign {G : sk_G} {d : Nat} {M : sk_M} {y : Nat → Nat} {n i c : Nat} (hS : TS M y n i) (hc : c < 1000) : Ctr G mX6_isSign d 0 0 [.ref (G.2.2.1 121), .int (nI c)] M (rI fun r M' => r = bI (tkK y n i = 3 ∧ y (tkA y n i) = c) ∧ M' = M) noX := by
  refine Ctr.of 0 (by decide) (Nat.le_of_ble_eq_true rfl) ?_
  obtain ⟨⟨t1, t2, t3⟩, hin, k1, k2, k3⟩ := hS
  have hle := tk_le (y := y) hin
  have hK := tk_K y n i
  have e3 : nI (tkK y n i) = 3 ↔ tkK y n i = 3 := nI_eq (b := 3) (by omega) (by decide)
  refine T.ald_0 (q := 1) dX6_isSign_0 rfl ?_
  refine g_X6_31 rfl dX6_isSign_1 (q := 4) rfl ?_
  rw [k2]
  refine T.iconst (q := 5) (3) dX6_isSign_4 rfl (by decide) ?_
  refine T.ic_ne (tgt := 25) (q := 8) dX6_isSign_5 (by decide) rfl (fun h5 => ?_) (fun h5 => ?_)
  · refine T.iconst (q := 26) (0) dX6_isSign_25 rfl (by decide) ?_
    exact T.retZ rfl dX6_isSign_26 (by decide) (by decide) rfl ⟨by first | exact (bI_t (p := tkK y n i = 3 ∧ y (tkA y n i) = c) ⟨e3.mp h5, hb.1.mp h18⟩).symm | exact (bI_f (p := tkK y n i = 3 ∧ y (tkA y n i) = c) (fun q => h5 (e3.mpr q.1))).symm | exact (bI_f (p := tkK y n i = 3 ∧ y (tkA y n i) = c) (fun q => h18 (hb.1.mpr q.2))).symm, rfl⟩
  · have han : tkA y n i < n := by have := e3.mp h5; have := hle.2.2.2.1; omega
    have hb := nb (t3 _ han).2 c hc
    refine T.ald_0 (q := 9) dX6_isSign_8 rfl ?_
    refine g_X6_11 rfl dX6_isSign_9 (q := 12) rfl ?_
    refine T.ald_0 (q := 13) dX6_isSign_12 rfl ?_
    refine g_X6_28 rfl dX6_isSign_13 (q := 16) rfl ?_
    rw [k1]
    refine T.iald (n := 400) rfl rfl (by decide) dX6_isSign_16 (q := 17) rfl (vp_in_nI (by omega) (by decide)) ?_
    rw [nI_clamp (by omega), (t3 _ han).1]
    refine T.ild_1 (q := 18) dX6_isSign_17 rfl ?_
    refine T.ic_ne (tgt := 25) (q := 21) dX6_isSign_18 (by decide) rfl (fun h18 => ?_) (fun h18 => ?_)
    · refine T.iconst (q := 26) (0) dX6_isSign_25 rfl (by decide) ?_
      exact T.retZ rfl dX6_isSign_26 (by decide) (by decide) rfl ⟨by first | exact (bI_t (p := tkK y n i = 3 ∧ y (tkA y n i) = c) ⟨e3.mp h5, hb.1.mp h18⟩).symm | exact (bI_f (p := tkK y n i = 3 ∧ y (tkA y n i) = c) (fun q => h5 (e3.mpr q.1))).symm | exact (bI_f (p := tkK y n i = 3 ∧ y (tkA y n i) = c) (fun q => h18 (hb.1.mpr q.2))).symm, rfl⟩
    · refine T.iconst (q := 22) (1) dX6_isSign_21 rfl (by decide) ?_
      refine T.goto (tgt := 26) dX6_isSign_22 (by decide) ?_
      exact T.retZ rfl dX6_isSign_26 (by decide) (by decide) rfl ⟨by first | exact (bI_t (p := tkK y n i = 3 ∧ y (tkA y n i) = c) ⟨e3.mp h5, hb.1.mp h18⟩).symm | exact (bI_f (p := tkK y n i = 3 ∧ y (tkA y n i) = c) (fun q => h5 (e3.mpr q.1))).symm | exact (bI_f (p := tkK y n i = 3 ∧ y (tkA y n i) = c) (fun q => h18 (hb.1.mpr q.2))).symm, rfl⟩
theorem l_is {G : sk_G} {d : Nat} {M : sk_M} {y : Nat → Nat} {n i j : Nat} (hd : 3 < d) (hj : j < sk_SN) (hS : TS M y n i) (h1 : tkK y n i = 1) (h2 : tkE y n i - tkA y n i = wdL j) : ∀ m k : Nat, k + m = wdL j → (∀ q, q < k → y (tkA y n i + q) = wdN j q) → TJ G mX6_is (sk_R d 0 0) (sk_K G 0 0 (rI fun r M' => r = bI (isWd y n i j) ∧ M' = M) noX) 0 0 28 [some (.ref (G.2.2.1 121)), some (.ref (G.2.2.2.2.1 j)), some (.int (nI k))] [] M := by
  obtain ⟨⟨t1, t2, t3⟩, hin, k1, k2, k3⟩ := hS
  have hle := tk_le (y := y) hin
  have hw := wdL_lt j hj
  intro m
  induction m with
  | zero =>
    intro k hk hq
    obtain rfl : k = wdL j := by omega
    refine T.ild_2 (q := 29) dX6_is_28 rfl ?_
    refine T.ald_1 (q := 30) dX6_is_29 rfl ?_
    refine T.cVs (As := []) w_X6_34 cw_J0_length_8abf5 np_J0_length_8abf5 rfl (by decide) rfl hj dX6_is_30 (q := 33) rfl (by omega) (Nat.le_refl 0) (Nat.le_refl 0) (Nat.le_of_ble_eq_true rfl) (c_strLen (d := 1) (by decide) hj) ?_
    rintro r M9 ⟨rfl, hM9⟩
    obtain rfl := hM9.symm
    refine T.ic_ge (tgt := 63) (q := 36) dX6_is_33 (by decide) rfl (fun h33 => ?_) (fun h33 => absurd (nI_le (Nat.le_refl _) (by omega)) h33)
    refine T.iconst (q := 64) (1) dX6_is_63 rfl (by decide) ?_
    exact T.retZ rfl dX6_is_64 (by decide) (by decide) rfl ⟨(bI_t (p := isWd y n i j) ⟨h1, h2, hq⟩).symm, rfl⟩
  | succ m ih =>
    intro k hk hq
    have hkn : tkA y n i + k < n := by omega
    have hc := ch_ok j hj k (by omega)
    have hb := nb (t3 _ hkn).2 (wdN j k) (by omega)
    refine T.ild_2 (q := 29) dX6_is_28 rfl ?_
    refine T.ald_1 (q := 30) dX6_is_29 rfl ?_
    refine T.cVs (As := []) w_X6_34 cw_J0_length_8abf5 np_J0_length_8abf5 rfl (by decide) rfl hj dX6_is_30 (q := 33) rfl (by omega) (Nat.le_refl 0) (Nat.le_refl 0) (Nat.le_of_ble_eq_true rfl) (c_strLen (d := 1) (by decide) hj) ?_
    rintro r M9 ⟨rfl, hM9⟩
    obtain rfl := hM9.symm
    refine T.ic_ge (tgt := 63) (q := 36) dX6_is_33 (by decide) rfl (fun h33 => absurd h33 (nI_ge (by omega) (by omega))) (fun h33 => ?_)
    refine T.ald_0 (q := 37) dX6_is_36 rfl ?_
    refine g_X6_11 rfl dX6_is_37 (q := 40) rfl ?_
    refine T.ald_0 (q := 41) dX6_is_40 rfl ?_
    refine g_X6_28 rfl dX6_is_41 (q := 44) rfl ?_
    refine T.ild_2 (q := 45) dX6_is_44 rfl ?_
    refine T.iadd (q := 46) dX6_is_45 rfl ?_
    rw [k1, nI_add]
    refine T.iald (n := 400) rfl rfl (by decide) dX6_is_46 (q := 47) rfl (vp_in_nI (by omega) (by decide)) ?_
    rw [nI_clamp (by omega), (t3 _ hkn).1]
    refine T.ald_1 (q := 48) dX6_is_47 rfl ?_
    refine T.ild_2 (q := 49) dX6_is_48 rfl ?_
    refine T.cVs (As := [.int (nI k)]) w_X6_39 cw_J0_charAt_5068e np_J0_charAt_5068e rfl (by decide) rfl hj dX6_is_49 (q := 52) rfl (by omega) (Nat.le_refl 0) (Nat.le_refl 0) (Nat.le_of_ble_eq_true rfl) (c_charAt (d := 3) (by decide) hj (by omega)) ?_
    rintro r M9 ⟨rfl, hM9⟩
    obtain rfl := hM9.symm
    refine T.ic_eq (tgt := 57) (q := 55) dX6_is_52 (by decide) rfl (fun h52 => ?_) (fun h52 => ?_)
    · refine T.inc_2 (q := 60) (1) dX6_is_57 rfl (by decide) (by decide) (by first | exact sk_ok_i | exact sk_ok_r | exact sk_ok_n) ?_
      refine T.goto (tgt := 28) dX6_is_60 (by decide) ?_
      rw [nI_1]
      refine ih (k + 1) (by omega) (fun q h => ?_)
      rcases Nat.lt_succ_iff_lt_or_eq.mp h with z | z
      · exact hq q z
      · rw [z]; exact hb.1.mp h52
    · refine T.iconst (q := 56) (0) dX6_is_55 rfl (by decide) ?_
      exact T.retZ rfl dX6_is_56 (by decide) (by decide) rfl ⟨(bI_f (p := isWd y n i j) (fun z => h52 (hb.1.mpr (z.2.2 k (by omega))))).symm, rfl⟩
theorem c_is {G : sk_G} {d : Nat} {M : sk_M} {y : Nat → Nat} {n i j : Nat} (hd : 3 < d) (hj : j < sk_SN) (hS : TS M y n i) : Ctr G mX6_is d 0 0 [.ref (G.2.2.1 121), .ref (G.2.2.2.2.1 j)] M (rI fun r M' => r = bI (isWd y n i j) ∧ M' = M) noX := by
  refine Ctr.of 1 (by decide) (Nat.le_of_ble_eq_true rfl) ?_
  have hS2 := hS
  obtain ⟨⟨t1, t2, t3⟩, hin, k1, k2, k3⟩ := hS
  have hle := tk_le (y := y) hin
  have hK := tk_K y n i
  have hw := wdL_lt j hj
  have e1 : nI (tkK y n i) = 1 ↔ tkK y n i = 1 := nI_eq (b := 1) (by omega) (by decide)
  have e2 : nI (tkE y n i - tkA y n i) = nI (wdL j) ↔ tkE y n i - tkA y n i = wdL j := nI_eq (by omega) (by omega)
  refine T.ald_0 (q := 1) dX6_is_0 rfl ?_
  refine g_X6_31 rfl dX6_is_1 (q := 4) rfl ?_
  rw [k2]
  refine T.iconst (q := 5) (1) dX6_is_4 rfl (by decide) ?_
  refine T.ic_ne (tgt := 24) (q := 8) dX6_is_5 (by decide) rfl (fun h5 => ?_) (fun h5 => ?_)
  · refine T.iconst (q := 25) (0) dX6_is_24 rfl (by decide) ?_
    exact T.retZ rfl dX6_is_25 (by decide) (by decide) rfl ⟨(bI_f (p := isWd y n i j) (fun z => h5 (e1.mpr z.1))).symm, rfl⟩
  · refine T.ald_0 (q := 9) dX6_is_8 rfl ?_
    refine g_X6_22 rfl dX6_is_9 (q := 12) rfl ?_
    refine T.ald_0 (q := 13) dX6_is_12 rfl ?_
    refine g_X6_28 rfl dX6_is_13 (q := 16) rfl ?_
    refine T.isub (q := 17) dX6_is_16 rfl ?_
    rw [k1, k3, pk_sub hle.2.1]
    refine T.ald_1 (q := 18) dX6_is_17 rfl ?_
    refine T.cVs (As := []) w_X6_34 cw_J0_length_8abf5 np_J0_length_8abf5 rfl (by decide) rfl hj dX6_is_18 (q := 21) rfl (by omega) (Nat.le_refl 0) (Nat.le_refl 0) (Nat.le_of_ble_eq_true rfl) (c_strLen (d := 1) (by decide) hj) ?_
    rintro r M9 ⟨rfl, hM9⟩
    obtain rfl := hM9.symm
    refine T.ic_eq (tgt := 26) (q := 24) dX6_is_21 (by decide) rfl (fun h21 => ?_) (fun h21 => ?_)
    · refine T.iconst (q := 27) (0) dX6_is_26 rfl (by decide) ?_
      refine T.ist_2 (q := 28) dX6_is_27 rfl (by decide) (by first | exact sk_ok_i | exact sk_ok_r | exact sk_ok_n) ?_
      exact l_is hd hj hS2 (e1.mp h5) (e2.mp h21) (wdL j) 0 (Nat.zero_add _) (fun q h => absurd h (Nat.not_lt_zero q))
    · refine T.iconst (q := 25) (0) dX6_is_24 rfl (by decide) ?_
      exact T.retZ rfl dX6_is_25 (by decide) (by decide) rfl ⟨(bI_f (p := isWd y n i j) (fun z => h21 (e2.mpr z.2.1))).symm, rfl⟩
theorem c_pass {G : sk_G} {d : Nat} {M : sk_M} {y : Nat → Nat} {n i j : Nat} (hd : 4 < d) (hj : j < sk_SN) (hS : TS M y n i) : Ctr G mX6_pass d 0 0 [.ref (G.2.2.1 121), .ref (G.2.2.2.2.1 j)] M (rI fun r M' => r = bI (isWd y n i j) ∧ ((isWd y n i j) → stpI M M' y n (tkE y n i)) ∧ (¬ (isWd y n i j) → M' = rfM M)) noX := by
  refine Ctr.of 0 (by decide) (Nat.le_of_ble_eq_true rfl) ?_
  have hS2 := hS
  obtain ⟨hTp, hin, k1, k2, k3⟩ := hS
  have hle := tk_le (y := y) hin
  refine T.ald_0 (q := 1) dX6_pass_0 rfl ?_
  refine T.ald_1 (q := 2) dX6_pass_1 rfl ?_
  refine k_X6_43 rfl dX6_pass_2 (q := 5) rfl (by omega) (by decide) (by decide) (Nat.le_of_ble_eq_true rfl) (c_is (d := 4) (by decide) hj hS2) ?_
  rintro r M9 ⟨rfl, hM9⟩
  obtain rfl := hM9.symm
  refine T.if_ne (tgt := 13) (q := 8) dX6_pass_5 (by decide) rfl (fun h5 => ?_) (fun h5 => ?_)
  · refine T.ald_0 (q := 14) dX6_pass_13 rfl ?_
    refine k_X6_25 rfl dX6_pass_14 (q := 17) rfl (by omega) (by decide) (by decide) (Nat.le_of_ble_eq_true rfl) (c_step (d := 0) hTp k3 hle.2.2.1) ?_
    rintro M9 hM9
    refine T.iconst (q := 18) (1) dX6_pass_17 rfl (by decide) ?_
    exact T.retZ rfl dX6_pass_18 (by decide) (by decide) rfl ⟨(bI_t (p := isWd y n i j) (bI_n.mp h5)).symm, fun _ => hM9, fun q => absurd (bI_n.mp h5) q⟩
  · refine T.ald_0 (q := 9) dX6_pass_8 rfl ?_
    refine k_X6_47 rfl dX6_pass_9 (q := 12) rfl (by omega) (by decide) (by decide) (Nat.le_of_ble_eq_true rfl) (c_refuse (d := 0)) ?_
    rintro r M9 ⟨rfl, rfl⟩
    exact T.retZ rfl dX6_pass_12 (by decide) (by decide) rfl ⟨(bI_f (p := isWd y n i j) (bI_z.mp h5)).symm, fun q => absurd q (bI_z.mp h5), fun _ => rfl⟩
theorem c_passSign {G : sk_G} {d : Nat} {M : sk_M} {y : Nat → Nat} {n i c : Nat} (hd : 0 < d) (hc : c < 1000) (hS : TS M y n i) : Ctr G mX6_passSign d 0 0 [.ref (G.2.2.1 121), .int (nI c)] M (rI fun r M' => r = bI (tkK y n i = 3 ∧ y (tkA y n i) = c) ∧ ((tkK y n i = 3 ∧ y (tkA y n i) = c) → stpI M M' y n (tkE y n i)) ∧ (¬ (tkK y n i = 3 ∧ y (tkA y n i) = c) → M' = rfM M)) noX := by
  refine Ctr.of 0 (by decide) (Nat.le_of_ble_eq_true rfl) ?_
  have hS2 := hS
  obtain ⟨hTp, hin, k1, k2, k3⟩ := hS
  have hle := tk_le (y := y) hin
  refine T.ald_0 (q := 1) dX6_passSign_0 rfl ?_
  refine T.ild_1 (q := 2) dX6_passSign_1 rfl ?_
  refine k_X6_51 rfl dX6_passSign_2 (q := 5) rfl (by omega) (by decide) (by decide) (Nat.le_of_ble_eq_true rfl) (c_isSign (d := 0) hS2 hc) ?_
  rintro r M9 ⟨rfl, hM9⟩
  obtain rfl := hM9.symm
  refine T.if_ne (tgt := 13) (q := 8) dX6_passSign_5 (by decide) rfl (fun h5 => ?_) (fun h5 => ?_)
  · refine T.ald_0 (q := 14) dX6_passSign_13 rfl ?_
    refine k_X6_25 rfl dX6_passSign_14 (q := 17) rfl (by omega) (by decide) (by decide) (Nat.le_of_ble_eq_true rfl) (c_step (d := 0) hTp k3 hle.2.2.1) ?_
    rintro M9 hM9
    refine T.iconst (q := 18) (1) dX6_passSign_17 rfl (by decide) ?_
    exact T.retZ rfl dX6_passSign_18 (by decide) (by decide) rfl ⟨(bI_t (p := tkK y n i = 3 ∧ y (tkA y n i) = c) (bI_n.mp h5)).symm, fun _ => hM9, fun q => absurd (bI_n.mp h5) q⟩
  · refine T.ald_0 (q := 9) dX6_passSign_8 rfl ?_
    refine k_X6_47 rfl dX6_passSign_9 (q := 12) rfl (by omega) (by decide) (by decide) (Nat.le_of_ble_eq_true rfl) (c_refuse (d := 0)) ?_
    rintro r M9 ⟨rfl, rfl⟩
    exact T.retZ rfl dX6_passSign_12 (by decide) (by decide) rfl ⟨(bI_f (p := tkK y n i = 3 ∧ y (tkA y n i) = c) (bI_z.mp h5)).symm, fun q => absurd q (bI_z.mp h5), fun _ => rfl⟩
theorem c_rewind {G : sk_G} {d : Nat} {M : sk_M} {y : Nat → Nat} {n : Nat} (hd : 0 < d) (hT : TP M y n) : Ctr G mX6_rewind d 0 0 [.ref (G.2.2.1 121)] M (rV fun M' => stpI (sk_si (sk_si M 121 5 (-1)) 121 4 0) M' y n 0) noX := by
  refine Ctr.of 0 (by decide) (Nat.le_of_ble_eq_true rfl) ?_
  refine T.ald_0 (q := 1) dX6_rewind_0 rfl ?_
  refine T.iconst (q := 2) (-1) dX6_rewind_1 rfl (by decide) ?_
  refine p_X6_15 rfl dX6_rewind_2 (q := 5) rfl ?_
  refine T.ald_0 (q := 6) dX6_rewind_5 rfl ?_
  refine T.iconst (q := 7) (0) dX6_rewind_6 rfl (by decide) ?_
  refine p_X6_22 rfl dX6_rewind_7 (q := 10) rfl ?_
  refine T.ald_0 (q := 11) dX6_rewind_10 rfl ?_
  refine k_X6_25 rfl dX6_rewind_11 (q := 14) rfl (by omega) (by decide) (by decide) (Nat.le_of_ble_eq_true rfl) (c_step (d := 0) (y := y) (n := n) (i := 0) ⟨by rw [sk_sif (by decide), sk_sif (by decide)]; exact hT.1, hT.2.1, fun j hj => by rw [sk_si_ne (by decide), sk_si_ne (by decide)]; exact hT.2.2 j hj⟩ sk_sie (Nat.zero_le n)) ?_
  rintro M9 hM9
  exact T.retV rfl dX6_rewind_14 (by decide) (by decide) hM9
