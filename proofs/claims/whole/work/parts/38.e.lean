/-! count -/
theorem bits_tb {n : Nat} : ∀ k, k ≤ 31 → bitsP (fun i => n.testBit i = true) k = nI (n % 2 ^ k)
  | 0, _ => by rw [Nat.pow_zero, Nat.mod_one]; rfl
  | k + 1, h => by
    have ih := bits_tb (n := n) k (by omega)
    by_cases q : n.testBit k = true
    · rw [← bitsP_t (P := fun i => n.testBit i = true) q, ih, set_N (by omega)]
      congr 1
      apply Nat.eq_of_testBit_eq
      intro i
      rw [set_tb, Nat.testBit_mod_two_pow, Nat.testBit_mod_two_pow]
      by_cases e : i = k
      · subst e; simp [q]
      · by_cases l : i < k
        · have : i < k + 1 := by omega
          simp [l, this, e]
        · have : ¬ i < k + 1 := by omega
          simp [l, this, e]
    · rw [← bitsP_f (P := fun i => n.testBit i = true) q, ih]
      congr 1
      apply Nat.eq_of_testBit_eq
      intro i
      rw [Nat.testBit_mod_two_pow, Nat.testBit_mod_two_pow]
      by_cases e : i = k
      · subst e; simp [q]
      · by_cases l : i < k
        · have : i < k + 1 := by omega
          simp [l, this]
        · have : ¬ i < k + 1 := by omega
          simp [l, this]
theorem s8_openedOnes {M : sk_M} {Q : Int32 → Prop} {nv : Nat} (e : M.1 141 0 = nI nv) (hn : nv ≤ 6) (h : Q (bitsP (fun v => M.1 141 (13 + 4 * v) = 1) nv)) : w_X8_openedOnes M Q := by
  unfold w_X8_openedOnes
  refine lp_to (fun i => (bitsP (fun v => M.1 141 (13 + 4 * v) = 1) i, nI i)) nv (by unfold sk_F; omega) (fun i hi c hc => ?_) (fun c => ?_)
  · unfold w_X8_openedOnes_L4 f_X8_vaults
    rw [e]
    refine i_t (nI_ge hi (by omega)) (s8_of (k := 3) (by omega) (by decide) ?_)
    rw [nI_1, show 10 + 4 * i + 3 = 13 + 4 * i by omega]
    refine i_b (fun q => sLet_i ?_) (fun q => sLet_i ?_)
    · rw [bitsP_t (P := fun v => M.1 141 (13 + 4 * v) = 1) q]
      exact hc
    · rw [or0I, bitsP_f (P := fun v => M.1 141 (13 + 4 * v) = 1) q]
      exact hc
  · unfold w_X8_openedOnes_L4 f_X8_vaults
    rw [e]
    exact i_f (nn (by omega)) h
theorem s8_guardedOnes {M : sk_M} {Q : Int32 → Prop} {nv dy : Nat} (e : M.1 141 0 = nI nv) (hn : nv ≤ 6) (ed : M.1 141 5 = nI dy) (hd : dy ≤ 9999) (h : Q (bitsP (fun v => (M.1 141 (11 + 4 * v) >>> (nI (dy % 7) &&& 31)) &&& 1 = 1) nv)) : w_X8_guardedOnes M Q := by
  unfold w_X8_guardedOnes
  refine lp_to (fun i => (bitsP (fun v => (M.1 141 (11 + 4 * v) >>> (nI (dy % 7) &&& 31)) &&& 1 = 1) i, nI i)) nv (by unfold sk_F; omega) (fun i hi c hc => ?_) (fun c => ?_)
  · unfold w_X8_guardedOnes_L4 f_X8_vaults
    rw [e, ed]
    refine i_t (nI_ge hi (by omega)) (s8_isGuarded (by omega) hd ?_)
    rw [nI_1]
    refine i_b (fun q => sLet_i ?_) (fun q => sLet_i ?_)
    · rw [bitsP_t (P := fun v => (M.1 141 (11 + 4 * v) >>> (nI (dy % 7) &&& 31)) &&& 1 = 1) (bI_n.mp q)]
      exact hc
    · rw [or0I, bitsP_f (P := fun v => (M.1 141 (11 + 4 * v) >>> (nI (dy % 7) &&& 31)) &&& 1 = 1) (fun z => q (bI_n.mpr z))]
      exact hc
  · unfold w_X8_guardedOnes_L4 f_X8_vaults
    rw [e]
    exact i_f (nn (by omega)) h
theorem s8_allWorth {M : sk_M} {Q : Int32 → Prop} {nv : Nat} (e : M.1 141 0 = nI nv) (hn : nv ≤ 6) (h : Q (sumI (fun v => M.1 141 (12 + 4 * v)) nv)) : w_X8_allWorth M Q := by
  unfold w_X8_allWorth
  refine lp_to (fun i => (sumI (fun v => M.1 141 (12 + 4 * v)) i, nI i)) nv (by unfold sk_F; omega) (fun i hi c hc => ?_) (fun c => ?_)
  · unfold w_X8_allWorth_L4 f_X8_vaults
    rw [e]
    refine i_t (nI_ge hi (by omega)) (s8_of (k := 2) (by omega) (by decide) (sLet_i ?_))
    rw [nI_1, show 10 + 4 * i + 2 = 12 + 4 * i by omega]
    exact hc
  · unfold w_X8_allWorth_L4 f_X8_vaults
    rw [e]
    exact i_f (nn (by omega)) h
theorem Rel.guard {F : Nat → Nat → Int32} {KF : Nat → Int64} {W : Nat → Int32} {K : Nat → Int64} {nv np nc tx dy ch lg nr op : Nat} (h : Rel F KF W K nv np nc tx dy ch lg nr op) {v : Nat} (hv : v < nv) : F 2 v = W (11 + 4 * v) := by
  obtain ⟨g, -, e1, e2⟩ := (h.2.2.2.2.1 v hv).2.1
  rw [e1, e2]
theorem ne_of_out {a : Int32} {n k : Nat} (h : ¬ vp_in a n) (hk : k < n) (hn : n < 2 ^ 31) : ¬ (a = nI k) := fun e => h (by rw [e]; exact vp_in_nI hk hn)
theorem st_count {M : sk_M} (h : Inv M) (a : Int32) : StN Inv (fun Q => w_X7_count a M (fun r => Q r M)) (w_X8_count a) := by
  unfold StN w_X7_count
  obtain ⟨nv, np, nc, tx, dy, ch, lg, nr, op, hR⟩ := h.1.1
  obtain ⟨hN, hF, hW, hS, hV, hC, hL, hK, hT⟩ := id hR
  have n1 := hN.1
  have n2 := hN.2.1
  have n5 := hN.2.2.2.2.1
  have n9 := hN.2.2.2.2.2.2.2.2
  have hI := h.scR (scR_th (M := M) (c := 0))
  by_cases ha : vp_in a 13
  · obtain ⟨j, hj, rfl⟩ := vp_in_of ha (by decide)
    have hc : j = 0 ∨ j = 1 ∨ j = 2 ∨ j = 3 ∨ j = 4 ∨ j = 5 ∨ j = 6 ∨ j = 7 ∨ j = 8 ∨ j = 9 ∨ j = 10 ∨ j = 11 ∨ j = 12 := by omega
    rcases hc with rfl | rfl | rfl | rfl | rfl | rfl | rfl | rfl | rfl | rfl | rfl | rfl | rfl
    · refine (i_t rfl ?_)
      unfold w_X8_count
      refine sLet_i ?_
      refine (i_f (by decide) (i_f (by decide) (i_f (by decide) (i_f (by decide) (i_f (by decide) (i_f (by decide) (i_f (by decide) (i_f (by decide) (i_f (by decide) ?_)))))))))
      refine i_t (by rw [inN_y 7 (by decide) (by decide) (vp_in_nI (n := 0) (by decide) (by decide))]; decide) ⟨vp_in_nI (by decide) (by decide), ?_, hI⟩
      rw [nI_clamp (by decide)]
      exact hF.1.trans hW.1.symm
    · refine (i_f (by decide) (i_t rfl ?_))
      unfold w_X8_count
      refine sLet_i ?_
      refine (i_f (by decide) (i_f (by decide) (i_f (by decide) (i_f (by decide) (i_f (by decide) (i_f (by decide) (i_f (by decide) (i_f (by decide) (i_f (by decide) ?_)))))))))
      refine i_t (by rw [inN_y 7 (by decide) (by decide) (vp_in_nI (n := 1) (by decide) (by decide))]; decide) ⟨vp_in_nI (by decide) (by decide), ?_, hI⟩
      rw [nI_clamp (by decide)]
      exact hF.2.1.trans hW.2.1.symm
    · refine (i_f (by decide) (i_f (by decide) (i_t rfl ?_)))
      unfold w_X8_count
      refine sLet_i ?_
      refine (i_f (by decide) (i_f (by decide) (i_f (by decide) (i_f (by decide) (i_f (by decide) (i_f (by decide) (i_f (by decide) (i_f (by decide) (i_f (by decide) ?_)))))))))
      refine i_t (by rw [inN_y 7 (by decide) (by decide) (vp_in_nI (n := 2) (by decide) (by decide))]; decide) ⟨vp_in_nI (by decide) (by decide), ?_, hI⟩
      rw [nI_clamp (by decide)]
      exact hF.2.2.1.trans hW.2.2.1.symm
    · refine (i_f (by decide) (i_f (by decide) (i_f (by decide) (i_t rfl ?_))))
      unfold w_X8_count
      refine sLet_i ?_
      refine (i_f (by decide) (i_f (by decide) (i_f (by decide) (i_f (by decide) (i_f (by decide) (i_f (by decide) (i_f (by decide) (i_f (by decide) (i_f (by decide) ?_)))))))))
      refine i_t (by rw [inN_y 7 (by decide) (by decide) (vp_in_nI (n := 3) (by decide) (by decide))]; decide) ⟨vp_in_nI (by decide) (by decide), ?_, hI⟩
      rw [nI_clamp (by decide)]
      exact hF.2.2.2.1.trans hW.2.2.2.1.symm
    · refine (i_f (by decide) (i_f (by decide) (i_f (by decide) (i_f (by decide) (i_t rfl ?_)))))
      unfold w_X8_count
      refine sLet_i ?_
      refine (i_t rfl ?_)
      rcases h.1.2.2.2 with ⟨q1, q2⟩ | ⟨q1, q2⟩
      · refine i_f ?_ ⟨q2, hI⟩
        show ¬ (M.1 141 4 = 1)
        rw [q1]
        decide
      · exact i_t q1 ⟨q2, hI⟩
    · refine (i_f (by decide) (i_f (by decide) (i_f (by decide) (i_f (by decide) (i_f (by decide) (i_t rfl ?_))))))
      unfold w_X8_count
      refine sLet_i ?_
      refine (i_f (by decide) (i_t rfl ?_))
      refine i_t (by rw [inN_y 7 (by decide) (by decide) (vp_in_nI (n := 5) (by decide) (by decide))]; decide) ⟨vp_in_nI (by decide) (by decide), ?_, hI⟩
      rw [nI_clamp (by decide)]
      exact hF.2.2.2.2.1.trans hW.2.2.2.2.1.symm
    · refine (i_f (by decide) (i_f (by decide) (i_f (by decide) (i_f (by decide) (i_f (by decide) (i_f (by decide) (i_t rfl ?_)))))))
      unfold w_X8_count
      refine sLet_i ?_
      refine (i_f (by decide) (i_f (by decide) (i_t rfl ?_)))
      refine i_t (by rw [inN_y 7 (by decide) (by decide) (vp_in_nI (n := 6) (by decide) (by decide))]; decide) ⟨vp_in_nI (by decide) (by decide), ?_, hI⟩
      rw [nI_clamp (by decide)]
      exact hF.2.2.2.2.2.1.trans hW.2.2.2.2.2.1.symm
    · refine (i_f (by decide) (i_f (by decide) (i_f (by decide) (i_f (by decide) (i_f (by decide) (i_f (by decide) (i_f (by decide) (i_t rfl ?_))))))))
      unfold w_X8_count
      refine sLet_i ?_
      refine (i_f (by decide) (i_f (by decide) (i_f (by decide) (i_t rfl ?_))))
      refine s8_openedOnes (nv := nv) hW.1 n1 ⟨?_, hI⟩
      rw [hF.2.2.2.2.2.2.2.2, ← Nat.mod_eq_of_lt n9, ← bits_tb (n := op) nv (by omega)]
      refine bitsP_cg nv (fun v hv => ?_)
      show _ ↔ M.1 141 (13 + 4 * v) = 1
      rw [(hV v hv).2.2.2, bI_1]
    · refine (i_f (by decide) (i_f (by decide) (i_f (by decide) (i_f (by decide) (i_f (by decide) (i_f (by decide) (i_f (by decide) (i_f (by decide) (i_t rfl ?_)))))))))
      unfold w_X5_guardedToday
      rw [hF.1, hF.2.2.2.2.1]
      refine ⟨vp_in_nI (by omega) (by decide), vp_in_nI (by omega) (by decide), ?_⟩
      rw [nI_clamp (by omega), nI_clamp (by omega)]
      unfold w_X8_count
      refine sLet_i ?_
      refine (i_f (by decide) (i_f (by decide) (i_f (by decide) (i_f (by decide) (i_t rfl ?_)))))
      refine s8_guardedOnes (nv := nv) (dy := dy) hW.1 n1 hW.2.2.2.2.1 n5 ⟨bitsP_cg nv (fun v hv => ?_), hI⟩
      show (M.1 (0 + 2) v >>> _) &&& 1 = 1 ↔ (M.1 141 (11 + 4 * v) >>> _) &&& 1 = 1
      rw [Nat.zero_add, hR.guard hv]
    · refine (i_f (by decide) (i_f (by decide) (i_f (by decide) (i_f (by decide) (i_f (by decide) (i_f (by decide) (i_f (by decide) (i_f (by decide) (i_f (by decide) (i_t rfl ?_))))))))))
      unfold w_X8_count
      refine sLet_i ?_
      refine (i_f (by decide) (i_f (by decide) (i_f (by decide) (i_f (by decide) (i_f (by decide) (i_t rfl ?_))))))
      exact ⟨hF.2.2.2.2.2.2.1.trans hW.2.2.2.2.2.2.symm, hI⟩
    · refine (i_f (by decide) (i_f (by decide) (i_f (by decide) (i_f (by decide) (i_f (by decide) (i_f (by decide) (i_f (by decide) (i_f (by decide) (i_f (by decide) (i_f (by decide) (i_t rfl ?_)))))))))))
      unfold w_X8_count
      refine sLet_i ?_
      refine (i_f (by decide) (i_f (by decide) (i_f (by decide) (i_f (by decide) (i_f (by decide) (i_f (by decide) (i_t rfl ?_)))))))
      exact ⟨hS.2, hI⟩
    · refine (i_f (by decide) (i_f (by decide) (i_f (by decide) (i_f (by decide) (i_f (by decide) (i_f (by decide) (i_f (by decide) (i_f (by decide) (i_f (by decide) (i_f (by decide) (i_f (by decide) (i_t rfl ?_))))))))))))
      unfold w_X5_worthOfAll
      rw [hF.1]
      refine ⟨vp_in_nI (by omega) (by decide), ?_⟩
      rw [nI_clamp (by omega)]
      unfold w_X8_count
      refine sLet_i ?_
      refine (i_f (by decide) (i_f (by decide) (i_f (by decide) (i_f (by decide) (i_f (by decide) (i_f (by decide) (i_f (by decide) (i_t rfl ?_))))))))
      refine s8_allWorth (nv := nv) hW.1 n1 ⟨sumI_cg nv (fun v hv => ?_), hI⟩
      obtain ⟨x, -, q1, q2⟩ := (hV v hv).2.2.1
      show M.1 (0 + 3) v = M.1 141 (12 + 4 * v)
      rw [Nat.zero_add, q1, q2]
    · refine (i_f (by decide) (i_f (by decide) (i_f (by decide) (i_f (by decide) (i_f (by decide) (i_f (by decide) (i_f (by decide) (i_f (by decide) (i_f (by decide) (i_f (by decide) (i_f (by decide) (i_f (by decide) (i_t rfl ?_)))))))))))))
      unfold w_X8_count
      refine sLet_i ?_
      refine (i_f (by decide) (i_f (by decide) (i_f (by decide) (i_f (by decide) (i_f (by decide) (i_f (by decide) (i_f (by decide) (i_f (by decide) (i_t rfl ?_)))))))))
      obtain ⟨sz, ns, -, -, q1, -, q2⟩ := h.2.2.2.1.get
      exact ⟨q1.trans q2.symm, hI⟩
  · refine (i_f (ne_of_out (k := 0) ha (by decide) (by decide)) (i_f (ne_of_out (k := 1) ha (by decide) (by decide)) (i_f (ne_of_out (k := 2) ha (by decide) (by decide)) (i_f (ne_of_out (k := 3) ha (by decide) (by decide)) (i_f (ne_of_out (k := 4) ha (by decide) (by decide)) (i_f (ne_of_out (k := 5) ha (by decide) (by decide)) (i_f (ne_of_out (k := 6) ha (by decide) (by decide)) (i_f (ne_of_out (k := 7) ha (by decide) (by decide)) (i_f (ne_of_out (k := 8) ha (by decide) (by decide)) (i_f (ne_of_out (k := 9) ha (by decide) (by decide)) (i_f (ne_of_out (k := 10) ha (by decide) (by decide)) (i_f (ne_of_out (k := 11) ha (by decide) (by decide)) (i_f (ne_of_out (k := 12) ha (by decide) (by decide)) ?_)))))))))))))
    unfold w_X8_count
    refine sLet_i ?_
    refine (i_f (ne_of_out (k := 4) ha (by decide) (by decide)) (i_f (ne_of_out (k := 5) ha (by decide) (by decide)) (i_f (ne_of_out (k := 6) ha (by decide) (by decide)) (i_f (ne_of_out (k := 7) ha (by decide) (by decide)) (i_f (ne_of_out (k := 8) ha (by decide) (by decide)) (i_f (ne_of_out (k := 9) ha (by decide) (by decide)) (i_f (ne_of_out (k := 10) ha (by decide) (by decide)) (i_f (ne_of_out (k := 11) ha (by decide) (by decide)) (i_f (ne_of_out (k := 12) ha (by decide) (by decide)) ?_)))))))))
    refine i_f ?_ ⟨rfl, hI⟩
    rw [inN_n 7 (by decide) (by decide) (fun q => ha ?_)]
    · decide
    · obtain ⟨k, hk, e⟩ := vp_in_of q (by decide)
      rw [e]
      exact vp_in_nI (by omega) (by decide)
