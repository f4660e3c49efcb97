/-! the reference's numbers and codes -/
theorem dig_N {y : Nat → Nat} {j : Nat} (h : isDi y j) : sgn8 (y j) = nI (y j) := by
  unfold isDi at h
  exact sgn_lo _ (by omega)
theorem r8_number {M : sk_M} {Q : Int32 → sk_M → Prop} {y : Nat → Nat} {n i : Nat} {hi : Int32} (h : RI M y n i) (h1 : (isNu y n i ∧ nI (nuV y n i) ≤ hi) → ∀ M', rtF M M' → RI M' y n (tkE y n i) → M'.1 140 17 = nI (tkA y n i) → Q (nI (nuV y n i)) M') (h0 : ¬ (isNu y n i ∧ nI (nuV y n i) ≤ hi) → ∀ M', rtF M M' → (∃ p, RT M' y n p) → M'.1 140 17 = nI (tkA y n i) → Q (-1) M') : w_X8_number (0 : Int32) hi M Q := by
  have hin : i ≤ n := by
    obtain ⟨_, _, _, hi⟩ := h
    exact hi
  unfold w_X8_number
  refine r8_blanks h (fun M1 f1 r1 b1 => ?_)
  have n4 := r1.2.1
  obtain ⟨a1, a2⟩ := tkA_le (y := y) hin
  obtain ⟨a3, a4⟩ := dE_le (y := y) hin
  obtain ⟨l1, l2⟩ := dE_di (y := y) hin
  have all := sc_all (p := isDi y) (n := n) (n - tkA y n i) (tkA y n i) (by omega)
  have lt3 : ∀ k, k ≤ 3 → k ≤ dE y n i - tkA y n i → nmP y (tkA y n i) k < 1000 := fun k hk hk2 => by
    have := nmP_lt (y := y) (a := tkA y n i) k (fun q hq => all (tkA y n i + q) (by omega) (by show tkA y n i + q < dE y n i; omega)) k (Nat.le_refl _)
    have h3 : 10 ^ k ≤ 10 ^ 3 := Nat.pow_le_pow_right (by decide) hk
    omega
  refine lp_inv (fun k s => s.1 = nI (nmP y (tkA y n i) (min k 3)) ∧ rtF M s.2 ∧ RT s.2 y n (tkA y n i + k) ∧ s.2.1 140 17 = nI (tkA y n i)) (dE y n i - tkA y n i) (Nat.lt_of_le_of_lt (Nat.le_trans (Nat.sub_le _ _) (Nat.le_trans a4 n4)) (by decide)) ⟨rfl, f1, r1, b1⟩ (fun k hk s c hI hc => ?_) (fun s c hI => ?_)
  · obtain ⟨s1, sM⟩ := s
    obtain ⟨rfl, i1, i2, i3⟩ := hI
    dsimp only at i1 i2 i3
    have di : isDi y (tkA y n i + k) := all (tkA y n i + k) (by omega) (by show tkA y n i + k < dE y n i; omega)
    unfold w_X8_number_L6
    refine s8_isAt (lo := 48) (hi := 57) i2 (by decide) (by decide) ?_
    rw [bI_t ⟨by omega, di.1, di.2⟩]
    refine i_t (by decide) ?_
    dsimp only
    rw [i2.2.2.2.1, i3, pk_sub (by omega), show tkA y n i + k - tkA y n i = k by omega, nI_1]
    have d2 : 48 ≤ y (tkA y n i + k) ∧ y (tkA y n i + k) ≤ 57 := di
    by_cases z : k < 3
    · have lt := lt3 k (by omega) (by omega)
      refine i_t (nI_ge (b := 3) z (by decide)) ⟨vp_in_nI (by omega) (by decide), sLet_i (sLet_i ?_)⟩
      rw [nI_clamp (by omega), (i2.2.2.1 _ (by omega)).1, dig_N di, show min k 3 = k by omega, show (10 : Int32) = nI 10 from rfl, pk_mul, nI_add, show (48 : Int32) = nI 48 from rfl, pk_sub (by omega)]
      refine hc _ ⟨?_, i1.trans rtF.p, i2.mv (by omega), by rw [rd_si, if_neg (by omega)]; exact i3⟩
      dsimp only
      rw [show min (k + 1) 3 = k + 1 by omega, nmP]
      congr 1
      omega
    · refine i_f (fun w => w (nI_le (a := 3) (by omega) (by omega))) (sLet_i ?_)
      refine hc _ ⟨?_, i1.trans rtF.p, i2.mv (by omega), by rw [rd_si, if_neg (by omega)]; exact i3⟩
      dsimp only
      rw [show min (k + 1) 3 = min k 3 by omega]
  · obtain ⟨s1, sM⟩ := s
    obtain ⟨rfl, i1, i2, i3⟩ := hI
    dsimp only at i1 i2 i3
    rw [show tkA y n i + (dE y n i - tkA y n i) = dE y n i by omega] at i2
    unfold w_X8_number_L6
    refine s8_isAt (lo := 48) (hi := 57) i2 (by decide) (by decide) ?_
    have no : ¬ (dE y n i < n ∧ 48 ≤ y (dE y n i) ∧ y (dE y n i) ≤ 57) := fun z => sc_stop (p := isDi y) (n := n) (n - tkA y n i) (tkA y n i) (by omega) z.1 ⟨z.2.1, z.2.2⟩
    rw [bI_f no]
    refine i_f (by decide) ?_
    dsimp only
    rw [i2.2.2.2.1, i3, pk_sub a3]
    by_cases z : isNu y n i ∧ nI (nuV y n i) ≤ hi
    · have k2 := z.1.1
      have e1 := l2 k2
      have e2 := l1.mp k2
      have e3 : dE y n i - tkA y n i ≤ 3 := by rw [← e1]; exact z.1.2
      have ev : nmP y (tkA y n i) (min (dE y n i - tkA y n i) 3) = nuV y n i := by
        unfold nuV
        rw [e1, show min (dE y n i - tkA y n i) 3 = dE y n i - tkA y n i by omega]
      have lt := lt3 (dE y n i - tkA y n i) e3 (Nat.le_refl _)
      rw [show min (dE y n i - tkA y n i) 3 = dE y n i - tkA y n i by omega] at ev
      rw [show min (dE y n i - tkA y n i) 3 = dE y n i - tkA y n i by omega, ev]
      rw [ev] at lt
      refine i_f (fun w => ?_) ?_
      · rcases w with w | w | w | w
        · have := (nI_eq (by omega) (by omega)).mp w
          omega
        · exact nI_nlt (a := 3) (b := dE y n i - tkA y n i) e3 (by decide) w
        · exact nI_nlt (a := nuV y n i) (b := 0) (Nat.zero_le _) (by omega) w
        · exact w z.2
      · rw [← e1] at i2
        exact h1 z sM i1 (RI.of i2) i3
    · refine i_t ?_ (h0 z sM i1 ⟨_, i2⟩ i3)
      by_cases w1 : tkA y n i < dE y n i
      · have k2 := l1.mpr w1
        have e1 := l2 k2
        by_cases w2 : dE y n i - tkA y n i ≤ 3
        · right; right; right
          refine fun w => z ⟨⟨k2, by rw [e1]; exact w2⟩, ?_⟩
          unfold nuV
          rw [e1]
          rwa [show min (dE y n i - tkA y n i) 3 = dE y n i - tkA y n i by omega] at w
        · right; left
          exact nI_lt (a := 3) (by omega) (by omega)
      · left
        rw [show dE y n i = tkA y n i by omega]
theorem r8_after {M : sk_M} {Q : Int32 → sk_M → Prop} {y : Nat → Nat} {n i j : Nat} {hi : Int32} (hj : j < 20) (h : RI M y n i) (h1 : isWd y n i j → (isNu y n (tkE y n i) ∧ nI (nuV y n (tkE y n i)) ≤ hi) → ∀ M', rtF M M' → RI M' y n (tkE y n (tkE y n i)) → Q (nI (nuV y n (tkE y n i))) M') (h2 : isWd y n i j → ¬ (isNu y n (tkE y n i) ∧ nI (nuV y n (tkE y n i)) ≤ hi) → ∀ M', rtF M M' → M'.1 140 17 = nI (tkA y n (tkE y n i)) → Q (-1) M') (h0 : ¬ isWd y n i j → ∀ M', rtF M M' → M'.1 140 17 = nI (tkA y n i) → Q (-1) M') : w_X8_after j (0 : Int32) hi M Q := by
  unfold w_X8_after
  refine r8_letters h (fun M1 f1 w1 => r8_isWord hj w1 ?_)
  refine i_b (fun z => ?_) (fun z => ?_)
  · have z1 := bI_n.mp z
    refine r8_number (w1.E z1) (fun a M2 f2 r2 _ => h1 z1 a M2 (f1.trans f2) r2) (fun a M2 f2 _ b2 => h2 z1 a M2 (f1.trans f2) b2)
  · exact h0 (fun w => z (bI_n.mpr w)) M1 f1 w1.2.2
theorem r8_isFigure {M : sk_M} {Q : Int32 → sk_M → Prop} {y : Nat → Nat} {n i : Nat} (h : RI M y n i) (hq : ∀ M', rtF M M' → RI M' y n i → Q (bI (tkK y n i = 2)) M') : w_X8_isFigure M Q := by
  have hi : i ≤ n := by
    obtain ⟨_, _, _, hi⟩ := h
    exact hi
  unfold w_X8_isFigure
  refine r8_blanks h (fun M1 f1 r1 b1 => ?_)
  refine s8_isAt (lo := 48) (hi := 57) r1 (by decide) (by decide) ⟨bI_01 _, ?_⟩
  obtain ⟨l1, l2⟩ := dE_di (y := y) hi
  have e : (tkA y n i < n ∧ 48 ≤ y (tkA y n i) ∧ y (tkA y n i) ≤ 57) ↔ tkK y n i = 2 := by
    rw [l1]
    constructor
    · rintro ⟨a, b⟩
      have : dE y n i = sc (isDi y) n (tkA y n i + 1) := sc_go a b
      have h2 := sc_le (p := isDi y) (n := n) (n - (tkA y n i + 1)) (tkA y n i + 1) (by omega)
      omega
    · intro a
      have := dE_le (y := y) hi
      exact ⟨by omega, sc_all (p := isDi y) (n := n) (n - tkA y n i) (tkA y n i) (by omega) (tkA y n i) (Nat.le_refl _) a⟩
  rw [bI_cg e]
  exact hq M1 f1 ⟨_, r1, tkA_id hi, hi⟩
theorem r8_codeTold {M : sk_M} {Q : Int32 → sk_M → Prop} {y : Nat → Nat} {n i : Nat} (h : RI M y n i) (h1 : isFg y n i → ∀ M', rtF M M' → RI M' y n (tkE y n i) → Q (nI (fgV y n i)) M') (h0 : ¬ isFg y n i → ∀ M', rtF M M' → M'.1 140 17 = nI (tkA y n i) → Q (-1) M') : w_X8_codeTold M Q := by
  have hin : i ≤ n := by
    obtain ⟨_, _, _, hi⟩ := h
    exact hi
  unfold w_X8_codeTold
  refine r8_blanks h (fun M1 f1 r1 b1 => ?_)
  have n4 := r1.2.1
  obtain ⟨a1, a2⟩ := tkA_le (y := y) hin
  obtain ⟨a3, a4⟩ := dE_le (y := y) hin
  obtain ⟨l1, l2⟩ := dE_di (y := y) hin
  have all := sc_all (p := isDi y) (n := n) (n - tkA y n i) (tkA y n i) (by omega)
  refine lp_inv (fun k s => rtF M s.2.2 ∧ RT s.2.2 y n (tkA y n i + k) ∧ s.2.2.1 140 17 = nI (tkA y n i) ∧ ((s.2.1 = 1 ∧ k ≤ 3 ∧ (∀ q, q < k → y (tkA y n i + q) - 48 < 6) ∧ s.1 = nI (fgP y (tkA y n i) k)) ∨ (s.2.1 = 0 ∧ ¬ isFg y n i))) (dE y n i - tkA y n i) (Nat.lt_of_le_of_lt (Nat.le_trans (Nat.sub_le _ _) (Nat.le_trans a4 n4)) (by decide)) ⟨f1, r1, b1, Or.inl ⟨rfl, by omega, fun q hq => absurd hq (by omega), rfl⟩⟩ (fun k hk s c hI hc => ?_) (fun s c hI => ?_)
  · obtain ⟨s1, s2, sM⟩ := s
    obtain ⟨i1, i2, i3, i4⟩ := hI
    dsimp only at i1 i2 i3 i4
    have di : isDi y (tkA y n i + k) := all (tkA y n i + k) (by omega) (by show tkA y n i + k < dE y n i; omega)
    unfold w_X8_codeTold_L8
    refine s8_isAt (lo := 48) (hi := 57) i2 (by decide) (by decide) ?_
    rw [bI_t ⟨by omega, di.1, di.2⟩]
    refine i_t (by decide) (sLet_i (sLet_i ?_))
    dsimp only
    have d2 : 48 ≤ y (tkA y n i + k) ∧ y (tkA y n i + k) ≤ 57 := di
    have k2 : tkK y n i = 2 := l1.mpr (by omega)
    have e1 := l2 k2
    have stop : ¬ isFg y n i → (if (¬ ((0 : Int32) = 0)) then (vp_in (sM.1 140 15) 400 ∧ sLet ((((6 : Int32) * s1) + (sM.1 151 (sM.1 140 15).toNatClampNeg)) - (48 : Int32)) fun y81 => sLet (sk_si sM 140 15 ((sM.1 140 15) + (1 : Int32))) fun M89 => c (y81, (0 : Int32), M89)) else (sLet (sk_si sM 140 15 ((sM.1 140 15) + (1 : Int32))) fun M89 => c (s1, (0 : Int32), M89))) := fun nf => by
      refine i_f (fun w => w rfl) (sLet_i ?_)
      rw [i2.2.2.2.1, nI_1]
      exact hc _ ⟨i1.trans rtF.p, i2.mv (by omega), by rw [rd_si, if_neg (by omega)]; exact i3, Or.inr ⟨rfl, nf⟩⟩
    rcases i4 with ⟨rfl, j1, j2, rfl⟩ | ⟨rfl, j1⟩
    · by_cases z : k < 3
      · refine i_t ⟨by decide, ?_⟩ ⟨by rw [i2.2.2.2.1]; exact vp_in_nI (by omega) (by decide), ?_⟩
        · rw [i2.2.2.2.1, i3, pk_sub (by omega), show tkA y n i + k - tkA y n i = k by omega]
          exact nI_ge (b := 3) z (by decide)
        have ev : sM.1 151 (sM.1 140 15).toNatClampNeg = nI (y (tkA y n i + k)) := by
          rw [i2.2.2.2.1, nI_clamp (by omega), (i2.2.2.1 _ (by omega)).1, dig_N di]
        rw [ev]
        by_cases w : y (tkA y n i + k) < 54
        · refine i_t (nI_ge (b := 54) w (by decide)) (i_t (by decide) ⟨by rw [i2.2.2.2.1]; exact vp_in_nI (by omega) (by decide), sLet_i (sLet_i ?_)⟩)
          have lt := fgP_lt (y := y) (a := tkA y n i) k j2 k (Nat.le_refl _)
          have h6 : 6 ^ k ≤ 6 ^ 3 := Nat.pow_le_pow_right (by decide) j1
          rw [i2.2.2.2.1, nI_1, show (6 : Int32) = nI 6 from rfl, pk_mul, nI_add, show (48 : Int32) = nI 48 from rfl, pk_sub (by omega)]
          refine hc _ ⟨i1.trans rtF.p, i2.mv (by omega), by rw [rd_si, if_neg (by omega)]; exact i3, Or.inl ⟨rfl, by omega, fun q hq => ?_, ?_⟩⟩
          · by_cases v : q = k
            · rw [v]; omega
            · exact j2 q (by omega)
          · dsimp only
            rw [fgP]
            congr 1
            omega
        · refine i_f (fun v => v (nI_le (a := 54) (by omega) (by omega))) ?_
          exact stop (fun v => by have := v.2.2 k z; omega)
      · refine i_f (fun w => w.2 ?_) (stop (fun v => ?_))
        · rw [i2.2.2.2.1, i3, pk_sub (by omega), show tkA y n i + k - tkA y n i = k by omega]
          exact nI_le (a := 3) (by omega) (by omega)
        · have := v.2.1
          rw [e1] at this
          omega
    · refine i_f (fun w => w.1 rfl) (stop j1)
  · obtain ⟨s1, s2, sM⟩ := s
    obtain ⟨i1, i2, i3, i4⟩ := hI
    dsimp only at i1 i2 i3 i4
    rw [show tkA y n i + (dE y n i - tkA y n i) = dE y n i by omega] at i2
    unfold w_X8_codeTold_L8
    refine s8_isAt (lo := 48) (hi := 57) i2 (by decide) (by decide) ?_
    have no : ¬ (dE y n i < n ∧ 48 ≤ y (dE y n i) ∧ y (dE y n i) ≤ 57) := fun z => sc_stop (p := isDi y) (n := n) (n - tkA y n i) (tkA y n i) (by omega) z.1 ⟨z.2.1, z.2.2⟩
    rw [bI_f no]
    refine i_f (by decide) ?_
    dsimp only
    rw [i2.2.2.2.1, i3, pk_sub a3]
    rcases i4 with ⟨rfl, j1, j2, rfl⟩ | ⟨rfl, j1⟩
    · by_cases z : dE y n i - tkA y n i = 3
      · have k2 : tkK y n i = 2 := l1.mpr (by omega)
        have e1 := l2 k2
        refine i_t ⟨by decide, by rw [z]; rfl⟩ ?_
        have fg : isFg y n i := ⟨k2, by rw [e1]; exact z, fun q hq => j2 q (by omega)⟩
        rw [← e1] at i2
        have := h1 fg sM i1 (RI.of i2)
        unfold fgV at this
        rw [z]
        exact this
      · refine i_f (fun w => z ((nI_eq (b := 3) (by omega) (by decide)).mp w.2)) ?_
        refine h0 (fun w => z ?_) sM i1 i3
        have := w.2.1
        rw [l2 w.1] at this
        exact this
    · refine i_f (fun w => w.1 rfl) ?_
      exact h0 j1 sM i1 i3
