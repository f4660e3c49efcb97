/-! the reference reads conditions -/
theorem r8_allOf {y : Nat → Nat} {n dp : Nat} {P : Nat → PR FP} {A : sk_M → (Int32 → sk_M → Prop) → Prop} (hg : pgP n P) (hA : rcP y n dp P RunP A) : rcP y n dp (fun i => pB (P i) (fun x => pAnd y n P (n + 1) x.1 x.2)) RunP (w_X8_readAllOf A) := by
  intro M i s Q hr es ed hs h1 h0
  obtain ⟨hi, n4⟩ := hr.le
  unfold w_X8_readAllOf
  refine hA M i s _ hr es ed hs (fun x ex M1 s1 f1 r1 e1 d1 l1 b1 run1 => ?_) (fun a ea M1 f1 e1 => ?_)
  rotate_left
  · exact i_t rfl (h0 a (pB_l ea) M1 f1 e1)
  refine i_f (by decide) ?_
  have gx := hg.1 _ _ hi ex
  obtain ⟨R, eR⟩ : ∃ R, R = pB (P i) (fun x => pAnd y n P (n + 1) x.1 x.2) := ⟨_, rfl⟩
  have eP : R = pAnd y n P (n + 1) x.1 x.2 := by rw [eR, pB_r ex]
  simp only [← eR] at h1 h0
  refine lp_ix (I := fun q S => ∃ k j f s', lrG M S s ∧ RI S y n j ∧ S.1 140 21 = nI s' ∧ S.1 140 18 = nI dp ∧ s < s' ∧ s' + i ≤ s + j ∧ RunP (dft S) s s' f ∧ R = pAnd y n P k j f ∧ n < j + k ∧ q = n - j) (fun q S c hI hc => ?_) sk_F (n - x.1) M1 ⟨n + 1, x.1, x.2, s1, f1, r1, e1, d1, l1, b1, run1, eP, by omega, rfl⟩ (Nat.lt_of_le_of_lt (Nat.sub_le _ _) (Nat.lt_of_le_of_lt n4 (by decide)))
  obtain ⟨k, j, f, s', f2, r2, e2, d2, l2, b2, run2, eP2, hk, rfl⟩ := hI
  have hj := r2.le.1
  unfold w_X8_readAllOf_L9
  cases k with
  | zero => omega
  | succ k =>
    refine r8_passes (j := 18) (by decide) r2 (fun v M3 g3 r3 b3 => ?_) (fun v M3 g3 r3 b3 => ?_)
    · rw [pAnd_y v] at eP2
      have gt := wd_gt hj v
      refine i_t (by decide) ?_
      refine hA M3 _ s' _ r3 (by rw [g3.2.2 21 (by decide) (by decide)]; exact e2) (by rw [g3.2.2 18 (by decide) (by decide)]; exact d2) (by omega) (fun u eu M4 s4 f4 r4 e4 d4 l4 b4 run4 => ?_) (fun a ea M4 f4 e4 => ?_)
      · refine i_f (by decide) ?_
        have gu := hg.1 _ _ gt.2 eu
        refine r8_emits e4 (by omega) (fun M5 e5 => ?_)
        rw [pB_r eu] at eP2
        have f3 : lrG M M4 s := (f2.trans g3.g (Nat.le_refl s)).trans f4 (by omega)
        refine hc (n - u.1) M5 (by omega) ⟨k, u.1, pAnd' f u.2, s4 + 1, f3.trans e5.g (by omega), e5.ri r4, e5.2.2.2.1, by rw [e5.2.2.1 18 (by decide)]; exact d4, by omega, by omega, ?_, eP2, by omega, rfl⟩
        have ra : RunP (dft M5) s s' f := ((run2.mv (g3.g (s := s')) (Nat.le_refl _)).mv f4 (Nat.le_refl _)).mv e5.g (by omega)
        exact RunP_and ra (run4.mv e5.g (Nat.le_refl _)) (by omega) e5.2.2.2.2.2.1
      · exact i_t rfl (h0 a (by rw [eP2, pB_l ea]) M4 ((f2.trans g3.g (Nat.le_refl s)).trans f4 (by omega)) e4)
    · rw [pAnd_n v] at eP2
      refine i_f (fun u => u rfl) ?_
      exact h1 _ eP2 M3 s' (f2.trans g3.g (Nat.le_refl s)) r3 (by rw [g3.2.2 21 (by decide) (by decide)]; exact e2) (by rw [g3.2.2 18 (by decide) (by decide)]; exact d2) l2 b2 (run2.mv (g3.g (s := s')) (Nat.le_refl _))
theorem allOf_ok {y : Nat → Nat} {n : Nat} {P : Nat → PR FP} (hg : pgP n P) : pgP n (fun i => pB (P i) (fun x => pAnd y n P (n + 1) x.1 x.2)) := by
  have key : ∀ i, i ≤ n → (∀ x, pB (P i) (fun x => pAnd y n P (n + 1) x.1 x.2) = .inr x → i < x.1 ∧ x.1 ≤ n) ∧ ∀ a, pB (P i) (fun x => pAnd y n P (n + 1) x.1 x.2) = .inl a → a ≤ n := fun i hi => by
    cases e : P i with
    | inl b => exact ⟨fun x h => absurd h (by simp [pB]), fun a h => by have : b = a := Sum.inl.inj h; rw [← this]; exact hg.2 _ _ hi e⟩
    | inr u =>
      have g2 := hg.1 _ _ hi e
      have g3 := pAnd_ok (y := y) hg (n + 1) u.1 u.2 g2.2
      exact ⟨fun x h => ⟨by have := (g3.1 x h).1; omega, (g3.1 x h).2⟩, fun a h => g3.2 a h⟩
  exact ⟨fun i x hi => (key i hi).1 x, fun i a hi => (key i hi).2 a⟩
theorem pOr_all {y : Nat → Nat} {n k i : Nat} {P : Nat → PR FP} {φ : FP} (h : isWd y n i 19) : pOr y n P (k + 1) i φ = pB (pB (P (tkE y n i)) (fun x => pAnd y n P (n + 1) x.1 x.2)) (fun z => pOr y n P k z.1 (pOr' φ z.2)) := by
  rw [pOr_y h]
  cases P (tkE y n i) <;> rfl
theorem r8_cond {y : Nat → Nat} {n dp : Nat} {P : Nat → PR FP} {A : sk_M → (Int32 → sk_M → Prop) → Prop} (hg : pgP n P) (hA : rcP y n dp P RunP A) : rcP y n dp (pCond y n P) RunP (w_X8_readCond A) := by
  intro M i s Q hr es ed hs h1 h0
  obtain ⟨hi, n4⟩ := hr.le
  have hL := r8_allOf hg hA
  have hgL := allOf_ok (y := y) hg
  have eC : pCond y n P i = pB (pB (P i) (fun x => pAnd y n P (n + 1) x.1 x.2)) (fun z => pOr y n P (n + 1) z.1 z.2) := by
    unfold pCond
    cases P i <;> rfl
  unfold w_X8_readCond
  refine hL M i s _ hr es ed hs (fun x ex M1 s1 f1 r1 e1 d1 l1 b1 run1 => ?_) (fun a ea M1 f1 e1 => ?_)
  rotate_left
  · exact i_t rfl (h0 a (by rw [eC]; exact pB_l ea) M1 f1 e1)
  refine i_f (by decide) ?_
  have gx := hgL.1 _ _ hi ex
  have eP : pCond y n P i = pOr y n P (n + 1) x.1 x.2 := by rw [eC]; exact pB_r ex
  refine lp_ix (I := fun q S => ∃ k j f s', lrG M S s ∧ RI S y n j ∧ S.1 140 21 = nI s' ∧ S.1 140 18 = nI dp ∧ s < s' ∧ s' + i ≤ s + j ∧ RunP (dft S) s s' f ∧ pCond y n P i = pOr y n P k j f ∧ n < j + k ∧ q = n - j) (fun q S c hI hc => ?_) sk_F (n - x.1) M1 ⟨n + 1, x.1, x.2, s1, f1, r1, e1, d1, l1, b1, run1, eP, by omega, rfl⟩ (Nat.lt_of_le_of_lt (Nat.sub_le _ _) (Nat.lt_of_le_of_lt n4 (by decide)))
  obtain ⟨k, j, f, s', f2, r2, e2, d2, l2, b2, run2, eP2, hk, rfl⟩ := hI
  have hj := r2.le.1
  unfold w_X8_readCond_L9
  cases k with
  | zero => omega
  | succ k =>
    refine r8_passes (j := 19) (by decide) r2 (fun v M3 g3 r3 b3 => ?_) (fun v M3 g3 r3 b3 => ?_)
    · rw [pOr_all v] at eP2
      have gt := wd_gt hj v
      refine i_t (by decide) ?_
      refine hL M3 _ s' _ r3 (by rw [g3.2.2 21 (by decide) (by decide)]; exact e2) (by rw [g3.2.2 18 (by decide) (by decide)]; exact d2) (by omega) (fun u eu M4 s4 f4 r4 e4 d4 l4 b4 run4 => ?_) (fun a ea M4 f4 e4 => ?_)
      · refine i_f (by decide) ?_
        have gu := hgL.1 _ _ gt.2 eu
        refine r8_emits e4 (by omega) (fun M5 e5 => ?_)
        rw [pB_r eu] at eP2
        have f3 : lrG M M4 s := (f2.trans g3.g (Nat.le_refl s)).trans f4 (by omega)
        refine hc (n - u.1) M5 (by omega) ⟨k, u.1, pOr' f u.2, s4 + 1, f3.trans e5.g (by omega), e5.ri r4, e5.2.2.2.1, by rw [e5.2.2.1 18 (by decide)]; exact d4, by omega, by omega, ?_, eP2, by omega, rfl⟩
        have ra : RunP (dft M5) s s' f := ((run2.mv (g3.g (s := s')) (Nat.le_refl _)).mv f4 (Nat.le_refl _)).mv e5.g (by omega)
        exact RunP_or ra (run4.mv e5.g (Nat.le_refl _)) (by omega) e5.2.2.2.2.2.1
      · exact i_t rfl (h0 a (by rw [eP2, pB_l ea]) M4 ((f2.trans g3.g (Nat.le_refl s)).trans f4 (by omega)) e4)
    · rw [pOr_n v] at eP2
      refine i_f (fun u => u rfl) ?_
      exact h1 _ eP2 M3 s' (f2.trans g3.g (Nat.le_refl s)) r3 (by rw [g3.2.2 21 (by decide) (by decide)]; exact e2) (by rw [g3.2.2 18 (by decide) (by decide)]; exact d2) l2 b2 (run2.mv (g3.g (s := s')) (Nat.le_refl _))
theorem r8_tag {M : sk_M} {Q : Int32 → sk_M → Prop} {y : Nat → Nat} {n i s : Nat} (hr : RI M y n i) (es : M.1 140 21 = nI s) (hs : s < i)
    (h4 : isWd y n i 12 → ∀ M', lrG M M' s → RI M' y n (tkE y n i) → M'.1 140 21 = nI (s + 1) → M'.1 140 18 = M.1 140 18 → RunP (dft M') s (s + 1) (fun _ t c => t = c) → Q 1 M') (h5 : isWd y n i 13 → ∀ M', lrG M M' s → RI M' y n (tkE y n i) → M'.1 140 21 = nI (s + 1) → M'.1 140 18 = M.1 140 18 → RunP (dft M') s (s + 1) (fun _ t c => apt t c = 1) → Q 1 M') (h0 : ¬ isWd y n i 12 → ¬ isWd y n i 13 → ∀ M', rtF M M' → RI M' y n i → Q 0 M') : w_X8_readTag M Q := by
  obtain ⟨hi, n4⟩ := hr.le
  unfold w_X8_readTag
  refine r8_letters hr (fun M1 g1 w1 => r8_isWord (by decide) w1 (sLet_i ?_))
  have es1 : M1.1 140 21 = nI s := by rw [g1.2.2 21 (by decide) (by decide)]; exact es
  by_cases k4 : isWd y n i 12
  · refine i_t (by rw [bI_t k4]; decide) (sLet_i (i_t (by decide) (r8_emits es1 (by omega) (fun M3 e3 => i_t (by decide) ?_))))
    refine h4 k4 M3 (g1.g.trans e3.g (Nat.le_refl _)) (e3.ri (w1.E k4)) e3.2.2.2.1 (by rw [e3.2.2.1 18 (by decide), g1.2.2 18 (by decide) (by decide)]) ?_
    refine Run_push (code := 4) (by omega) (by decide) e3.2.2.2.2.2.1 (fun w t c _ ht hc => ?_)
    show (if nI t = nI c then (1 : Int32) else 0) = bI (t = c)
    by_cases z : t = c
    · rw [if_pos (by rw [z]), bI_t z]
    · rw [if_neg (fun u => z ((nI_eq (by omega) (by omega)).mp u)), bI_f z]
  refine i_f (fun u => u (bI_f k4)) (r8_isWord (by decide) w1 ?_)
  by_cases k5 : isWd y n i 13
  · refine i_t (by rw [bI_t k5]; decide) (sLet_i (i_t (by decide) (r8_emits es1 (by omega) (fun M3 e3 => i_t (by decide) ?_))))
    refine h5 k5 M3 (g1.g.trans e3.g (Nat.le_refl _)) (e3.ri (w1.E k5)) e3.2.2.2.1 (by rw [e3.2.2.1 18 (by decide), g1.2.2 18 (by decide) (by decide)]) ?_
    refine Run_push (code := 5) (by omega) (by decide) e3.2.2.2.2.2.1 (fun w t c _ ht hc => ?_)
    show (if f_X8_apartOf (nI t) (nI c) = (1 : Int32) then (1 : Int32) else 0) = bI (apt t c = 1)
    have a := apt_8 t ht c hc
    rw [a.1]
    by_cases z : apt t c = 1
    · rw [if_pos (by rw [z]; rfl), bI_t z]
    · rw [if_neg (show ¬ (nI (apt t c) = (1 : Int32)) from fun u => z ((nI_eq (b := 1) (by omega) (by decide)).mp u)), bI_f z]
  refine i_f (fun u => u (bI_f k5)) (sLet_i (i_f (fun z => z (by decide)) (sLet_i (i_f (fun z => z (by decide)) ?_))))
  have al := tkA_le (y := y) hi
  rw [w1.2.2]
  exact h0 k4 k5 _ (g1.trans rtF.p) ⟨tkA y n i, w1.2.1.mv al.2, tkA_id hi, hi⟩
