/-! the reference reads sums -/
def lrG (M M' : sk_M) (s : Nat) : Prop := (∀ c, c ≠ 140 → c ≠ 141 → M'.1 c = M.1 c) ∧ M'.2 = M.2 ∧ (∀ k, k ≠ 15 → k ≠ 17 → k ≠ 18 → k ≠ 21 → M'.1 140 k = M.1 140 k) ∧ ∀ k, k < 1460 + 2 * s → M'.1 141 k = M.1 141 k
theorem lrG.refl {M : sk_M} {s : Nat} : lrG M M s := ⟨fun _ _ _ => rfl, rfl, fun _ _ _ _ _ => rfl, fun _ _ => rfl⟩
theorem lrG.trans {A B C : sk_M} {s s' : Nat} (h : lrG A B s) (g : lrG B C s') (hs : s ≤ s') : lrG A C s := ⟨fun c a b => (g.1 c a b).trans (h.1 c a b), g.2.1.trans h.2.1, fun k a b c d => (g.2.2.1 k a b c d).trans (h.2.2.1 k a b c d), fun k hk => (g.2.2.2 k (by omega)).trans (h.2.2.2 k hk)⟩
theorem rtF.g {M M' : sk_M} {s : Nat} (h : rtF M M') : lrG M M' s := ⟨fun c a _ => h.1 c a, h.2.1, fun k a b _ _ => h.2.2 k a b, fun k _ => by rw [h.1 141 (by decide)]⟩
def dft (M : sk_M) : Nat → Int32 := fun k => M.1 141 (1411 + k)
theorem Run.mv {M M' : sk_M} {s s' s2 : Nat} {v : Nat → Nat → Nat → Int32} (h : Run (dft M) s s' v) (g : lrG M M' s2) (hs : s' ≤ s2) : Run (dft M') s s' v := h.cg (fun k k1 k2 => by unfold dft; exact g.2.2.2 _ (by omega)) (fun _ _ _ _ _ _ => rfl)
def emF (M M' : sk_M) (s : Nat) (a b : Int32) : Prop := (∀ c, c ≠ 140 → c ≠ 141 → M'.1 c = M.1 c) ∧ M'.2 = M.2 ∧ (∀ k, k ≠ 21 → M'.1 140 k = M.1 140 k) ∧ M'.1 140 21 = nI (s + 1) ∧ (∀ k, k < 1460 + 2 * s → M'.1 141 k = M.1 141 k) ∧ dft M' (49 + 2 * s) = a ∧ dft M' (50 + 2 * s) = b
theorem emF.g {M M' : sk_M} {s : Nat} {a b : Int32} (h : emF M M' s a b) : lrG M M' s := ⟨h.1, h.2.1, fun k _ _ _ a => h.2.2.1 k a, h.2.2.2.2.1⟩
theorem emF.ri {M M' : sk_M} {s : Nat} {a b : Int32} {y : Nat → Nat} {n i : Nat} (h : emF M M' s a b) (r : RI M y n i) : RI M' y n i := r.cg (h.1 151 (by decide) (by decide)) (h.2.2.1 16 (by decide)) (h.2.2.1 15 (by decide))
theorem r8_emits {M : sk_M} {Q : sk_M → Prop} {s : Nat} {a b : Int32} (e : M.1 140 21 = nI s) (hs : s < 400) (h : ∀ M', emF M M' s a b → Q M') : w_X8_emits a b M Q := by
  unfold w_X8_emits
  have i1 : (1460 : Int32) + (2 : Int32) * nI s = nI (1460 + 2 * s) := by
    show nI 1460 + nI 2 * nI s = _
    rw [pk_mul, nI_add]
  rw [e, i1, nI_clamp (by omega)]
  refine ⟨vp_in_nI (by omega) (by decide), sLet_i ?_⟩
  have e2 : (sk_si M 141 (1460 + 2 * s) a).1 140 21 = nI s := by rw [si_c (by decide)]; exact e
  rw [e2, i1, nI_1, nI_clamp (by omega)]
  refine ⟨vp_in_nI (by omega) (by decide), sLet_i (sLet_i ?_)⟩
  have e3 : (sk_si (sk_si M 141 (1460 + 2 * s) a) 141 (1460 + 2 * s + 1) b).1 140 21 = nI s := by rw [si_c (by decide)]; exact e2
  rw [e3, nI_1]
  refine h _ ⟨fun c c1 c2 => by rw [si_c c1, si_c c2, si_c c2], rfl, fun k hk => by rw [rd_si, if_neg (fun z => hk z.2), si_c (by decide), si_c (by decide)], by rw [rd_si, if_pos ⟨rfl, rfl⟩], fun k hk => by rw [si_c (by decide), rd_si, if_neg (by omega), rd_si, if_neg (by omega)], ?_, ?_⟩
  · unfold dft
    rw [si_c (by decide), rd_si, if_neg (by omega), rd_si, if_pos ⟨rfl, by omega⟩]
  · unfold dft
    rw [si_c (by decide), rd_si, if_pos ⟨rfl, by omega⟩]
/-- what a reader of the reference owes -/
def rcP {α : Type} (y : Nat → Nat) (n dp : Nat) (P : Nat → PR α) (Rn : (Nat → Int32) → Nat → Nat → α → Prop) (G : sk_M → (Int32 → sk_M → Prop) → Prop) : Prop := ∀ (M : sk_M) (i s : Nat) (Q : Int32 → sk_M → Prop), RI M y n i → M.1 140 21 = nI s → M.1 140 18 = nI dp → s < i → (∀ x, P i = .inr x → ∀ M' s', lrG M M' s → RI M' y n x.1 → M'.1 140 21 = nI s' → M'.1 140 18 = nI dp → s < s' → s' + i ≤ s + x.1 → Rn (dft M') s s' x.2 → Q 1 M') → (∀ a, P i = .inl a → ∀ M', lrG M M' s → M'.1 140 17 = nI a → Q 0 M') → G M Q
theorem RI.le {M : sk_M} {y : Nat → Nat} {n i : Nat} (h : RI M y n i) : i ≤ n ∧ n ≤ 400 := by
  obtain ⟨p, a, b, c⟩ := h
  exact ⟨c, a.2.1⟩
theorem RW.ri {M : sk_M} {y : Nat → Nat} {n i : Nat} (h : RW M y n i) (e : lE y n i = tkA y n i) : RI M y n i := ⟨lE y n i, h.2.1, by rw [e]; exact tkA_id h.1, h.1⟩
theorem r8_part {y : Nat → Nat} {n dp : Nat} : rcP y n dp (pPart y n) RunN w_X8_readPart := by
  intro M i s Q hr es ed hs h1 h0
  obtain ⟨hi, n4⟩ := hr.le
  unfold w_X8_readPart
  refine r8_letters hr (fun M1 g1 w1 => sLet_i ?_)
  have es1 : M1.1 140 21 = nI s := by rw [g1.2.2 21 (by decide) (by decide)]; exact es
  have ed1 : M1.1 140 18 = nI dp := by rw [g1.2.2 18 (by decide) (by decide)]; exact ed
  obtain ⟨l1, l2⟩ := lE_wd (y := y) hi
  have l3 := lE_le (y := y) hi
  have n0 : ∀ k, k < 2 ^ 31 → ¬ (nI k < 0) := fun k hk => nI_nlt (b := 0) (Nat.zero_le _) hk
  have m0 : ¬ ¬ ((-1 : Int32) < 0) := fun z => z (by decide)
  rw [w1.2.1.2.2.2.1, w1.2.2]
  by_cases z : lE y n i = tkA y n i
  · have nk : ∀ j, ¬ isWd y n i j := fun j u => by have := l1.mp u.1; omega
    refine i_t (by rw [z]) ?_
    refine r8_number (hi := 999) (w1.ri z) (fun k5 M2 g2 r2 b2 => ?_) (fun k5 M2 g2 _ b2 => ?_)
    · have v5 := nuV_lt hi k5.1
      have k5' : isNu y n i ∧ nuV y n i ≤ 999 := ⟨k5.1, (le_N v5 (by decide)).mp k5.2⟩
      have eP : pPart y n i = .inr (tkE y n i, fun _ _ _ => nuV y n i) := by unfold pPart; rw [iF_f (nk 15), iF_f (nk 16), iF_f (nk 17), iF_f (nk 14), iF_t k5']
      have gt := nu_gt hi k5.1
      refine r8_emits (by rw [g2.2.2 21 (by decide) (by decide)]; exact es1) (by omega) (fun M3 e3 => i_t (n0 _ (by omega)) ?_)
      refine h1 _ eP M3 (s + 1) ((g1.trans g2).g.trans e3.g (Nat.le_refl _)) (e3.ri r2) e3.2.2.2.1 (by rw [e3.2.2.1 18 (by decide), g2.2.2 18 (by decide) (by decide)]; exact ed1) (by omega) (by show s + 1 + i ≤ s + tkE y n i; omega) ?_
      refine Run_push (code := 6) (by omega) (by decide) e3.2.2.2.2.2.1 (fun w t c _ _ _ => ?_)
      rw [e3.2.2.2.2.2.2]
      rfl
    · have k5' : ¬ (isNu y n i ∧ nuV y n i ≤ 999) := fun u => k5 ⟨u.1, (le_N (nuV_lt hi u.1) (by decide)).mpr u.2⟩
      have eP : pPart y n i = .inl (tkA y n i) := by unfold pPart; rw [iF_f (nk 15), iF_f (nk 16), iF_f (nk 17), iF_f (nk 14), iF_f k5']
      refine r8_emits (by rw [g2.2.2 21 (by decide) (by decide)]; exact es1) (by omega) (fun M3 e3 => i_f m0 ?_)
      exact h0 _ eP M3 ((g1.trans g2).g.trans e3.g (Nat.le_refl _)) (by rw [e3.2.2.1 17 (by decide)]; exact b2)
  · have k1' : tkK y n i = 1 := l1.mpr (by omega)
    have nnu : ¬ (isNu y n i ∧ nuV y n i ≤ 999) := fun u => by have := u.1.1; omega
    have word : ∀ (code j : Nat) (f : FN), code ≤ 3 → isWd y n i j → pPart y n i = .inr (tkE y n i, f) → (∀ (o : Int32) w t c, w < 3 → t < 6 → c < 6 → f_X8_factOf (nI code) o (nI w) (nI t) (nI c) = nI (f w t c)) → w_X8_emits (nI code) (0 : Int32) M1 (fun M91 => if (¬ (nI code < 0)) then Q (1 : Int32) M91 else Q (0 : Int32) M91) := by
      intro code j f hcd hw eP hf
      have gt := wd_gt hi hw
      refine r8_emits es1 (by omega) (fun M3 e3 => i_t (n0 _ (by omega)) ?_)
      refine h1 _ eP M3 (s + 1) (g1.g.trans e3.g (Nat.le_refl _)) (e3.ri (w1.E hw)) e3.2.2.2.1 (by rw [e3.2.2.1 18 (by decide)]; exact ed1) (by omega) (by show s + 1 + i ≤ s + tkE y n i; omega) ?_
      exact Run_push (code := code) (by omega) (by omega) e3.2.2.2.2.2.1 (fun w t c hw ht hc => hf _ w t c hw ht hc)
    refine i_f (fun u => z ((nI_eq (by omega) (by omega)).mp u)) (r8_isWord (by decide) w1 (sLet_i ?_))
    by_cases k4 : isWd y n i 14
    · have a1 : ¬ isWd y n i 15 := wd_ne (by decide) k4
      have a2 : ¬ isWd y n i 16 := wd_ne (by decide) k4
      have a3 : ¬ isWd y n i 17 := fun u => by
        have h1 := k4.2.2 0 (by decide)
        have h2 := u.2.2 0 (by decide)
        rw [h1] at h2
        exact absurd h2 (by decide)
      refine i_t (by rw [bI_t k4]; decide) ?_
      exact word 0 14 (fun w _ _ => w) (by decide) k4 (by unfold pPart; rw [iF_f a1, iF_f a2, iF_f a3, iF_t k4]) (fun o w t c _ _ _ => rfl)
    refine i_f (fun u => u (bI_f k4)) (r8_isWord (by decide) w1 ?_)
    by_cases k1 : isWd y n i 15
    · refine i_t (by rw [bI_t k1]; decide) ?_
      exact word 1 15 (fun _ t _ => t) (by decide) k1 (by unfold pPart; rw [iF_t k1]) (fun o w t c _ _ _ => rfl)
    refine i_f (fun u => u (bI_f k1)) (r8_isWord (by decide) w1 ?_)
    by_cases k2 : isWd y n i 16
    · refine i_t (by rw [bI_t k2]; decide) ?_
      exact word 2 16 (fun _ _ c => c) (by decide) k2 (by unfold pPart; rw [iF_f k1, iF_t k2]) (fun o w t c _ _ _ => rfl)
    refine i_f (fun u => u (bI_f k2)) (r8_isWord (by decide) w1 ?_)
    by_cases k3 : isWd y n i 17
    · refine i_t (by rw [bI_t k3]; decide) ?_
      exact word 3 17 (fun _ t c => apt t c) (by decide) k3 (by unfold pPart; rw [iF_f k1, iF_f k2, iF_t k3]) (fun o w t c _ ht hc => (apt_8 t ht c hc).1)
    refine i_f (fun u => u (bI_f k3)) ?_
    refine r8_emits es1 (by omega) (fun M3 e3 => i_f m0 ?_)
    exact h0 _ (by unfold pPart; rw [iF_f k1, iF_f k2, iF_f k3, iF_f k4, iF_f nnu]) M3 (g1.g.trans e3.g (Nat.le_refl _)) (by rw [e3.2.2.1 17 (by decide)]; exact w1.2.2)
theorem sg43 : sgn9 43 := ⟨by decide, by decide, by decide, by decide⟩
theorem r8_sum {y : Nat → Nat} {n dp : Nat} : rcP y n dp (pSum y n) RunN w_X8_readSum := by
  intro M i s Q hr es ed hs h1 h0
  obtain ⟨hi, n4⟩ := hr.le
  unfold w_X8_readSum
  refine r8_part M i s _ hr es ed hs (fun x ex M1 s1 f1 r1 e1 d1 l1 b1 run1 => ?_) (fun a ea M1 f1 e1 => ?_)
  rotate_left
  · exact i_t rfl (h0 a (by unfold pSum; rw [pB_l ea]) M1 f1 e1)
  refine i_f (by decide) ?_
  have gx := pPart_ok hi ex
  have eP : pSum y n i = pSumL y n (n + 1) x.1 x.2 := by unfold pSum; rw [pB_r ex]
  refine lp_ix (I := fun q S => ∃ k j f s', lrG M S s ∧ RI S y n j ∧ S.1 140 21 = nI s' ∧ S.1 140 18 = nI dp ∧ s < s' ∧ s' + i ≤ s + j ∧ RunN (dft S) s s' f ∧ pSum y n i = pSumL y n k j f ∧ n < j + k ∧ q = n - j) (fun q S c hI hc => ?_) sk_F (n - x.1) M1 ⟨n + 1, x.1, x.2, s1, f1, r1, e1, d1, l1, b1, run1, eP, by omega, rfl⟩ (Nat.lt_of_le_of_lt (Nat.sub_le _ _) (Nat.lt_of_le_of_lt n4 (by decide)))
  obtain ⟨k, j, f, s', f2, r2, e2, d2, l2, b2, run2, eP2, hk, rfl⟩ := hI
  have hj := r2.le.1
  unfold w_X8_readSum_L9
  cases k with
  | zero => omega
  | succ k =>
    refine r8_sign sg43 r2 (fun v M3 g3 r3 b3 => ?_) (fun v M3 g3 r3 b3 => ?_)
    · have v' : sgA y n j 43 := v
      rw [pSumL_y v'] at eP2
      have gt := sg_gt hj v.1
      refine i_t (by decide) ?_
      refine r8_part M3 _ s' _ r3 (by rw [g3.2.2 21 (by decide) (by decide)]; exact e2) (by rw [g3.2.2 18 (by decide) (by decide)]; exact d2) (by omega) (fun u eu M4 s4 f4 r4 e4 d4 l4 b4 run4 => ?_) (fun a ea M4 f4 e4 => ?_)
      · refine i_f (by decide) ?_
        have gu := pPart_ok gt.2 eu
        refine r8_emits e4 (by omega) (fun M5 e5 => ?_)
        rw [pB_r eu] at eP2
        have f3 : lrG M M4 s := (f2.trans g3.g (Nat.le_refl s)).trans f4 (by omega)
        refine hc (n - u.1) M5 (by omega) ⟨k, u.1, fadd f u.2, s4 + 1, f3.trans e5.g (by omega), e5.ri r4, e5.2.2.2.1, by rw [e5.2.2.1 18 (by decide)]; exact d4, by omega, by omega, ?_, eP2, by omega, rfl⟩
        have ra : RunN (dft M5) s s' f := ((run2.mv (g3.g (s := s')) (Nat.le_refl _)).mv f4 (Nat.le_refl _)).mv e5.g (by omega)
        exact RunN_add ra (run4.mv e5.g (Nat.le_refl _)) (by omega) e5.2.2.2.2.2.1
      · exact i_t rfl (h0 a (by rw [eP2, pB_l ea]) M4 ((f2.trans g3.g (Nat.le_refl s)).trans f4 (by omega)) e4)
    · have v' : ¬ sgA y n j 43 := v
      rw [pSumL_n v'] at eP2
      refine i_f (fun u => u rfl) ?_
      exact h1 _ eP2 M3 s' (f2.trans g3.g (Nat.le_refl s)) r3 (by rw [g3.2.2 21 (by decide) (by decide)]; exact e2) (by rw [g3.2.2 18 (by decide) (by decide)]; exact d2) l2 b2 (run2.mv (g3.g (s := s')) (Nat.le_refl _))
