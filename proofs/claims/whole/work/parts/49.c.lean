/-! conditions, by the class -/
theorem pPart_f {y : Nat → Nat} {n i a : Nat} (hi : i ≤ n) (h : pPart y n i = .inl a) : a ≤ n := by
  rw [pPart_l h]; exact (tkA_le hi).2
theorem pSumL_f {y : Nat → Nat} {n a : Nat} : ∀ k i f, i ≤ n → pSumL y n k i f = .inl a → a ≤ n
  | 0, i, f, _, h => by
    have e : 0 = a := by simpa [pSumL] using h
    omega
  | k + 1, i, f, hi, h => by
    by_cases z : sgA y n i 43
    · rw [pSumL_y z] at h
      have g1 := sg_gt hi z.1
      cases e : pPart y n (tkE y n i) with
      | inl b => rw [pB_l e] at h; rw [← Sum.inl.inj h]; exact pPart_f g1.2 e
      | inr u => rw [pB_r e] at h; exact pSumL_f k _ _ (pPart_ok g1.2 e).2 h
    · rw [pSumL_n z] at h; exact absurd h (by simp)
theorem pSum_f {y : Nat → Nat} {n i a : Nat} (hi : i ≤ n) (h : pSum y n i = .inl a) : a ≤ n := by
  unfold pSum at h
  cases e : pPart y n i with
  | inl b => rw [pB_l e] at h; rw [← Sum.inl.inj h]; exact pPart_f hi e
  | inr u => rw [pB_r e] at h; exact pSumL_f _ _ _ (pPart_ok hi e).2 h
/-- it goes on, and is wrong within the text -/
def pgP {α : Type} (n : Nat) (P : Nat → PR α) : Prop := (∀ i x, i ≤ n → P i = .inr x → i < x.1 ∧ x.1 ≤ n) ∧ ∀ i a, i ≤ n → P i = .inl a → a ≤ n
theorem pAnd_ok {y : Nat → Nat} {n : Nat} {A : Nat → PR FP} (hA : pgP n A) : ∀ k i φ, i ≤ n → (∀ x, pAnd y n A k i φ = .inr x → i ≤ x.1 ∧ x.1 ≤ n) ∧ ∀ a, pAnd y n A k i φ = .inl a → a ≤ n
  | 0, i, φ, _ => ⟨fun x h => by simp only [pAnd] at h; exact absurd h (by simp), fun a h => by
    have e : 0 = a := by simpa [pAnd] using h
    omega⟩
  | k + 1, i, φ, hi => by
    by_cases z : isWd y n i 18
    · rw [pAnd_y z]
      have g1 := wd_gt hi z
      cases e : A (tkE y n i) with
      | inl b => exact ⟨fun x h => absurd h (by simp [pB]), fun a h => by have : b = a := Sum.inl.inj h; rw [← this]; exact hA.2 _ _ g1.2 e⟩
      | inr u =>
        have g2 := hA.1 _ _ g1.2 e
        have ih := pAnd_ok (y := y) hA k u.1 (pAnd' φ u.2) g2.2
        exact ⟨fun x h => ⟨by have := (ih.1 x h).1; omega, (ih.1 x h).2⟩, fun a h => ih.2 a h⟩
    · rw [pAnd_n z]
      exact ⟨fun x h => by rw [← Sum.inr.inj h]; exact ⟨Nat.le_refl _, hi⟩, fun a h => absurd h (by simp)⟩
theorem pOr_ok {y : Nat → Nat} {n : Nat} {A : Nat → PR FP} (hA : pgP n A) : ∀ k i φ, i ≤ n → (∀ x, pOr y n A k i φ = .inr x → i ≤ x.1 ∧ x.1 ≤ n) ∧ ∀ a, pOr y n A k i φ = .inl a → a ≤ n
  | 0, i, φ, _ => ⟨fun x h => by simp only [pOr] at h; exact absurd h (by simp), fun a h => by
    have e : 0 = a := by simpa [pOr] using h
    omega⟩
  | k + 1, i, φ, hi => by
    by_cases z : isWd y n i 19
    · rw [pOr_y z]
      have g1 := wd_gt hi z
      cases e : A (tkE y n i) with
      | inl b => exact ⟨fun x h => absurd h (by simp [pB]), fun a h => by have : b = a := Sum.inl.inj h; rw [← this]; exact hA.2 _ _ g1.2 e⟩
      | inr u =>
        have g2 := hA.1 _ _ g1.2 e
        have g3 := pAnd_ok (y := y) hA (n + 1) u.1 u.2 g2.2
        show (∀ x, pB (pAnd y n A (n + 1) u.1 u.2) _ = .inr x → _) ∧ ∀ a, pB (pAnd y n A (n + 1) u.1 u.2) _ = .inl a → _
        cases e2 : pAnd y n A (n + 1) u.1 u.2 with
        | inl b => exact ⟨fun x h => absurd h (by simp [pB]), fun a h => by have : b = a := Sum.inl.inj h; rw [← this]; exact g3.2 _ e2⟩
        | inr v =>
          have g4 := g3.1 v e2
          have ih := pOr_ok (y := y) hA k v.1 (pOr' φ v.2) g4.2
          exact ⟨fun x h => ⟨by have := (ih.1 x h).1; omega, (ih.1 x h).2⟩, fun a h => ih.2 a h⟩
    · rw [pOr_n z]
      exact ⟨fun x h => by rw [← Sum.inr.inj h]; exact ⟨Nat.le_refl _, hi⟩, fun a h => absurd h (by simp)⟩
theorem pCond_ok {y : Nat → Nat} {n : Nat} {A : Nat → PR FP} (hA : pgP n A) : pgP n (pCond y n A) := by
  have key : ∀ i, i ≤ n → (∀ x, pCond y n A i = .inr x → i < x.1 ∧ x.1 ≤ n) ∧ ∀ a, pCond y n A i = .inl a → a ≤ n := fun i hi => by
    unfold pCond
    cases e : A i with
    | inl b => exact ⟨fun x h => absurd h (by simp [pB]), fun a h => by have : b = a := Sum.inl.inj h; rw [← this]; exact hA.2 _ _ hi e⟩
    | inr u =>
      have g2 := hA.1 _ _ hi e
      have g3 := pAnd_ok (y := y) hA (n + 1) u.1 u.2 g2.2
      show (∀ x, pB (pAnd y n A (n + 1) u.1 u.2) _ = .inr x → _) ∧ ∀ a, pB (pAnd y n A (n + 1) u.1 u.2) _ = .inl a → _
      cases e2 : pAnd y n A (n + 1) u.1 u.2 with
      | inl b => exact ⟨fun x h => absurd h (by simp [pB]), fun a h => by have : b = a := Sum.inl.inj h; rw [← this]; exact g3.2 _ e2⟩
      | inr v =>
        have g4 := g3.1 v e2
        have ih := pOr_ok (y := y) hA (n + 1) v.1 v.2 g4.2
        exact ⟨fun x h => ⟨by have := (ih.1 x h).1; omega, (ih.1 x h).2⟩, fun a h => ih.2 a h⟩
  exact ⟨fun i x hi => (key i hi).1 x, fun i a hi => (key i hi).2 a⟩
theorem pNest_ok {y : Nat → Nat} {n : Nat} {A : Nat → PR FP} (hA : pgP n A) {i : Nat} (hi : i ≤ n) (ho : isWd y n i 11 ∨ sgA y n i 40) : (∀ x, pNest y n A i = .inr x → i < x.1 ∧ x.1 ≤ n) ∧ ∀ a, pNest y n A i = .inl a → a ≤ n := by
  unfold pNest
  by_cases z : isWd y n i 11
  · rw [iF_t z]
    have g1 := wd_gt hi z
    cases e : A (tkE y n i) with
    | inl b => exact ⟨fun x h => absurd h (by simp [pB]), fun a h => by have : b = a := Sum.inl.inj h; rw [← this]; exact hA.2 _ _ g1.2 e⟩
    | inr u =>
      have g2 := hA.1 _ _ g1.2 e
      exact ⟨fun x h => by rw [← Sum.inr.inj h]; exact ⟨by show i < u.1; omega, g2.2⟩, fun a h => absurd h (by simp [pB])⟩
  · rw [iF_f z]
    have g1 := sg_gt hi (ho.resolve_left z).1
    have hC := pCond_ok (y := y) hA
    cases e : pCond y n A (tkE y n i) with
    | inl b => exact ⟨fun x h => absurd h (by simp [pB]), fun a h => by have : b = a := Sum.inl.inj h; rw [← this]; exact hC.2 _ _ g1.2 e⟩
    | inr u =>
      have g2 := hC.1 _ _ g1.2 e
      dsimp only [pB]
      by_cases v : sgA y n u.1 41
      · rw [iF_t v]
        have g3 := sg_gt g2.2 v.1
        exact ⟨fun x h => by rw [← Sum.inr.inj h]; exact ⟨by show i < tkE y n u.1; omega, g3.2⟩, fun a h => absurd h (by simp)⟩
      · rw [iF_f v]
        exact ⟨fun x h => absurd h (by simp), fun a h => by rw [← Sum.inl.inj h]; exact (tkA_le g2.2).2⟩
theorem pAt_ok {y : Nat → Nat} {n : Nat} {N : Nat → PR FP} (hN : ∀ i, i ≤ n → (isWd y n i 11 ∨ sgA y n i 40) → (∀ x, N i = .inr x → i < x.1 ∧ x.1 ≤ n) ∧ ∀ a, N i = .inl a → a ≤ n) : pgP n (pAt y n N) := by
  have key : ∀ i, i ≤ n → (∀ x, pAt y n N i = .inr x → i < x.1 ∧ x.1 ≤ n) ∧ ∀ a, pAt y n N i = .inl a → a ≤ n := fun i hi => by
    unfold pAt
    by_cases z : isWd y n i 11 ∨ sgA y n i 40
    · rw [iF_t z]; exact hN i hi z
    rw [iF_f z]
    by_cases z1 : isWd y n i 12
    · rw [iF_t z1]
      exact ⟨fun x h => by rw [← Sum.inr.inj h]; exact wd_gt hi z1, fun a h => absurd h (by simp)⟩
    rw [iF_f z1]
    by_cases z2 : isWd y n i 13
    · rw [iF_t z2]
      exact ⟨fun x h => by rw [← Sum.inr.inj h]; exact wd_gt hi z2, fun a h => absurd h (by simp)⟩
    rw [iF_f z2]
    cases e : pSum y n i with
    | inl b => exact ⟨fun x h => absurd h (by simp [pB]), fun a h => by have : b = a := Sum.inl.inj h; rw [← this]; exact pSum_f hi e⟩
    | inr u =>
      have g := pSum_ok hi e
      have two : ∀ (F : Nat × FN → PR FP), (∀ v, ∃ q, F v = .inr (v.1, q)) → tkE y n u.1 ≤ n → u.1 < tkE y n u.1 → (∀ x, pB (pSum y n (tkE y n u.1)) F = .inr x → i < x.1 ∧ x.1 ≤ n) ∧ ∀ a, pB (pSum y n (tkE y n u.1)) F = .inl a → a ≤ n := fun F hF h1 h2 => by
        cases e2 : pSum y n (tkE y n u.1) with
        | inl b => exact ⟨fun x h => absurd h (by simp [pB]), fun a h => by have : b = a := Sum.inl.inj h; rw [← this]; exact pSum_f h1 e2⟩
        | inr v =>
          obtain ⟨q, hq⟩ := hF v
          have g2 := pSum_ok h1 e2
          show (∀ x, F v = .inr x → _) ∧ ∀ a, F v = .inl a → _
          rw [hq]
          exact ⟨fun x h => by rw [← Sum.inr.inj h]; exact ⟨by show i < v.1; omega, g2.2.1⟩, fun a h => absurd h (by simp)⟩
      dsimp only [pB]
      by_cases w : sgA y n u.1 60
      · rw [iF_t w]
        have g2 := sg_gt g.2.1 w.1
        exact two _ (fun v => ⟨_, rfl⟩) g2.2 g2.1
      rw [iF_f w]
      by_cases w2 : sgA y n u.1 62
      · rw [iF_t w2]
        have g2 := sg_gt g.2.1 w2.1
        exact two _ (fun v => ⟨_, rfl⟩) g2.2 g2.1
      · rw [iF_f w2]
        exact ⟨fun x h => absurd h (by simp), fun a h => by rw [← Sum.inl.inj h]; exact (tkA_le g.2.1).2⟩
  exact ⟨fun i x hi => (key i hi).1 x, fun i a hi => (key i hi).2 a⟩
theorem pAtom_ok {y : Nat → Nat} {n : Nat} : ∀ r, pgP n (pAtom y n r)
  | 0 => pAt_ok (fun i hi _ => ⟨fun x h => absurd h (by simp), fun a h => by rw [← Sum.inl.inj h]; exact (tkA_le hi).2⟩)
  | r + 1 => pAt_ok (fun i hi ho => pNest_ok (pAtom_ok r) hi ho)
def lwF (M M' : sk_M) : Prop := (∀ x, x ≠ 121 → x ≠ 128 → x ≠ 129 → M'.1 x = M.1 x) ∧ M'.2 = M.2 ∧ M'.1 121 1 = M.1 121 1
theorem lwF.refl {M : sk_M} : lwF M M := ⟨fun _ _ _ _ => rfl, rfl, rfl⟩
theorem lwF.trans {A B C : sk_M} (h : lwF A B) (g : lwF B C) : lwF A C := ⟨fun x a b c => (g.1 x a b c).trans (h.1 x a b c), g.2.1.trans h.2.1, g.2.2.trans h.2.2⟩
theorem tgF.lw {A B : sk_M} (h : tgF A B) : lwF A B := ⟨fun x a _ _ => h.1 x a, h.2.1, h.2.2⟩
theorem smF.lw {A B : sk_M} {c : Nat} (hc : c = 128 ∨ c = 129) (h : smF c A B) : lwF A B := ⟨fun x a _ _ => h.1 x a (by omega), h.2.1, h.2.2⟩
/-- what an atom or a condition owes, at the wheel w -/
def acP (w : Nat) (y : Nat → Nat) (n : Nat) (P : Nat → PR FP) (A : sk_M → (Int64 → sk_M → Prop) → Prop) : Prop := ∀ (M : sk_M) (i : Nat) (Q : Int64 → sk_M → Prop), M.1 126 4 = nI w → TS M y n i → M.1 121 5 = -1 → (∀ x, P i = .inr x → ∀ M' L, lwF M M' → TS M' y n x.1 → M'.1 121 5 = -1 → BL L (fun k => x.2 w (k / 6) (k % 6)) → Q L M') → (∀ a, P i = .inl a → ∀ M' L, lwF M M' → Wr M' y n a → Q L M') → A M Q
noncomputable def contA (y : Nat → Nat) (n : Nat) (A : Nat → PR FP) (k m : Nat) (α β : FP) (i : Nat) : PR FP := pB (pAnd y n A k i β) (fun z => pOr y n A m z.1 (pOr' α z.2))
theorem c1_condition {w : Nat} {y : Nat → Nat} {n : Nat} {P : Nat → PR FP} {A : Int32 → sk_M → (Int64 → sk_M → Prop) → Prop} {a1 : Int32} (hg : pgP n P) (hA : acP w y n P (A a1)) : acP w y n (pCond y n P) (w_X1_condition A a1) := by
  intro M i Q ew hT h5 h1 h0
  have n4 := hT.1.2.1
  unfold w_X1_condition
  refine hA M i _ ew hT h5 (fun x ex M1 L1 f1 t1 e1 bl1 => ?_) (fun a ea M1 L1 f1 w1 => ?_)
  rotate_left
  · have a4 : a ≤ 400 := Nat.le_trans (hg.2 _ _ hT.2.1 ea) n4
    refine lp_ix (I := fun q s => q = 0 ∧ s.2.2.2 = M1) (fun q s c hI hc => ?_) sk_F 0 _ ⟨rfl, rfl⟩ (by decide)
    unfold w_X1_condition_L12
    rw [hI.2]
    refine i_f (fun u => ?_) ?_
    · rw [isW_1 (Wr_ne w1 a4)] at u
      exact absurd u.2 (by decide)
    · exact h0 a (by unfold pCond; exact pB_l ea) M1 _ f1 w1
  have gx := hg.1 _ _ hT.2.1 ex
  have e0 : pCond y n P i = contA y n P (n + 1) (n + 1) (fun _ _ _ => False) x.2 x.1 := by
    unfold pCond contA
    rw [pB_r ex]
    congr 1
    funext z
    congr 1
    funext w t c
    show z.2 w t c = (False ∨ z.2 w t c)
    rw [false_or]
  refine lp_ix (I := fun q s => (∃ k m j α β cnt, s.2.2.1 = nI cnt ∧ q = n - j + 1 ∧ BL s.1 (fun k => α w (k / 6) (k % 6)) ∧ BL s.2.1 (fun k => β w (k / 6) (k % 6)) ∧ lwF M s.2.2.2 ∧ TS s.2.2.2 y n j ∧ s.2.2.2.1 121 5 = -1 ∧ cnt ≤ j ∧ n < j + k ∧ n < j + m ∧ pCond y n P i = contA y n P k m α β j) ∨ (q = 0 ∧ ∃ a, pCond y n P i = .inl a ∧ lwF M s.2.2.2 ∧ Wr s.2.2.2 y n a)) (fun q s c hI hc => ?_) sk_F (n - x.1 + 1) _ (Or.inl ⟨n + 1, n + 1, x.1, fun _ _ _ => False, x.2, 0, rfl, rfl, BL_0, bl1, f1, t1, e1, Nat.zero_le _, by omega, by omega, e0⟩) (Nat.lt_of_le_of_lt (Nat.succ_le_succ (Nat.sub_le _ _)) (Nat.lt_of_le_of_lt (Nat.succ_le_succ n4) (by decide)))
  obtain ⟨s1, s2, s3, sM⟩ := s
  rcases hI with ⟨k, m, j, α, β, cnt, rfl, rfl, b1, b2, f2, t2, e2, i1, i2, i3, i4⟩ | ⟨rfl, a, ea, f2, w2⟩
  rotate_left
  · have a4 : a ≤ 400 := Nat.le_trans ((pCond_ok (y := y) hg).2 _ _ hT.2.1 ea) n4
    dsimp only at f2 w2
    unfold w_X1_condition_L12
    refine i_f (fun u => ?_) (h0 a ea sM _ f2 w2)
    have u2 := u.2
    dsimp only at u2
    rw [isW_1 (Wr_ne w2 a4)] at u2
    exact absurd u2 (by decide)
  dsimp only at b1 b2 f2 t2 e2
  have hj := t2.2.1
  have stop : ¬ isWd y n j 18 → ¬ isWd y n j 19 → Q (s1 ||| s2) sM := fun k1 k2 => by
    have : pCond y n P i = .inr (j, pOr' α β) := by
      rw [i4]
      unfold contA
      cases k with
      | zero => omega
      | succ k =>
        rw [pB_r (pAnd_n k1)]
        cases m with
        | zero => omega
        | succ m => exact pOr_n k2
    exact h1 _ this sM _ f2 t2 e2 (b1.or b2)
  unfold w_X1_condition_L12
  dsimp only
  rw [t2.1.1]
  by_cases q9 : cnt < n
  rotate_left
  · refine i_f (fun u => u.1 (nI_le (by omega) (by omega))) ?_
    have en : tkK y n j = 0 := (tk_end hj).mp (by have := tkA_le (y := y) hj; omega)
    exact stop (fun u => by rw [u.1] at en; exact absurd en (by decide)) (fun u => by rw [u.1] at en; exact absurd en (by decide))
  refine i_t ⟨nI_ge q9 (by omega), isW_0 e2⟩ (c6_is t2 ?_)
  have ewM : ∀ N : sk_M, lwF M N → N.1 126 4 = nI w := fun N hN => by rw [hN.1 126 (by decide) (by decide) (by decide)]; exact ew
  by_cases k1 : isWd y n j 18
  · refine i_t (by rw [bI_t k1]; decide) (c6_step t2 (fun M3 g3 t3 e3 => ?_))
    have f3 := f2.trans g3.lw
    have gt := wd_gt hj k1
    refine hA M3 _ _ (ewM M3 f3) t3 (e3.trans e2) (fun u eu M4 L4 f4 t4 e4 bl4 => sLet_i ?_) (fun a ea M4 L4 f4 w4 => sLet_i ?_)
    · have gu := hg.1 _ _ gt.2 eu
      rw [nI_1]
      cases k with
      | zero => omega
      | succ k =>
        refine hc (n - u.1 + 1) _ (by omega) (Or.inl ⟨k, m, u.1, α, pAnd' β u.2, cnt + 1, rfl, rfl, b1, b2.and bl4, f3.trans f4, t4, e4, by omega, by omega, by omega, ?_⟩)
        rw [i4]
        unfold contA
        rw [pAnd_y k1, pB_r eu]
    · refine hc 0 _ (by omega) (Or.inr ⟨rfl, a, ?_, f3.trans f4, w4⟩)
      rw [i4]
      unfold contA
      cases k with
      | zero => omega
      | succ k => rw [pAnd_y k1, pB_l ea]; rfl
  refine i_f (fun u => u (bI_f k1)) (c6_is t2 ?_)
  by_cases k2 : isWd y n j 19
  · refine i_t (by rw [bI_t k2]; decide) (c6_step t2 (fun M3 g3 t3 e3 => sLet_i ?_))
    have f3 := f2.trans g3.lw
    have gt := wd_gt hj k2
    have i5 : ∀ k', k = k' + 1 → ∀ m', m = m' + 1 → pCond y n P i = pB (P (tkE y n j)) (fun x => pB (pAnd y n P (n + 1) x.1 x.2) (fun z => pOr y n P m' z.1 (pOr' (pOr' α β) z.2))) := fun k' hk' m' hm' => by
      rw [i4]
      unfold contA
      rw [hk', hm', pB_r (pAnd_n k1)]
      exact pOr_y k2
    refine hA M3 _ _ (ewM M3 f3) t3 (e3.trans e2) (fun u eu M4 L4 f4 t4 e4 bl4 => ?_) (fun a ea M4 L4 f4 w4 => ?_)
    · have gu := hg.1 _ _ gt.2 eu
      rw [nI_1]
      cases k with
      | zero => omega
      | succ k =>
        cases m with
        | zero => omega
        | succ m =>
          refine hc (n - u.1 + 1) _ (by omega) (Or.inl ⟨n + 1, m, u.1, pOr' α β, u.2, cnt + 1, rfl, rfl, b1.or b2, bl4, f3.trans f4, t4, e4, by omega, by omega, by omega, ?_⟩)
          rw [i5 k rfl m rfl, pB_r eu]
          rfl
    · cases k with
      | zero => omega
      | succ k =>
        cases m with
        | zero => omega
        | succ m =>
          refine hc 0 _ (by omega) (Or.inr ⟨rfl, a, ?_, f3.trans f4, w4⟩)
          rw [i5 k rfl m rfl, pB_l ea]
  · refine i_f (fun u => u (bI_f k2)) ?_
    exact stop k1 k2
