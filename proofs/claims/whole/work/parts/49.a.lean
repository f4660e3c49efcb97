/-! the text of the law, read purely -/
abbrev FN : Type := Nat → Nat → Nat → Nat
abbrev FP : Type := Nat → Nat → Nat → Prop
def pB {α β : Type} (r : PR α) (f : Nat × α → PR β) : PR β := match r with
  | .inl a => .inl a
  | .inr x => f x
theorem pB_l {α β : Type} {r : PR α} {f : Nat × α → PR β} {a : Nat} (h : r = .inl a) : pB r f = .inl a := by rw [h]; rfl
theorem pB_r {α β : Type} {r : PR α} {f : Nat × α → PR β} {x : Nat × α} (h : r = .inr x) : pB r f = f x := by rw [h]; rfl
def apt (t c : Nat) : Nat := min (if t ≤ c then c - t else t - c) (6 - (if t ≤ c then c - t else t - c))
noncomputable def pPart (y : Nat → Nat) (n i : Nat) : PR FN :=
  iF (isWd y n i 15) (.inr (tkE y n i, fun _ t _ => t))
    (iF (isWd y n i 16) (.inr (tkE y n i, fun _ _ c => c))
      (iF (isWd y n i 17) (.inr (tkE y n i, fun _ t c => apt t c))
        (iF (isWd y n i 14) (.inr (tkE y n i, fun w _ _ => w))
          (iF (isNu y n i ∧ nuV y n i ≤ 999) (.inr (tkE y n i, fun _ _ _ => nuV y n i)) (.inl (tkA y n i))))))
def fadd (f g : FN) : FN := fun w t c => f w t c + g w t c
def sgA (y : Nat → Nat) (n i c : Nat) : Prop := tkK y n i = 3 ∧ y (tkA y n i) = c
noncomputable def pSumL (y : Nat → Nat) (n : Nat) : Nat → Nat → FN → PR FN
  | 0, _, _ => .inl 0
  | k + 1, i, f => iF (sgA y n i 43) (pB (pPart y n (tkE y n i)) (fun x => pSumL y n k x.1 (fadd f x.2))) (.inr (i, f))
theorem pSumL_y {y : Nat → Nat} {n k i : Nat} {f : FN} (h : sgA y n i 43) : pSumL y n (k + 1) i f = pB (pPart y n (tkE y n i)) (fun x => pSumL y n k x.1 (fadd f x.2)) := by
  rw [pSumL, iF_t h]
theorem pSumL_n {y : Nat → Nat} {n k i : Nat} {f : FN} (h : ¬ sgA y n i 43) : pSumL y n (k + 1) i f = .inr (i, f) := by
  rw [pSumL, iF_f h]
noncomputable def pSum (y : Nat → Nat) (n i : Nat) : PR FN := pB (pPart y n i) (fun x => pSumL y n (n + 1) x.1 x.2)
def pAnd' (φ ψ : FP) : FP := fun w t c => φ w t c ∧ ψ w t c
def pOr' (φ ψ : FP) : FP := fun w t c => φ w t c ∨ ψ w t c
def pNot' (φ : FP) : FP := fun w t c => ¬ φ w t c
noncomputable def pAnd (y : Nat → Nat) (n : Nat) (A : Nat → PR FP) : Nat → Nat → FP → PR FP
  | 0, _, _ => .inl 0
  | k + 1, i, φ => iF (isWd y n i 18) (pB (A (tkE y n i)) (fun x => pAnd y n A k x.1 (pAnd' φ x.2))) (.inr (i, φ))
theorem pAnd_y {y : Nat → Nat} {n k i : Nat} {A : Nat → PR FP} {φ : FP} (h : isWd y n i 18) : pAnd y n A (k + 1) i φ = pB (A (tkE y n i)) (fun x => pAnd y n A k x.1 (pAnd' φ x.2)) := by
  rw [pAnd, iF_t h]
theorem pAnd_n {y : Nat → Nat} {n k i : Nat} {A : Nat → PR FP} {φ : FP} (h : ¬ isWd y n i 18) : pAnd y n A (k + 1) i φ = .inr (i, φ) := by
  rw [pAnd, iF_f h]
noncomputable def pOr (y : Nat → Nat) (n : Nat) (A : Nat → PR FP) : Nat → Nat → FP → PR FP
  | 0, _, _ => .inl 0
  | k + 1, i, φ => iF (isWd y n i 19) (pB (A (tkE y n i)) (fun x => pB (pAnd y n A (n + 1) x.1 x.2) (fun z => pOr y n A k z.1 (pOr' φ z.2)))) (.inr (i, φ))
theorem pOr_y {y : Nat → Nat} {n k i : Nat} {A : Nat → PR FP} {φ : FP} (h : isWd y n i 19) : pOr y n A (k + 1) i φ = pB (A (tkE y n i)) (fun x => pB (pAnd y n A (n + 1) x.1 x.2) (fun z => pOr y n A k z.1 (pOr' φ z.2))) := by
  rw [pOr, iF_t h]
theorem pOr_n {y : Nat → Nat} {n k i : Nat} {A : Nat → PR FP} {φ : FP} (h : ¬ isWd y n i 19) : pOr y n A (k + 1) i φ = .inr (i, φ) := by
  rw [pOr, iF_f h]
noncomputable def pCond (y : Nat → Nat) (n : Nat) (A : Nat → PR FP) (i : Nat) : PR FP := pB (A i) (fun x => pB (pAnd y n A (n + 1) x.1 x.2) (fun z => pOr y n A (n + 1) z.1 z.2))
noncomputable def pNest (y : Nat → Nat) (n : Nat) (A : Nat → PR FP) (i : Nat) : PR FP :=
  iF (isWd y n i 11) (pB (A (tkE y n i)) (fun x => .inr (x.1, pNot' x.2)))
    (pB (pCond y n A (tkE y n i)) (fun x => iF (sgA y n x.1 41) (.inr (tkE y n x.1, x.2)) (.inl (tkA y n x.1))))
def pLess (f g : FN) : FP := fun w t c => f w t c < g w t c
noncomputable def pAt (y : Nat → Nat) (n : Nat) (N : Nat → PR FP) (i : Nat) : PR FP :=
  iF (isWd y n i 11 ∨ sgA y n i 40) (N i)
    (iF (isWd y n i 12) (.inr (tkE y n i, fun _ t c => t = c))
      (iF (isWd y n i 13) (.inr (tkE y n i, fun _ t c => apt t c = 1))
        (pB (pSum y n i) (fun x =>
          iF (sgA y n x.1 60) (pB (pSum y n (tkE y n x.1)) (fun z => .inr (z.1, pLess x.2 z.2)))
            (iF (sgA y n x.1 62) (pB (pSum y n (tkE y n x.1)) (fun z => .inr (z.1, pLess z.2 x.2))) (.inl (tkA y n x.1)))))))
noncomputable def pAtom (y : Nat → Nat) (n : Nat) : Nat → Nat → PR FP
  | 0 => pAt y n (fun i => .inl (tkA y n i))
  | r + 1 => pAt y n (pNest y n (pAtom y n r))
/-- where things end -/
theorem pPart_ok {y : Nat → Nat} {n i : Nat} {x : Nat × FN} (hi : i ≤ n) (h : pPart y n i = .inr x) : i < x.1 ∧ x.1 ≤ n := by
  unfold pPart at h
  by_cases k1 : isWd y n i 15
  · rw [iF_t k1] at h; rw [← Sum.inr.inj h]; exact wd_gt hi k1
  by_cases k2 : isWd y n i 16
  · rw [iF_f k1, iF_t k2] at h; rw [← Sum.inr.inj h]; exact wd_gt hi k2
  by_cases k3 : isWd y n i 17
  · rw [iF_f k1, iF_f k2, iF_t k3] at h; rw [← Sum.inr.inj h]; exact wd_gt hi k3
  by_cases k4 : isWd y n i 14
  · rw [iF_f k1, iF_f k2, iF_f k3, iF_t k4] at h; rw [← Sum.inr.inj h]; exact wd_gt hi k4
  by_cases k5 : isNu y n i ∧ nuV y n i ≤ 999
  · rw [iF_f k1, iF_f k2, iF_f k3, iF_f k4, iF_t k5] at h; rw [← Sum.inr.inj h]; exact nu_gt hi k5.1
  · rw [iF_f k1, iF_f k2, iF_f k3, iF_f k4, iF_f k5] at h; exact absurd h (by simp)
theorem pPart_l {y : Nat → Nat} {n i a : Nat} (h : pPart y n i = .inl a) : a = tkA y n i := by
  unfold pPart at h
  by_cases k1 : isWd y n i 15
  · rw [iF_t k1] at h; exact absurd h (by simp)
  by_cases k2 : isWd y n i 16
  · rw [iF_f k1, iF_t k2] at h; exact absurd h (by simp)
  by_cases k3 : isWd y n i 17
  · rw [iF_f k1, iF_f k2, iF_t k3] at h; exact absurd h (by simp)
  by_cases k4 : isWd y n i 14
  · rw [iF_f k1, iF_f k2, iF_f k3, iF_t k4] at h; exact absurd h (by simp)
  by_cases k5 : isNu y n i ∧ nuV y n i ≤ 999
  · rw [iF_f k1, iF_f k2, iF_f k3, iF_f k4, iF_t k5] at h; exact absurd h (by simp)
  · rw [iF_f k1, iF_f k2, iF_f k3, iF_f k4, iF_f k5] at h; exact (Sum.inl.inj h).symm
/-! bits of a row of 36 -/
def BL (L : Int64) (ψ : Nat → Prop) : Prop := ∀ k, k < 64 → (lb L k = true ↔ k < 36 ∧ ψ k)
theorem BL.and {L L' : Int64} {ψ ψ' : Nat → Prop} (h : BL L ψ) (h' : BL L' ψ') : BL (L &&& L') (fun k => ψ k ∧ ψ' k) := fun k hk => by
  rw [lb_and, Bool.and_eq_true, h k hk, h' k hk]
  exact ⟨fun z => ⟨z.1.1, z.1.2, z.2.2⟩, fun z => ⟨⟨z.1, z.2.1⟩, z.1, z.2.2⟩⟩
theorem BL.or {L L' : Int64} {ψ ψ' : Nat → Prop} (h : BL L ψ) (h' : BL L' ψ') : BL (L ||| L') (fun k => ψ k ∨ ψ' k) := fun k hk => by
  rw [lb_or, Bool.or_eq_true, h k hk, h' k hk]
  exact ⟨fun z => z.elim (fun w => ⟨w.1, Or.inl w.2⟩) (fun w => ⟨w.1, Or.inr w.2⟩), fun z => z.2.elim (fun w => Or.inl ⟨z.1, w⟩) (fun w => Or.inr ⟨z.1, w⟩)⟩
theorem lb_36 : ∀ i, i < 64 → lb 68719476735 i = decide (i < 36) := by decide +kernel
theorem BL.not {L : Int64} {ψ : Nat → Prop} (h : BL L ψ) : BL ((68719476735 : Int64) &&& (L ^^^ (-1 : Int64))) (fun k => ¬ ψ k) := fun k hk => by
  rw [lb_and, lb_xor, lb_36 k hk, lb_m1 k hk, Bool.and_eq_true, decide_eq_true_iff, Bool.xor_true, Bool.not_eq_true', ← Bool.not_eq_true, h k hk]
  exact ⟨fun z => ⟨z.1, fun w => z.2 ⟨z.1, w⟩⟩, fun z => ⟨z.1, fun w => z.2 w.2⟩⟩
theorem BL_all : BL (68719476735 : Int64) (fun _ => True) := fun k hk => by
  rw [lb_36 k hk, decide_eq_true_iff]
  exact ⟨fun z => ⟨z, trivial⟩, fun z => z.1⟩
theorem BL_0 : BL (0 : Int64) (fun _ => False) := fun k _ => by
  rw [lb_0]
  exact ⟨fun z => absurd z (by decide), fun z => z.2.elim⟩
theorem BL.cg {L : Int64} {ψ ψ' : Nat → Prop} (h : BL L ψ) (e : ∀ k, k < 36 → (ψ k ↔ ψ' k)) : BL L ψ' := fun k hk => by
  rw [h k hk]
  exact ⟨fun z => ⟨z.1, (e k z.1).mp z.2⟩, fun z => ⟨z.1, (e k z.1).mpr z.2⟩⟩
/-- bits laid one by one -/
theorem BL_set {L : Int64} {ψ : Nat → Prop} {i : Nat} (hi : i < 36) (h : ∀ k, k < 64 → (lb L k = true ↔ k < i ∧ ψ k)) (hp : ψ i) : ∀ k, k < 64 → (lb (L ||| ((1 : Int64) <<< ((nI i).toInt64 &&& 63))) k = true ↔ k < i + 1 ∧ ψ k) := fun k hk => by
  rw [lb_or, lb_one (by omega), Bool.or_eq_true, h k hk, decide_eq_true_iff]
  constructor
  · rintro (z | z)
    · exact ⟨by omega, z.2⟩
    · exact ⟨by omega, by rw [z]; exact hp⟩
  · rintro ⟨z1, z2⟩
    by_cases w : k = i
    · exact Or.inr w
    · exact Or.inl ⟨by omega, z2⟩
theorem BL_skip {L : Int64} {ψ : Nat → Prop} {i : Nat} (h : ∀ k, k < 64 → (lb L k = true ↔ k < i ∧ ψ k)) (hp : ¬ ψ i) : ∀ k, k < 64 → (lb L k = true ↔ k < i + 1 ∧ ψ k) := fun k hk => by
  rw [h k hk]
  constructor
  · exact fun z => ⟨by omega, z.2⟩
  · rintro ⟨z1, z2⟩
    have : k ≠ i := fun w => hp (by rw [← w]; exact z2)
    exact ⟨by omega, z2⟩
theorem apt_1 : ∀ k, k < 36 → f_X1_apart (nI k) = nI (apt (k / 6) (k % 6)) := by decide +kernel
theorem apt_8 : ∀ t, t < 6 → ∀ c, c < 6 → f_X8_apartOf (nI t) (nI c) = nI (apt t c) ∧ apt t c ≤ 3 ∧ (apt t c = 0 ↔ t = c) := by decide +kernel
theorem c1_whereApart {M : sk_M} {Q : Int64 → Prop} {m : Nat} (hm : m < 10) (h : ∀ L, BL L (fun k => apt (k / 6) (k % 6) = m) → Q L) : w_X1_whereApart (nI m) M Q := by
  unfold w_X1_whereApart
  refine lp_inv (fun i s => s.2 = nI i ∧ ∀ k, k < 64 → (lb s.1 k = true ↔ k < i ∧ apt (k / 6) (k % 6) = m)) 36 (by decide) ⟨rfl, fun k _ => ⟨fun z => by rw [lb_0] at z; exact absurd z (by decide), fun z => absurd z.1 (by omega)⟩⟩ (fun i hi s c hI hc => ?_) (fun s c hI => ?_)
  · obtain ⟨s1, s2⟩ := s
    obtain ⟨rfl, i1⟩ := hI
    dsimp only at i1
    unfold w_X1_whereApart_L4
    refine i_t (nI_ge hi (by decide)) ?_
    dsimp only
    rw [apt_1 i hi, nI_1]
    have a3 := (apt_8 (i / 6) (by omega) (i % 6) (by omega)).2.1
    refine i_b (fun z => sLet_i ?_) (fun z => ?_)
    · exact hc _ ⟨rfl, BL_set hi i1 ((nI_eq (by omega) (by omega)).mp z)⟩
    · exact hc _ ⟨rfl, BL_skip i1 (fun w => z (by rw [w]))⟩
  · obtain ⟨s1, s2⟩ := s
    obtain ⟨rfl, i1⟩ := hI
    unfold w_X1_whereApart_L4
    exact i_f (nn (n := 36) (by decide)) (h s1 i1)
theorem c1_whereLess {M : sk_M} {Q : Int64 → Prop} {c0 c1 : Nat} {f g : Nat → Nat} (hf : ∀ k, k < 36 → M.1 c0 k = nI (f k) ∧ f k < 2 ^ 31) (hg : ∀ k, k < 36 → M.1 c1 k = nI (g k) ∧ g k < 2 ^ 31) (h : ∀ L, BL L (fun k => f k < g k) → Q L) : w_X1_whereLess c0 c1 M Q := by
  unfold w_X1_whereLess
  refine lp_inv (fun i s => s.2 = nI i ∧ ∀ k, k < 64 → (lb s.1 k = true ↔ k < i ∧ f k < g k)) 36 (by decide) ⟨rfl, fun k _ => ⟨fun z => by rw [lb_0] at z; exact absurd z (by decide), fun z => absurd z.1 (by omega)⟩⟩ (fun i hi s c hI hc => ?_) (fun s c hI => ?_)
  · obtain ⟨s1, s2⟩ := s
    obtain ⟨rfl, i1⟩ := hI
    dsimp only at i1
    unfold w_X1_whereLess_L5
    refine i_t (nI_ge hi (by decide)) ?_
    dsimp only
    obtain ⟨f1, f2⟩ := hf i hi
    obtain ⟨g1, g2⟩ := hg i hi
    rw [nI_clamp (by omega), f1, g1, nI_1]
    refine ⟨vp_in_nI hi (by decide), vp_in_nI hi (by decide), i_b (fun z => sLet_i ?_) (fun z => ?_)⟩
    · refine hc _ ⟨rfl, BL_set hi i1 (Classical.byContradiction fun w => z (nI_le (by omega) f2))⟩
    · have := (nI_leI g2 f2).mp (Classical.not_not.mp z)
      exact hc _ ⟨rfl, BL_skip i1 (by omega)⟩
  · obtain ⟨s1, s2⟩ := s
    obtain ⟨rfl, i1⟩ := hI
    unfold w_X1_whereLess_L5
    exact i_f (nn (n := 36) (by decide)) (h s1 i1)
