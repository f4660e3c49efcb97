/-! the text of the bank, read purely -/
abbrev PR (α : Type) : Type := Nat ⊕ (Nat × α)
abbrev BS : Type := (Nat × Nat × Nat × Nat) × (Nat → Nat × Nat × Nat) × (Nat → Int32 × Int32 × Int32)
/-- numbers of weekdays; k: no more than these -/
noncomputable def pG (y : Nat → Nat) (n : Nat) : Nat → Nat → Nat → PR Nat
  | 0, i, _ => .inl (tkA y n i)
  | k + 1, i, g => by
    classical
    exact if isNu y n i ∧ nuV y n i ≤ 6 then (if tkK y n (tkE y n i) = 2 then pG y n k (tkE y n i) (g ||| 2 ^ nuV y n i) else .inr (tkE y n i, g ||| 2 ^ nuV y n i)) else .inl (tkA y n i)
theorem pG_f {y : Nat → Nat} {n k i g : Nat} (h : ¬ (isNu y n i ∧ nuV y n i ≤ 6)) : pG y n (k + 1) i g = .inl (tkA y n i) := by simp only [pG, h, if_false]
theorem pG_m {y : Nat → Nat} {n k i g : Nat} (h : isNu y n i ∧ nuV y n i ≤ 6) (h2 : tkK y n (tkE y n i) = 2) : pG y n (k + 1) i g = pG y n k (tkE y n i) (g ||| 2 ^ nuV y n i) := by simp only [pG, h, h2, if_true, and_self]
theorem pG_e {y : Nat → Nat} {n k i g : Nat} (h : isNu y n i ∧ nuV y n i ≤ 6) (h2 : ¬ tkK y n (tkE y n i) = 2) : pG y n (k + 1) i g = .inr (tkE y n i, g ||| 2 ^ nuV y n i) := by simp only [pG, h, h2, if_true, if_false, and_self]
noncomputable def iF {α : Type} (p : Prop) (a b : α) : α := by
  classical
  exact if p then a else b
theorem iF_t {α : Type} {p : Prop} {a b : α} (h : p) : iF p a b = a := by simp only [iF, h, if_true]
theorem iF_f {α : Type} {p : Prop} {a b : α} (h : ¬ p) : iF p a b = b := by simp only [iF, h, if_false]
def bV (B : BS) (c w g : Nat) : BS := ((B.1.1 + 1, B.1.2.1, B.1.2.2.1, B.1.2.2.2), (fun v => if v = B.1.1 then (c, w, g) else B.2.1 v), B.2.2)
def bP (B : BS) : BS := ((B.1.1, B.1.2.1 + 1, B.1.2.2.1, B.1.2.2.2), B.2.1, B.2.2)
def bC (B : BS) (x : Int32 × Int32 × Int32) : BS := ((B.1.1, B.1.2.1, B.1.2.2.1 + 1, B.1.2.2.2), B.2.1, fun c => if c = B.1.2.2.1 then x else B.2.2 c)
def bH (B : BS) (h : Nat) : BS := ((B.1.1, B.1.2.1, B.1.2.2.1, h), B.2.1, B.2.2)
def gdR (B : BS) (c w : Nat) : PR Nat → PR BS
  | .inl a => .inl a
  | .inr x => .inr (x.1, bV B c w x.2)
noncomputable def pVault (y : Nat → Nat) (n i : Nat) (B : BS) : PR BS :=
  iF (B.1.1 < 6)
    (iF (isFg y n (tkE y n i))
      (iF (isWd y n (tkE y n (tkE y n i)) 1)
        (iF (isNu y n (tkE y n (tkE y n (tkE y n i))) ∧ nuV y n (tkE y n (tkE y n (tkE y n i))) ≤ 999)
          (iF (isWd y n (tkE y n (tkE y n (tkE y n (tkE y n i)))) 2)
            (gdR B (fgV y n (tkE y n i)) (nuV y n (tkE y n (tkE y n (tkE y n i)))) (pG y n (n + 1) (tkE y n (tkE y n (tkE y n (tkE y n (tkE y n i))))) 0))
            (.inr (tkE y n (tkE y n (tkE y n (tkE y n i))), bV B (fgV y n (tkE y n i)) (nuV y n (tkE y n (tkE y n (tkE y n i)))) 0)))
          (.inl (tkA y n (tkE y n (tkE y n (tkE y n i))))))
        (.inl (tkA y n (tkE y n (tkE y n i)))))
      (.inl (tkA y n (tkE y n i))))
    (.inl (tkA y n i))
noncomputable def pCon (y : Nat → Nat) (n i : Nat) (o : Prop) (B : BS) : PR BS :=
  iF (B.1.2.2.1 < 12)
    (iF (isNu y n (tkE y n i) ∧ nuV y n (tkE y n i) < B.1.2.1)
      (iF (isNu y n (tkE y n (tkE y n i)) ∧ nuV y n (tkE y n (tkE y n i)) < B.1.1)
        (iF o
          (iF (isWd y n (tkE y n (tkE y n (tkE y n i))) 6)
            (iF (isNu y n (tkE y n (tkE y n (tkE y n (tkE y n i)))) ∧ nuV y n (tkE y n (tkE y n (tkE y n (tkE y n i)))) ≤ 999)
              (.inr (tkE y n (tkE y n (tkE y n (tkE y n (tkE y n i)))), bC B (nI (nuV y n (tkE y n i)), nI (nuV y n (tkE y n (tkE y n i))), nI (nuV y n (tkE y n (tkE y n (tkE y n (tkE y n i))))))))
              (.inl (tkA y n (tkE y n (tkE y n (tkE y n (tkE y n i)))))))
            (.inl (tkA y n (tkE y n (tkE y n (tkE y n i))))))
          (.inr (tkE y n (tkE y n (tkE y n i)), bC B (nI (nuV y n (tkE y n i)), nI (nuV y n (tkE y n (tkE y n i))), -1))))
        (.inl (tkA y n (tkE y n (tkE y n i)))))
      (.inl (tkA y n (tkE y n i))))
    (.inl (tkA y n i))
noncomputable def pLine (y : Nat → Nat) (n i : Nat) (B : BS) : PR BS :=
  iF (isWd y n i 0) (pVault y n i B)
    (iF (isWd y n i 3) (iF (B.1.2.1 < 6) (.inr (tkE y n i, bP B)) (.inl (tkA y n i)))
      (iF (isWd y n i 5) (pCon y n i False B)
        (iF (isWd y n i 4) (pCon y n i True B)
          (iF (isWd y n i 7) (iF (isNu y n (tkE y n i) ∧ nuV y n (tkE y n i) ≤ 100) (.inr (tkE y n (tkE y n i), bH B (nuV y n (tkE y n i)))) (.inl (tkA y n (tkE y n i)))) (.inl (tkA y n i))))))
noncomputable def pLines (y : Nat → Nat) (n : Nat) : Nat → Nat → BS → Nat ⊕ BS
  | 0, i, _ => .inl (tkA y n i)
  | k + 1, i, B => match pLine y n i B with
    | .inl a => .inl a
    | .inr x => iF (tkK y n x.1 = 0) (.inr x.2) (iF (tkK y n x.1 = 3 ∧ y (tkA y n x.1) = 59) (pLines y n k (tkE y n x.1) x.2) (.inl (tkA y n x.1)))
theorem pLines_l {y : Nat → Nat} {n k i a : Nat} {B : BS} (h : pLine y n i B = .inl a) : pLines y n (k + 1) i B = .inl a := by simp only [pLines, h]
theorem pLines_r {y : Nat → Nat} {n k i : Nat} {B : BS} {x : Nat × BS} (h : pLine y n i B = .inr x) : pLines y n (k + 1) i B = iF (tkK y n x.1 = 0) (.inr x.2) (iF (tkK y n x.1 = 3 ∧ y (tkA y n x.1) = 59) (pLines y n k (tkE y n x.1) x.2) (.inl (tkA y n x.1))) := by simp only [pLines, h]
noncomputable def pBank (y : Nat → Nat) (n : Nat) (B : BS) : Nat ⊕ BS := iF (tkK y n 0 = 0) (.inr B) (pLines y n 14 0 B)
/-- bounds of what is read -/
def bsB (B : BS) : Prop := B.1.1 ≤ 6 ∧ B.1.2.1 ≤ 6 ∧ B.1.2.2.1 ≤ 12 ∧ B.1.2.2.2 ≤ 100 ∧ (∀ v, v < B.1.1 → (B.2.1 v).1 < 216 ∧ (B.2.1 v).2.1 ≤ 999 ∧ (B.2.1 v).2.2 < 128) ∧ ∀ c, c < B.1.2.2.1 → ((B.2.2 c).2.2 = -1 ∨ ∃ d, d ≤ 999 ∧ (B.2.2 c).2.2 = nI d)
/-- the later holds the earlier -/
def bsX (A B : BS) : Prop := A.1.1 ≤ B.1.1 ∧ A.1.2.1 ≤ B.1.2.1 ∧ A.1.2.2.1 ≤ B.1.2.2.1 ∧ (∀ v, v < A.1.1 → B.2.1 v = A.2.1 v) ∧ ∀ c, c < A.1.2.2.1 → B.2.2 c = A.2.2 c
theorem bsX.refl {A : BS} : bsX A A := ⟨Nat.le_refl _, Nat.le_refl _, Nat.le_refl _, fun _ _ => rfl, fun _ _ => rfl⟩
theorem bsX.trans {A B C : BS} (h : bsX A B) (g : bsX B C) : bsX A C := ⟨Nat.le_trans h.1 g.1, Nat.le_trans h.2.1 g.2.1, Nat.le_trans h.2.2.1 g.2.2.1, fun v hv => (g.2.2.2.1 v (Nat.lt_of_lt_of_le hv h.1)).trans (h.2.2.2.1 v hv), fun c hc => (g.2.2.2.2 c (Nat.lt_of_lt_of_le hc h.2.2.1)).trans (h.2.2.2.2 c hc)⟩
theorem bV_X {B : BS} {c w g : Nat} : bsX B (bV B c w g) := ⟨Nat.le_succ _, Nat.le_refl _, Nat.le_refl _, fun v hv => if_neg (by omega), fun _ _ => rfl⟩
theorem bP_X {B : BS} : bsX B (bP B) := ⟨Nat.le_refl _, Nat.le_succ _, Nat.le_refl _, fun _ _ => rfl, fun _ _ => rfl⟩
theorem bC_X {B : BS} {x : Int32 × Int32 × Int32} : bsX B (bC B x) := ⟨Nat.le_refl _, Nat.le_refl _, Nat.le_succ _, fun _ _ => rfl, fun c hc => if_neg (by omega)⟩
theorem bH_X {B : BS} {h : Nat} : bsX B (bH B h) := ⟨Nat.le_refl _, Nat.le_refl _, Nat.le_refl _, fun _ _ => rfl, fun _ _ => rfl⟩
theorem bV_B {B : BS} {c w g : Nat} (h : bsB B) (h6 : B.1.1 < 6) (hc : c < 216) (hw : w ≤ 999) (hg : g < 128) : bsB (bV B c w g) := by
  obtain ⟨h1, h2, h3, h4, h5, h7⟩ := h
  refine ⟨by show B.1.1 + 1 ≤ 6; omega, h2, h3, h4, fun v hv => ?_, h7⟩
  show (if v = B.1.1 then (c, w, g) else B.2.1 v).1 < 216 ∧ (if v = B.1.1 then (c, w, g) else B.2.1 v).2.1 ≤ 999 ∧ (if v = B.1.1 then (c, w, g) else B.2.1 v).2.2 < 128
  by_cases z : v = B.1.1
  · rw [if_pos z]; exact ⟨hc, hw, hg⟩
  · rw [if_neg z]
    have hv' : v < B.1.1 + 1 := hv
    exact h5 v (by omega)
theorem bP_B {B : BS} (h : bsB B) (h6 : B.1.2.1 < 6) : bsB (bP B) := ⟨h.1, by show B.1.2.1 + 1 ≤ 6; omega, h.2.2.1, h.2.2.2.1, h.2.2.2.2.1, h.2.2.2.2.2⟩
theorem bC_B {B : BS} {x : Int32 × Int32 × Int32} (h : bsB B) (h6 : B.1.2.2.1 < 12) (hx : x.2.2 = -1 ∨ ∃ d, d ≤ 999 ∧ x.2.2 = nI d) : bsB (bC B x) := by
  obtain ⟨h1, h2, h3, h4, h5, h7⟩ := h
  refine ⟨h1, h2, by show B.1.2.2.1 + 1 ≤ 12; omega, h4, h5, fun c hc => ?_⟩
  show (if c = B.1.2.2.1 then x else B.2.2 c).2.2 = -1 ∨ ∃ d, d ≤ 999 ∧ (if c = B.1.2.2.1 then x else B.2.2 c).2.2 = nI d
  by_cases z : c = B.1.2.2.1
  · rw [if_pos z]; exact hx
  · rw [if_neg z]
    have hc' : c < B.1.2.2.1 + 1 := hc
    exact h7 c (by omega)
theorem bH_B {B : BS} {x : Nat} (h : bsB B) (hx : x ≤ 100) : bsB (bH B x) := ⟨h.1, h.2.1, h.2.2.1, hx, h.2.2.2.2.1, h.2.2.2.2.2⟩
/-- a thing takes room -/
theorem tkE_gt {y : Nat → Nat} {n i : Nat} (h : i ≤ n) (hk : tkK y n i ≠ 0) : i < tkE y n i ∧ tkE y n i ≤ n := by
  obtain ⟨a1, a2, a3, a4, a5, a6⟩ := tk_le (y := y) h
  have na : ¬ n ≤ tkA y n i := fun z => hk (a4.mpr z)
  refine ⟨?_, a3⟩
  by_cases z1 : isLe y (tkA y n i)
  · have e := (lE_wd (y := y) h)
    have k1 := (tk1 na z1).1
    have := e.1.mp k1
    rw [e.2 k1]
    omega
  · by_cases z2 : isDi y (tkA y n i)
    · have e := (dE_di (y := y) h)
      have k1 := (tk2 na z1 z2).1
      have := e.1.mp k1
      rw [e.2 k1]
      omega
    · rw [(tk3 na z1 z2).2]
      omega
theorem wd_gt {y : Nat → Nat} {n i j : Nat} (h : i ≤ n) (hw : isWd y n i j) : i < tkE y n i ∧ tkE y n i ≤ n := tkE_gt h (by rw [hw.1]; decide)
theorem nu_gt {y : Nat → Nat} {n i : Nat} (h : i ≤ n) (hw : isNu y n i) : i < tkE y n i ∧ tkE y n i ≤ n := tkE_gt h (by rw [hw.1]; decide)
theorem fg_gt {y : Nat → Nat} {n i : Nat} (h : i ≤ n) (hw : isFg y n i) : i < tkE y n i ∧ tkE y n i ≤ n := tkE_gt h (by rw [hw.1]; decide)
theorem sg_gt {y : Nat → Nat} {n i : Nat} (h : i ≤ n) (hw : tkK y n i = 3) : i < tkE y n i ∧ tkE y n i ≤ n := tkE_gt h (by rw [hw]; decide)
theorem nuV_lt {y : Nat → Nat} {n i : Nat} (hi : i ≤ n) (h : isNu y n i) : nuV y n i < 1000 := by
  have a := (tk_le (y := y) hi).2.2.2.2.1 h.1
  have := nmP_lt (y := y) (a := tkA y n i) (tkE y n i - tkA y n i) (fun q hq => a (tkA y n i + q) (by omega) (by omega)) (tkE y n i - tkA y n i) (Nat.le_refl _)
  have h3 : 10 ^ (tkE y n i - tkA y n i) ≤ 10 ^ 3 := Nat.pow_le_pow_right (by decide) h.2
  unfold nuV
  omega
theorem fgV_lt {y : Nat → Nat} {n i : Nat} (h : isFg y n i) : fgV y n i < 216 := fgP_lt 3 h.2.2 3 (Nat.le_refl _)
theorem bit7 {g k : Nat} (hg : g < 128) (hk : k ≤ 6) : g ||| 2 ^ k < 128 := Nat.or_lt_two_pow (n := 7) hg (Nat.pow_lt_pow_right (by decide) (by omega))
theorem pG_lt {y : Nat → Nat} {n : Nat} : ∀ k i g, g < 128 → i ≤ n → ∀ x, pG y n k i g = .inr x → x.2 < 128 ∧ i < x.1 ∧ x.1 ≤ n
  | 0, i, g, _, _, x, h => by simp only [pG] at h; exact absurd h (by simp)
  | k + 1, i, g, hg, hi, x, h => by
    by_cases z : isNu y n i ∧ nuV y n i ≤ 6
    · have b := bit7 hg z.2
      have gt := nu_gt hi z.1
      by_cases w : tkK y n (tkE y n i) = 2
      · rw [pG_m z w] at h
        have := pG_lt k (tkE y n i) _ b gt.2 x h
        exact ⟨this.1, by omega, this.2.2⟩
      · rw [pG_e z w] at h
        have e := (Sum.inr.inj h).symm
        rw [e]
        exact ⟨b, gt.1, gt.2⟩
    · rw [pG_f z] at h; exact absurd h (by simp)
