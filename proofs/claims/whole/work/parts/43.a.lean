/-! the turning that parts most: what is counted -/
noncomputable def ctP (P : Nat → Prop) : Nat → Nat
  | 0 => 0
  | n + 1 => ctP P n + ind (P n)
theorem ctP_cg {P P' : Nat → Prop} : ∀ n, (∀ c, c < n → (P c ↔ P' c)) → ctP P n = ctP P' n
  | 0, _ => rfl
  | n + 1, h => by
    simp only [ctP]
    rw [ctP_cg n (fun c hc => h c (by omega)), ind_cg (h n (by omega))]
theorem ctP_rm {P : Nat → Prop} {t : Nat} : ∀ n, ctP (fun c => P c ∧ c ≠ t) n + ind (t < n ∧ P t) = ctP P n
  | 0 => by rw [ind_f (fun z => absurd z.1 (by omega))]; rfl
  | n + 1 => by
    have ih := ctP_rm (P := P) (t := t) n
    simp only [ctP]
    by_cases z : n = t
    · subst z
      rw [ind_f (P := n < n ∧ P n) (fun y => absurd y.1 (by omega))] at ih
      rw [ind_f (P := P n ∧ n ≠ n) (fun y => y.2 rfl), ind_cg (P := n < n + 1 ∧ P n) (P' := P n) ⟨fun y => y.2, fun y => ⟨by omega, y⟩⟩]
      omega
    · rw [ind_cg (P := P n ∧ n ≠ t) (P' := P n) ⟨fun y => y.1, fun y => ⟨y, z⟩⟩, ind_cg (P := t < n + 1 ∧ P t) (P' := t < n ∧ P t) ⟨fun y => ⟨by omega, y.2⟩, fun y => ⟨by omega, y.2⟩⟩]
      omega
theorem ctP_pos {P : Nat → Prop} : ∀ n, 0 < ctP P n → ∃ c, c < n ∧ P c
  | 0, h => absurd h (by simp [ctP])
  | n + 1, h => by
    simp only [ctP] at h
    by_cases z : P n
    · exact ⟨n, by omega, z⟩
    · rw [ind_f z] at h
      obtain ⟨c, hc, e⟩ := ctP_pos n h
      exact ⟨c, by omega, e⟩
theorem ctP_in {P : Nat → Prop} {c : Nat} : ∀ n, c < n → P c → 0 < ctP P n
  | 0, h, _ => absurd h (by omega)
  | n + 1, h, hp => by
    simp only [ctP]
    by_cases z : c = n
    · subst z; rw [ind_t hp]; omega
    · have := ctP_in n (by omega) hp
      omega
theorem ctP_le (P : Nat → Prop) : ∀ n, ctP P n ≤ n
  | 0 => Nat.le_refl 0
  | n + 1 => by
    have := ctP_le P n
    simp only [ctP]
    by_cases z : P n
    · rw [ind_t z]; omega
    · rw [ind_f z]; omega
theorem pD_ct {f : Nat → Int32} {t s : Nat} {S : Nat → Prop} : ∀ n, (pD f t S n).1 s = ctP (fun c => (S c ∧ slN f t c = s) ∧ c ≠ t) n
  | 0 => rfl
  | n + 1 => by
    have ih := pD_ct (f := f) (t := t) (s := s) (S := S) n
    simp only [ctP]
    by_cases q : S n ∧ n ≠ t
    · rw [pD_t q]
      show (if s = slN f t n then _ else _) = _
      by_cases z : s = slN f t n
      · rw [if_pos z, ind_t ⟨⟨q.1, z.symm⟩, q.2⟩, ← ih, z]
      · rw [if_neg z, ind_f (fun y => z y.1.2.symm), ← ih]; rfl
    · rw [pD_f q, ind_f (fun y => q ⟨y.1.1, y.2⟩), ← ih]; rfl
theorem pD_max {f : Nat → Int32} {t : Nat} {S : Nat → Prop} : ∀ n, (∀ s, (pD f t S n).1 s ≤ (pD f t S n).2.2) ∧ ((pD f t S n).2.2 = 0 ∨ ∃ s, (pD f t S n).1 s = (pD f t S n).2.2)
  | 0 => ⟨fun _ => Nat.le_refl 0, Or.inl rfl⟩
  | n + 1 => by
    obtain ⟨a, b⟩ := pD_max (f := f) (t := t) (S := S) n
    by_cases q : S n ∧ n ≠ t
    · rw [pD_t q]
      generalize pD f t S n = m at a b ⊢
      have e1 : bmp m.1 (slN f t n) (slN f t n) = m.1 (slN f t n) + 1 := if_pos rfl
      refine ⟨fun s => ?_, Or.inr ?_⟩
      · have := a s
        dsimp only
        by_cases z : s = slN f t n
        · rw [z, e1]; omega
        · rw [show bmp m.1 (slN f t n) s = m.1 s from if_neg z]; omega
      · by_cases z : m.2.2 < m.1 (slN f t n) + 1
        · refine ⟨slN f t n, ?_⟩
          dsimp only
          rw [e1]
          omega
        · rcases b with b | ⟨s, b⟩
          · omega
          · refine ⟨s, ?_⟩
            have hs : s ≠ slN f t n := fun e => by rw [e] at b; omega
            dsimp only
            rw [show bmp m.1 (slN f t n) s = m.1 s from if_neg hs]
            omega
    · rw [pD_f q]; exact ⟨a, b⟩
/-- the greatest part of S by t -/
noncomputable def gP (f : Nat → Int32) (S : Nat → Prop) (t : Nat) : Nat := (trF f t (enl S 216)).2.2
theorem gP_eq {f : Nat → Int32} {S : Nat → Prop} {t : Nat} : gP f S t = max (pD f t S 216).2.2 (owN S t 216) := by
  unfold gP
  rw [tr_pD]
theorem owN_le {S : Nat → Prop} {t n : Nat} : owN S t n ≤ 1 := by
  by_cases q : t < n ∧ S t
  · rw [owN_t q]; exact Nat.le_refl _
  · rw [owN_f q]; omega
theorem gP_le {f : Nat → Int32} {S : Nat → Prop} {t : Nat} : gP f S t ≤ 216 := by
  have := (pD_le (f := f) (t := t) (S := S) 216).2.2
  have := owN_le (S := S) (t := t) (n := 216)
  rw [gP_eq]
  omega
theorem gP_pos {f : Nat → Int32} {S : Nat → Prop} {t b : Nat} (ht : t < 216) (hb : b < 216) (h : S b) : 1 ≤ gP f S t := by
  rw [gP_eq]
  by_cases z : b = t
  · subst z
    rw [owN_t ⟨hb, h⟩]
    omega
  · have h1 : 0 < (pD f t S 216).1 (slN f t b) := by
      rw [pD_ct]
      exact ctP_in 216 hb ⟨⟨h, rfl⟩, z⟩
    have := (pD_max (f := f) (t := t) (S := S) 216).1 (slN f t b)
    omega
/-- parts counted all over: the greatest, and how many as great -/
def PA (n : Nat → Nat) (g gp : Nat) : Prop := (∀ s, n s ≤ g) ∧ (0 < g → (∃ s, n s = g) ∧ 1 ≤ gp ∧ (gp = 1 → ∀ s s', n s = g → n s' = g → s = s') ∧ (2 ≤ gp → ∃ s s', s ≠ s' ∧ n s = g ∧ n s' = g))
theorem PA_0 : PA (fun _ => 0) 0 0 := ⟨fun _ => Nat.le_refl 0, fun h => absurd h (by omega)⟩
theorem bmp_e {n : Nat → Nat} {s : Nat} : bmp n s s = n s + 1 := if_pos rfl
theorem bmp_n {n : Nat → Nat} {s j : Nat} (h : j ≠ s) : bmp n s j = n j := if_neg h
theorem PA_gt {n : Nat → Nat} {g gp s : Nat} (h : PA n g gp) (hs : g < n s + 1) : PA (bmp n s) (n s + 1) 1 := by
  obtain ⟨a, b⟩ := h
  have u : ∀ x, x ≠ s → bmp n s x < n s + 1 := fun x hx => by
    rw [bmp_n hx]
    have := a x
    omega
  refine ⟨fun x => ?_, fun _ => ⟨⟨s, bmp_e⟩, Nat.le_refl 1, fun _ x x' e e' => ?_, fun z => absurd z (by omega)⟩⟩
  · by_cases z : x = s
    · rw [z, bmp_e]; exact Nat.le_refl _
    · exact Nat.le_of_lt (u x z)
  · have hx : x = s := Classical.byContradiction fun z => by have := u x z; omega
    have hx' : x' = s := Classical.byContradiction fun z => by have := u x' z; omega
    rw [hx, hx']
theorem PA_eq {n : Nat → Nat} {g gp s : Nat} (h : PA n g gp) (hs : n s + 1 = g) : PA (bmp n s) g (gp + 1) := by
  obtain ⟨a, b⟩ := h
  obtain ⟨⟨x, hx⟩, b2, b3, b4⟩ := b (by omega)
  have xs : x ≠ s := fun e => by rw [e] at hx; omega
  refine ⟨fun y => ?_, fun _ => ⟨⟨s, by rw [bmp_e, hs]⟩, by omega, fun z => absurd z (by omega), fun _ => ⟨x, s, xs, by rw [bmp_n xs, hx], by rw [bmp_e, hs]⟩⟩⟩
  by_cases z : y = s
  · rw [z, bmp_e, hs]; exact Nat.le_refl _
  · rw [bmp_n z]; exact a y
theorem PA_lt {n : Nat → Nat} {g gp s : Nat} (h : PA n g gp) (hs : n s + 1 < g) : PA (bmp n s) g gp := by
  obtain ⟨a, b⟩ := h
  obtain ⟨⟨x, hx⟩, b2, b3, b4⟩ := b (by omega)
  have ne : ∀ y, n y = g → y ≠ s := fun y hy e => by rw [e] at hy; omega
  have ne' : ∀ y, bmp n s y = g → y ≠ s := fun y hy e => by rw [e, bmp_e] at hy; omega
  refine ⟨fun y => ?_, fun _ => ⟨⟨x, by rw [bmp_n (ne x hx), hx]⟩, b2, fun z y y' e e' => ?_, fun z => ?_⟩⟩
  · by_cases z : y = s
    · rw [z, bmp_e]; omega
    · rw [bmp_n z]; exact a y
  · have h1 := ne' y e
    have h2 := ne' y' e'
    rw [bmp_n h1] at e
    rw [bmp_n h2] at e'
    exact b3 z y y' e e'
  · obtain ⟨y, y', h1, h2, h3⟩ := b4 z
    exact ⟨y, y', h1, by rw [bmp_n (ne y h2), h2], by rw [bmp_n (ne y' h3), h3]⟩
/-- the codes of a list by their slots -/
noncomputable def cL (f : Nat → Int32) (t : Nat) (l : List Nat) : Nat → Nat := fun s => (fP (fun c => slN f t c = s) l).length
theorem cL_app {f : Nat → Int32} {t c : Nat} {l : List Nat} : cL f t (l ++ [c]) = bmp (cL f t l) (slN f t c) := by
  funext s
  unfold cL
  by_cases z : slN f t c = s
  · rw [fP_t (P := fun c => slN f t c = s) z, List.length_append, ← z, bmp_e]; rfl
  · rw [fP_f (P := fun c => slN f t c = s) z, bmp_n (fun y => z y.symm)]
theorem cL_ct {f : Nat → Int32} {t s : Nat} {S : Nat → Prop} : ∀ n, cL f t (enl S n) s = ctP (fun c => S c ∧ slN f t c = s) n
  | 0 => by simp [cL, enl, fP, ctP]
  | n + 1 => by
    have ih := cL_ct (f := f) (t := t) (s := s) (S := S) n
    simp only [ctP]
    by_cases q : S n
    · rw [enl_t q, cL_app]
      by_cases z : s = slN f t n
      · rw [z, bmp_e, ind_t ⟨q, rfl⟩, ← z, ih]
      · rw [bmp_n z, ind_f (fun y => z y.2.symm), ih]; rfl
    · rw [enl_f q, ind_f (fun y => q y.1), ih]; rfl
theorem cL_le {f : Nat → Int32} {t s : Nat} {l : List Nat} : cL f t l s ≤ l.length := fP_len _ _
/-- of turnings that sound alike, the parts -/
def alT (f : Nat → Int32) (t u : Nat) : Prop := ∀ c c', c < 216 → c' < 216 → (slN f t c = slN f t c' ↔ slN f u c = slN f u c')
theorem pD_cL {f : Nat → Int32} {S : Nat → Prop} {t u c : Nat} (h : alT f t u) (ht : t < 216) (hc : c < 216) : (pD f t S 216).1 (slN f t c) + ind (S t ∧ slN f u t = slN f u c) = cL f u (enl S 216) (slN f u c) := by
  rw [pD_ct, cL_ct]
  have := ctP_rm (P := fun x => S x ∧ slN f t x = slN f t c) (t := t) 216
  rw [ind_cg (P := t < 216 ∧ S t ∧ slN f t t = slN f t c) (P' := S t ∧ slN f u t = slN f u c) ⟨fun y => ⟨y.2.1, (h t c ht hc).mp y.2.2⟩, fun y => ⟨ht, y.1, (h t c ht hc).mpr y.2⟩⟩] at this
  rw [this]
  exact ctP_cg 216 (fun x hx => by rw [h x c hx hc])
theorem cL_hit {f : Nat → Int32} {S : Nat → Prop} {u s : Nat} (h : 0 < cL f u (enl S 216) s) : ∃ c, c < 216 ∧ S c ∧ slN f u c = s := by
  rw [cL_ct] at h
  obtain ⟨c, hc, a, b⟩ := ctP_pos 216 h
  exact ⟨c, hc, a, b⟩
theorem ind_le {P : Prop} : ind P ≤ 1 := by
  by_cases z : P
  · rw [ind_t z]; exact Nat.le_refl _
  · rw [ind_f z]; omega
theorem gP_ge {f : Nat → Int32} {S : Nat → Prop} {t u s : Nat} (h : alT f t u) (ht : t < 216) : cL f u (enl S 216) s ≤ gP f S t + 1 := by
  by_cases z : 0 < cL f u (enl S 216) s
  · obtain ⟨c, hc, hS, e⟩ := cL_hit z
    have h1 := pD_cL (S := S) h ht hc
    rw [e] at h1
    have h2 := (pD_max (f := f) (t := t) (S := S) 216).1 (slN f t c)
    have h3 := ind_le (P := S t ∧ slN f u t = s)
    rw [gP_eq]
    omega
  · omega
noncomputable def wgP (S : Nat → Prop) (t g gp x : Nat) : Nat := g - ind (S t ∧ gp = 1 ∧ 1 < g ∧ x = g)
theorem gP_al {f : Nat → Int32} {S : Nat → Prop} {t u g gp : Nat} (h : alT f t u) (ht : t < 216) (hp : PA (cL f u (enl S 216)) g gp) : gP f S t = wgP S t g gp (cL f u (enl S 216) (slN f u t)) := by
  obtain ⟨a, b⟩ := hp
  have key : ∀ c, c < 216 → (pD f t S 216).1 (slN f t c) + ind (S t ∧ slN f u t = slN f u c) = cL f u (enl S 216) (slN f u c) := fun c hc => pD_cL h ht hc
  have up : (pD f t S 216).2.2 = 0 ∨ ∃ c, c < 216 ∧ (pD f t S 216).2.2 = (pD f t S 216).1 (slN f t c) := by
    rcases (pD_max (f := f) (t := t) (S := S) 216).2 with z | ⟨s, z⟩
    · exact Or.inl z
    · by_cases y : (pD f t S 216).2.2 = 0
      · exact Or.inl y
      · have h1 : 0 < (pD f t S 216).1 s := by omega
        rw [pD_ct] at h1
        obtain ⟨c, hc, ⟨_, e⟩, _⟩ := ctP_pos 216 h1
        exact Or.inr ⟨c, hc, by rw [e, z]⟩
  have lo : ∀ c, c < 216 → (pD f t S 216).1 (slN f t c) ≤ (pD f t S 216).2.2 := fun c _ => (pD_max (f := f) (t := t) (S := S) 216).1 _
  have hit : ∀ s, 0 < cL f u (enl S 216) s → ∃ c, c < 216 ∧ S c ∧ slN f u c = s := fun s hs => cL_hit hs
  have ow := owN_le (S := S) (t := t) (n := 216)
  have ot : S t → owN S t 216 = 1 := fun z => owN_t ⟨ht, z⟩
  have of : ¬ S t → owN S t 216 = 0 := fun z => owN_f (fun y => z y.2)
  rw [gP_eq]
  generalize hx : (pD f t S 216).2.2 = x at up lo ⊢
  generalize hn : cL f u (enl S 216) = n at a b key hit ⊢
  generalize hm : (pD f t S 216).1 = m at up lo key
  generalize owN S t 216 = o at ow ot of ⊢
  unfold wgP
  have free : ∀ c, c < 216 → ¬ (S t ∧ slN f u t = slN f u c) → n (slN f u c) ≤ x := fun c hc hn => by
    have h1 := key c hc
    rw [ind_f hn] at h1
    have := lo c hc
    omega
  have xg : x ≤ g := by
    rcases up with z | ⟨c, hc, z⟩
    · omega
    · have h1 := key c hc
      have h2 := a (slN f u c)
      omega
  have og : o ≤ g := by
    by_cases z : S t
    · have h1 := key t ht
      rw [ind_t ⟨z, rfl⟩] at h1
      have := a (slN f u t)
      omega
    · rw [of z]; omega
  by_cases q : S t ∧ gp = 1 ∧ 1 < g ∧ n (slN f u t) = g
  · obtain ⟨q1, q2, q3, q4⟩ := q
    rw [ind_t ⟨q1, q2, q3, q4⟩, ot q1]
    have h1 := key t ht
    rw [ind_t ⟨q1, rfl⟩] at h1
    have h2 := lo t ht
    have h3 : x ≤ g - 1 := by
      rcases up with z | ⟨c, hc, z⟩
      · omega
      · have h4 := key c hc
        by_cases y : slN f u t = slN f u c
        · rw [ind_t ⟨q1, y⟩] at h4
          have := a (slN f u c)
          omega
        · rw [ind_f (fun w => y w.2)] at h4
          have h5 := a (slN f u c)
          have h6 : n (slN f u c) ≠ g := fun w => y ((b (by omega)).2.2.1 q2 _ _ q4 w)
          omega
    omega
  · rw [ind_f q, Nat.sub_zero]
    by_cases g0 : g = 0
    · omega
    obtain ⟨⟨s, hs⟩, b2, b3, b4⟩ := b (by omega)
    have win : ∀ s, n s = g → ¬ (S t ∧ slN f u t = s) → g ≤ x := fun s hs hn => by
      obtain ⟨c, hc, _, e⟩ := hit s (by omega)
      subst e
      have := free c hc hn
      omega
    by_cases hS : S t
    · have o1 := ot hS
      by_cases g1 : g = 1
      · omega
      · by_cases p1 : gp = 1
        · have : g ≤ x := win s hs (fun w => q ⟨hS, p1, by omega, by rw [w.2]; exact hs⟩)
          omega
        · obtain ⟨s1, s2, n1, n2, n3⟩ := b4 (by omega)
          have : g ≤ x := by
            by_cases w : slN f u t = s1
            · exact win s2 n3 (fun y => n1 (w.symm.trans y.2))
            · exact win s1 n2 (fun y => w y.2)
          omega
    · have : g ≤ x := win s hs (fun w => hS w.1)
      omega
