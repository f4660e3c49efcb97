/-! steps of the reference, run -/
def Run (D : Nat → Int32) (s s' : Nat) (v : Nat → Nat → Nat → Int32) : Prop := s < s' ∧ s' ≤ 400 ∧ ∀ (w t c : Nat), w < 3 → t < 6 → c < 6 → ∀ (y10 : Int32) (K : Int32 × sk_M → Prop) (F top e : Nat) (M : sk_M), (∀ k, 49 + 2 * s ≤ k → k < 49 + 2 * s' → M.1 141 (562 + k) = D k) → vp_in (y10 + 3) 2260 → M.1 141 (y10 + 3).toNatClampNeg = nI e → s' ≤ e → e ≤ 400 → top + (s' - s) ≤ 400 → (∀ M', (∀ x, x ≠ 153 → M'.1 x = M.1 x) → M'.2 = M.2 → (∀ j, j < top → M'.1 153 j = M.1 153 j) → M'.1 153 top = v w t c → lp (w_X8_holdsLine_L23 (nI w) (nI t) (nI c) y10 K) F (nI (top + 1), nI s', M')) → lp (w_X8_holdsLine_L23 (nI w) (nI t) (nI c) y10 K) (F + (s' - s)) (nI top, nI s, M)
theorem Run.cg {D D' : Nat → Int32} {s s' : Nat} {v v' : Nat → Nat → Nat → Int32} (h : Run D s s' v) (e : ∀ k, 49 + 2 * s ≤ k → k < 49 + 2 * s' → D' k = D k) (ev : ∀ w t c, w < 3 → t < 6 → c < 6 → v w t c = v' w t c) : Run D' s s' v' := by
  refine ⟨h.1, h.2.1, fun w t c hw ht hc y10 K F top e9 M h1 h2 h3 h4 h5 h6 h7 => ?_⟩
  refine h.2.2 w t c hw ht hc y10 K F top e9 M (fun k k1 k2 => (h1 k k1 k2).trans (e k k1 k2)) h2 h3 h4 h5 h6 (fun M' m1 m2 m3 m4 => h7 M' m1 m2 m3 ?_)
  rw [m4, ev w t c hw ht hc]
/-- one step that lays a fact -/
theorem Run_push {D : Nat → Int32} {s code : Nat} {v : Nat → Nat → Nat → Int32} (hs : s < 400) (hc : code ≤ 6) (e : D (49 + 2 * s) = nI code) (ev : ∀ w t c, w < 3 → t < 6 → c < 6 → f_X8_factOf (nI code) (D (50 + 2 * s)) (nI w) (nI t) (nI c) = v w t c) : Run D s (s + 1) v := by
  refine ⟨by omega, by omega, fun w t c hw ht hc9 y10 K F top e9 M h1 h2 h3 h4 h5 h6 h7 => ?_⟩
  rw [show F + (s + 1 - s) = F + 1 by omega]
  show w_X8_holdsLine_L23 _ _ _ y10 K (lp _ F) _
  unfold w_X8_holdsLine_L23
  dsimp only
  rw [h3]
  refine ⟨h2, i_t (nI_ge (by omega) (by omega)) ?_⟩
  simp only [sk_lit, pk_mul, nI_add]
  rw [nI_clamp (show 611 + 2 * s < 2 ^ 31 by omega), nI_clamp (show 611 + 2 * s + 1 < 2 ^ 31 by omega), nI_clamp (show top < 2 ^ 31 by omega)]
  have d1 := h1 (49 + 2 * s) (by omega) (by omega)
  have d2 := h1 (50 + 2 * s) (by omega) (by omega)
  rw [show 562 + (49 + 2 * s) = 611 + 2 * s by omega, e] at d1
  rw [show 562 + (50 + 2 * s) = 611 + 2 * s + 1 by omega] at d2
  rw [d1, d2]
  refine ⟨vp_in_nI (by omega) (by decide), sLet_i (i_t (nI_nlt (a := 6) hc (by decide)) ⟨vp_in_nI (by omega) (by decide), vp_in_nI (by omega) (by decide), sLet_i ?_⟩)⟩
  refine h7 _ (fun x hx => si_c hx) rfl (fun j hj => by rw [rd_si, if_neg (by omega)]) ?_
  rw [rd_si, if_pos ⟨rfl, rfl⟩]
  exact ev w t c hw ht hc9
/-- a step over two -/
theorem Run_bin {D : Nat → Int32} {s m s' op : Nat} {a b v : Nat → Nat → Nat → Int32} (h1 : Run D s m a) (h2 : Run D m s' b) (hs : s' < 400) (hp : op = 7 ∨ op = 8 ∨ op = 9 ∨ op = 11 ∨ op = 12) (e : D (49 + 2 * s') = nI op) (ev : ∀ w t c, w < 3 → t < 6 → c < 6 → v w t c = (if op = 7 then a w t c + b w t c else if op = 8 then (if b w t c ≤ a w t c then 0 else 1) else if op = 9 then (if a w t c ≤ b w t c then 0 else 1) else if op = 11 then (if a w t c + b w t c = 2 then 1 else 0) else (if a w t c + b w t c ≤ 0 then 0 else 1))) : Run D s (s' + 1) v := by
  obtain ⟨l1, l2, r1⟩ := h1
  obtain ⟨l3, l4, r2⟩ := h2
  refine ⟨by omega, by omega, fun w t c hw ht hc9 y10 K F top e9 M g1 g2 g3 g4 g5 g6 g7 => ?_⟩
  rw [show F + (s' + 1 - s) = ((F + 1) + (s' - m)) + (m - s) by omega]
  refine r1 w t c hw ht hc9 y10 K _ top e9 M (fun k k1 k2 => g1 k k1 (by omega)) g2 g3 (by omega) g5 (by omega) (fun M1 m1 m2 m3 m4 => ?_)
  have w1 : M1.1 141 = M.1 141 := m1 141 (by decide)
  refine r2 w t c hw ht hc9 y10 K _ (top + 1) e9 M1 (fun k k1 k2 => by rw [w1]; exact g1 k (by omega) (by omega)) g2 (by rw [w1]; exact g3) (by omega) g5 (by omega) (fun M2 m5 m6 m7 m8 => ?_)
  have w2 : M2.1 141 = M.1 141 := (m5 141 (by decide)).trans w1
  have va : M2.1 153 top = a w t c := (m7 top (by omega)).trans m4
  show w_X8_holdsLine_L23 _ _ _ y10 K (lp (w_X8_holdsLine_L23 (nI w) (nI t) (nI c) y10 K) F) _
  generalize lp (w_X8_holdsLine_L23 (nI w) (nI t) (nI c) y10 K) F = cc at g7 ⊢
  unfold w_X8_holdsLine_L23
  dsimp only
  rw [w2, g3]
  refine ⟨g2, i_t (nI_ge (by omega) (by omega)) ?_⟩
  have t1 : nI (top + 1 + 1) + (-1 : Int32) = nI (top + 1) := by rw [← Int32.sub_eq_add_neg]; exact pk_sub (a := top + 1 + 1) (b := 1) (by omega)
  have t2 : nI (top + 1) - (1 : Int32) = nI top := pk_sub (a := top + 1) (b := 1) (by omega)
  rw [t1, t2, nI_clamp (show top < 2 ^ 31 by omega), nI_clamp (show top + 1 < 2 ^ 31 by omega), va, m8]
  have d1 := g1 (49 + 2 * s') (by omega) (by omega)
  rw [show 562 + (49 + 2 * s') = 611 + 2 * s' by omega, e] at d1
  have i1 : (611 : Int32) + (2 : Int32) * nI s' = nI (611 + 2 * s') := by
    show nI 611 + nI 2 * nI s' = _
    rw [pk_mul, nI_add]
  rw [i1, nI_clamp (show 611 + 2 * s' < 2 ^ 31 by omega), d1, nI_1 s']
  have op31 : op < 2 ^ 31 := by omega
  have ne : ∀ k, k < 13 → k ≠ op → ¬ (nI op = nI k) := fun k _ hk z => hk ((nI_eq op31 (by omega)).mp z).symm
  refine ⟨vp_in_nI (by omega) (by decide), sLet_i (i_f (fun z => z (nI_lt (a := 6) (by omega) op31)) (i_f (ne 10 (by decide) (by omega)) ⟨vp_in_nI (by omega) (by decide), sLet_i ⟨vp_in_nI (by omega) (by decide), sLet_i (sLet_i ?_)⟩⟩))⟩
  have fin : ∀ z : Int32, v w t c = z → vp_in (nI top) 400 ∧ sLet (sk_si M2 153 top z) fun M265 => cc (nI (top + 1), nI (s' + 1), M265) := fun z hz => by
    refine ⟨vp_in_nI (by omega) (by decide), sLet_i (g7 _ (fun x hx => by rw [si_c hx, m5 x hx, m1 x hx]) (by rw [si_2, m6, m2]) (fun j hj => by rw [rd_si, if_neg (by omega), m7 j (by omega), m3 j hj]) ?_)⟩
    rw [rd_si, if_pos ⟨rfl, rfl⟩, hz]
  have V := ev w t c hw ht hc9
  have two : ∀ z : Int32, (z = 0 ∨ z = 1) → v w t c = z → (if (¬ (z = 0)) then (vp_in (nI top) 400 ∧ sLet (sk_si M2 153 top (1 : Int32)) fun M265 => cc (nI (top + 1), nI (s' + 1), M265)) else (vp_in (nI top) 400 ∧ sLet (sk_si M2 153 top (0 : Int32)) fun M265 => cc (nI (top + 1), nI (s' + 1), M265))) := fun z hz hv => by
    rcases hz with rfl | rfl
    · exact i_f (fun u => u rfl) (fin 0 hv)
    · exact i_t (by decide) (fin 1 hv)
  have z01 : ∀ (p : Prop) [Decidable p], (if p then (0 : Int32) else 1) = 0 ∨ (if p then (0 : Int32) else 1) = 1 := fun p _ => by
    by_cases q : p
    · rw [if_pos q]; exact Or.inl rfl
    · rw [if_neg q]; exact Or.inr rfl
  have z10 : ∀ (p : Prop) [Decidable p], (if p then (1 : Int32) else 0) = 0 ∨ (if p then (1 : Int32) else 0) = 1 := fun p _ => by
    by_cases q : p
    · rw [if_pos q]; exact Or.inr rfl
    · rw [if_neg q]; exact Or.inl rfl
  rcases hp with rfl | rfl | rfl | rfl | rfl
  · rw [if_pos rfl] at V
    exact i_t rfl (fin _ V)
  · rw [if_neg (by decide), if_pos rfl] at V
    rw [if_pos (show nI 8 = (8 : Int32) from rfl)]
    exact i_f (ne 7 (by decide) (by decide)) (two _ (z01 _) V)
  · rw [if_neg (by decide), if_neg (by decide), if_pos rfl] at V
    rw [if_neg (show ¬ (nI 9 = (8 : Int32)) by decide), if_pos (show nI 9 = (9 : Int32) from rfl)]
    exact i_f (ne 7 (by decide) (by decide)) (two _ (z01 _) V)
  · rw [if_neg (by decide), if_neg (by decide), if_neg (by decide), if_pos rfl] at V
    rw [if_neg (show ¬ (nI 11 = (8 : Int32)) by decide), if_neg (show ¬ (nI 11 = (9 : Int32)) by decide), if_pos (show nI 11 = (11 : Int32) from rfl)]
    exact i_f (ne 7 (by decide) (by decide)) (two _ (z10 _) V)
  · rw [if_neg (by decide), if_neg (by decide), if_neg (by decide), if_neg (by decide)] at V
    rw [if_neg (show ¬ (nI 12 = (8 : Int32)) by decide), if_neg (show ¬ (nI 12 = (9 : Int32)) by decide), if_neg (show ¬ (nI 12 = (11 : Int32)) by decide)]
    exact i_f (ne 7 (by decide) (by decide)) (two _ (z01 _) V)
theorem Run_not {D : Nat → Int32} {s s' : Nat} {a v : Nat → Nat → Nat → Int32} (h1 : Run D s s' a) (hs : s' < 400) (e : D (49 + 2 * s') = nI 10) (ev : ∀ w t c, w < 3 → t < 6 → c < 6 → v w t c = 1 - a w t c) : Run D s (s' + 1) v := by
  obtain ⟨l1, l2, r1⟩ := h1
  refine ⟨by omega, by omega, fun w t c hw ht hc9 y10 K F top e9 M g1 g2 g3 g4 g5 g6 g7 => ?_⟩
  rw [show F + (s' + 1 - s) = (F + 1) + (s' - s) by omega]
  refine r1 w t c hw ht hc9 y10 K _ top e9 M (fun k k1 k2 => g1 k k1 (by omega)) g2 g3 (by omega) g5 (by omega) (fun M1 m1 m2 m3 m4 => ?_)
  have w1 : M1.1 141 = M.1 141 := m1 141 (by decide)
  show w_X8_holdsLine_L23 _ _ _ y10 K (lp (w_X8_holdsLine_L23 (nI w) (nI t) (nI c) y10 K) F) _
  generalize lp (w_X8_holdsLine_L23 (nI w) (nI t) (nI c) y10 K) F = cc at g7 ⊢
  unfold w_X8_holdsLine_L23
  dsimp only
  rw [w1, g3]
  refine ⟨g2, i_t (nI_ge (by omega) (by omega)) ?_⟩
  have t2 : nI (top + 1) - (1 : Int32) = nI top := pk_sub (a := top + 1) (b := 1) (by omega)
  rw [t2, nI_clamp (show top < 2 ^ 31 by omega), m4]
  have d1 := g1 (49 + 2 * s') (by omega) (by omega)
  rw [show 562 + (49 + 2 * s') = 611 + 2 * s' by omega, e] at d1
  have i1 : (611 : Int32) + (2 : Int32) * nI s' = nI (611 + 2 * s') := by
    show nI 611 + nI 2 * nI s' = _
    rw [pk_mul, nI_add]
  rw [i1, nI_clamp (show 611 + 2 * s' < 2 ^ 31 by omega), d1, nI_1 s']
  refine ⟨vp_in_nI (by omega) (by decide), sLet_i (i_f (fun z => z (by decide)) (i_t rfl ⟨vp_in_nI (by omega) (by decide), vp_in_nI (by omega) (by decide), sLet_i ?_⟩))⟩
  refine g7 _ (fun x hx => by rw [si_c hx, m1 x hx]) (by rw [si_2, m2]) (fun j hj => by rw [rd_si, if_neg (by omega), m3 j hj]) ?_
  rw [rd_si, if_pos ⟨rfl, rfl⟩, ev w t c hw ht hc9]
abbrev RunN (D : Nat → Int32) (s s' : Nat) (f : FN) : Prop := Run D s s' (fun w t c => nI (f w t c))
abbrev RunP (D : Nat → Int32) (s s' : Nat) (φ : FP) : Prop := Run D s s' (fun w t c => bI (φ w t c))
theorem RunN_add {D : Nat → Int32} {s m s' : Nat} {f g : FN} (h1 : RunN D s m f) (h2 : RunN D m s' g) (hs : s' < 400) (e : D (49 + 2 * s') = nI 7) : RunN D s (s' + 1) (fadd f g) :=
  Run_bin h1 h2 hs (Or.inl rfl) e (fun w t c _ _ _ => by rw [if_pos rfl, nI_add]; rfl)
theorem RunP_less {D : Nat → Int32} {s m s' b : Nat} {f g : FN} (h1 : RunN D s m f) (h2 : RunN D m s' g) (hs : s' < 400) (e : D (49 + 2 * s') = nI 8) (hf : fB f b) (hg : fB g b) (hb : b < 2 ^ 31) : RunP D s (s' + 1) (pLess f g) := by
  refine Run_bin h1 h2 hs (Or.inr (Or.inl rfl)) e (fun w t c hw ht hc => ?_)
  have a1 := hf w t c hw ht hc
  have a2 := hg w t c hw ht hc
  rw [if_neg (by decide), if_pos rfl]
  by_cases z : f w t c < g w t c
  · rw [bI_t (show pLess f g w t c from z), if_neg (nI_ge z (by omega))]
  · rw [bI_f (show ¬ pLess f g w t c from z), if_pos (nI_le (by omega) (by omega))]
theorem RunP_more {D : Nat → Int32} {s m s' b : Nat} {f g : FN} (h1 : RunN D s m f) (h2 : RunN D m s' g) (hs : s' < 400) (e : D (49 + 2 * s') = nI 9) (hf : fB f b) (hg : fB g b) (hb : b < 2 ^ 31) : RunP D s (s' + 1) (pLess g f) := by
  refine Run_bin h1 h2 hs (Or.inr (Or.inr (Or.inl rfl))) e (fun w t c hw ht hc => ?_)
  have a1 := hf w t c hw ht hc
  have a2 := hg w t c hw ht hc
  rw [if_neg (by decide), if_neg (by decide), if_pos rfl]
  by_cases z : g w t c < f w t c
  · rw [bI_t (show pLess g f w t c from z), if_neg (nI_ge z (by omega))]
  · rw [bI_f (show ¬ pLess g f w t c from z), if_pos (nI_le (by omega) (by omega))]
theorem RunP_and {D : Nat → Int32} {s m s' : Nat} {φ ψ : FP} (h1 : RunP D s m φ) (h2 : RunP D m s' ψ) (hs : s' < 400) (e : D (49 + 2 * s') = nI 11) : RunP D s (s' + 1) (pAnd' φ ψ) := by
  refine Run_bin h1 h2 hs (Or.inr (Or.inr (Or.inr (Or.inl rfl)))) e (fun w t c _ _ _ => ?_)
  rw [if_neg (by decide), if_neg (by decide), if_neg (by decide), if_pos rfl]
  by_cases a : φ w t c <;> by_cases b : ψ w t c
  · rw [bI_t a, bI_t b, bI_t (show pAnd' φ ψ w t c from ⟨a, b⟩)]; rfl
  · rw [bI_t a, bI_f b, bI_f (show ¬ pAnd' φ ψ w t c from fun u => b u.2)]; rfl
  · rw [bI_f a, bI_t b, bI_f (show ¬ pAnd' φ ψ w t c from fun u => a u.1)]; rfl
  · rw [bI_f a, bI_f b, bI_f (show ¬ pAnd' φ ψ w t c from fun u => a u.1)]; rfl
theorem RunP_or {D : Nat → Int32} {s m s' : Nat} {φ ψ : FP} (h1 : RunP D s m φ) (h2 : RunP D m s' ψ) (hs : s' < 400) (e : D (49 + 2 * s') = nI 12) : RunP D s (s' + 1) (pOr' φ ψ) := by
  refine Run_bin h1 h2 hs (Or.inr (Or.inr (Or.inr (Or.inr rfl)))) e (fun w t c _ _ _ => ?_)
  rw [if_neg (by decide), if_neg (by decide), if_neg (by decide), if_neg (by decide)]
  by_cases a : φ w t c <;> by_cases b : ψ w t c
  · rw [bI_t a, bI_t b, bI_t (show pOr' φ ψ w t c from Or.inl a)]; rfl
  · rw [bI_t a, bI_f b, bI_t (show pOr' φ ψ w t c from Or.inl a)]; rfl
  · rw [bI_f a, bI_t b, bI_t (show pOr' φ ψ w t c from Or.inr b)]; rfl
  · rw [bI_f a, bI_f b, bI_f (show ¬ pOr' φ ψ w t c from fun u => u.elim a b)]; rfl
theorem RunP_not {D : Nat → Int32} {s s' : Nat} {φ : FP} (h1 : RunP D s s' φ) (hs : s' < 400) (e : D (49 + 2 * s') = nI 10) : RunP D s (s' + 1) (pNot' φ) := by
  refine Run_not h1 hs e (fun w t c _ _ _ => ?_)
  by_cases a : φ w t c
  · rw [bI_t a, bI_f (show ¬ pNot' φ w t c from fun u => u a)]; rfl
  · rw [bI_f a, bI_t (show pNot' φ w t c from a)]; rfl
