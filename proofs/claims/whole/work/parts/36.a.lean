/-! tools for the pure side -/
theorem i_t {p : Prop} [Decidable p] {A B : Prop} (hp : p) (h : A) : if p then A else B := by rwa [if_pos hp]
theorem i_f {p : Prop} [Decidable p] {A B : Prop} (hp : ¬ p) (h : B) : if p then A else B := by rwa [if_neg hp]
theorem i_b {p : Prop} [Decidable p] {A B : Prop} (h1 : p → A) (h2 : ¬ p → B) : if p then A else B := by
  by_cases h : p
  · rw [if_pos h]; exact h1 h
  · rw [if_neg h]; exact h2 h
/-- a loop of n rounds, state by state -/
theorem lp_to {σ : Type} {B : (σ → Prop) → σ → Prop} {F : Nat} (st : Nat → σ) (n : Nat) (hF : n < F) (hs : ∀ i, i < n → ∀ c : σ → Prop, c (st (i + 1)) → B c (st i)) (hx : ∀ c, B c (st n)) : lp B F (st 0) := by
  have key : ∀ k j F, j + k = n → k < F → lp B F (st j) := by
    intro k
    induction k with
    | zero =>
      intro j F hj hF
      cases F with
      | zero => omega
      | succ F =>
        have e : j = n := by omega
        subst e
        exact hx _
    | succ k ih =>
      intro j F hj hF
      cases F with
      | zero => omega
      | succ F => exact hs j (by omega) _ (ih (j + 1) F (by omega) (by omega))
  exact key n 0 F (by omega) hF
/-- a loop of n rounds, by an invariant -/
theorem lp_inv {σ : Type} {B : (σ → Prop) → σ → Prop} {F : Nat} {s : σ} (I : Nat → σ → Prop) (n : Nat) (hF : n < F) (h0 : I 0 s) (hs : ∀ i, i < n → ∀ (s : σ) (c : σ → Prop), I i s → (∀ s', I (i + 1) s' → c s') → B c s) (hx : ∀ (s : σ) (c : σ → Prop), I n s → B c s) : lp B F s := by
  have key : ∀ k j F s, j + k = n → k < F → I j s → lp B F s := by
    intro k
    induction k with
    | zero =>
      intro j F s hj hF hI
      cases F with
      | zero => omega
      | succ F =>
        have e : j = n := by omega
        subst e
        exact hx _ _ hI
    | succ k ih =>
      intro j F s hj hF hI
      cases F with
      | zero => omega
      | succ F => exact hs j (by omega) s _ hI (fun s' h' => ih (j + 1) F s' (by omega) (by omega) h')
  exact key n 0 F s (by omega) hF h0
/-- a loop of at most n rounds, by an invariant, with ways out -/
theorem lp_inx {σ : Type} {B : (σ → Prop) → σ → Prop} {F : Nat} {s : σ} (I : Nat → σ → Prop) (n : Nat) (hF : n < F) (h0 : I 0 s) (hs : ∀ i, i ≤ n → ∀ (s : σ) (c : σ → Prop), I i s → (∀ s', i < n → I (i + 1) s' → c s') → B c s) : lp B F s := by
  have key : ∀ k j F s, j + k = n → k < F → I j s → lp B F s := by
    intro k
    induction k with
    | zero =>
      intro j F s hj hF hI
      cases F with
      | zero => omega
      | succ F => exact hs j (by omega) s _ hI (fun s' hl h' => by omega)
    | succ k ih =>
      intro j F s hj hF hI
      cases F with
      | zero => omega
      | succ F => exact hs j (by omega) s _ hI (fun s' _ h' => ih (j + 1) F s' (by omega) (by omega) h')
  exact key n 0 F s (by omega) hF h0
theorem vpT {n N : Nat} (h : n < N) (hN : N < 2 ^ 31) : vp_in (nI n) N = True := eq_true (vp_in_nI h hN)
theorem rmN {a d : Nat} (ha : a < 2 ^ 31) (h0 : 0 < d) (hd : d < 2 ^ 31) : rmI (nI a) (nI d) = nI (a % d) := pk_rem ha h0 hd
theorem pk_divN {a d : Nat} (ha : a < 2 ^ 31) (h0 : 0 < d) (hd : d < 2 ^ 31) : nI a / nI d = nI (a / d) := pk_div ha h0 hd
theorem mnN {a b : Nat} (ha : a < 2 ^ 31) (hb : b < 2 ^ 31) : mnI (nI a) (nI b) = nI (min a b) := nImin ha hb
theorem mxN {a b : Nat} (ha : a < 2 ^ 31) (hb : b < 2 ^ 31) : mxI (nI a) (nI b) = nI (max a b) := nImax ha hb
theorem m1_lt0 : (-1 : Int32) < 0 := by decide
theorem m1_ne {n : Nat} (h : n < 2 ^ 31) : ¬ (nI n = -1) := nI_m1 h
/-- reading a written memory -/
theorem rd_si {M : sk_M} {c i c' k : Nat} {v : Int32} : (sk_si M c i v).1 c' k = if c' = c ∧ k = i then v else M.1 c' k := by
  by_cases h : c' = c
  · subst h
    by_cases h2 : k = i
    · subst h2; simp [sk_si, upd]
    · simp [sk_si, upd, h2]
  · simp [sk_si, h]
theorem rd_sl {M : sk_M} {c i c' k : Nat} {v : Int64} : (sk_sl M c i v).2 c' k = if c' = c ∧ k = i then v else M.2 c' k := by
  by_cases h : c' = c
  · subst h
    by_cases h2 : k = i
    · subst h2; simp [sk_sl, vp_updL]
    · simp [sk_sl, vp_updL, h2]
  · simp [sk_sl, h]
theorem rd_ri {M : sk_M} {c c' k : Nat} {f : Nat → Int32} : (sk_ri M c f).1 c' k = if c' = c then f k else M.1 c' k := by
  by_cases h : c' = c
  · subst h; simp [sk_ri]
  · simp [sk_ri, h]
theorem rd_rl {M : sk_M} {c c' k : Nat} {f : Nat → Int64} : (sk_rl M c f).2 c' k = if c' = c then f k else M.2 c' k := by
  by_cases h : c' = c
  · subst h; simp [sk_rl]
  · simp [sk_rl, h]
theorem si_2 {M : sk_M} {c i : Nat} {v : Int32} : (sk_si M c i v).2 = M.2 := rfl
theorem sl_1 {M : sk_M} {c i : Nat} {v : Int64} : (sk_sl M c i v).1 = M.1 := rfl
theorem ri_2 {M : sk_M} {c : Nat} {f : Nat → Int32} : (sk_ri M c f).2 = M.2 := rfl
theorem rl_1 {M : sk_M} {c : Nat} {f : Nat → Int64} : (sk_rl M c f).1 = M.1 := rfl
theorem si_c {M : sk_M} {c i c' : Nat} {v : Int32} (h : c' ≠ c) : (sk_si M c i v).1 c' = M.1 c' := sk_si_ne h
theorem sl_c {M : sk_M} {c i c' : Nat} {v : Int64} (h : c' ≠ c) : (sk_sl M c i v).2 c' = M.2 c' := sk_sl_ne h
theorem ri_c {M : sk_M} {c c' : Nat} {f : Nat → Int32} (h : c' ≠ c) : (sk_ri M c f).1 c' = M.1 c' := by simp [sk_ri, h]
theorem ri_s {M : sk_M} {c : Nat} {f : Nat → Int32} : (sk_ri M c f).1 c = f := by simp [sk_ri]
theorem rl_c {M : sk_M} {c c' : Nat} {f : Nat → Int64} (h : c' ≠ c) : (sk_rl M c f).2 c' = M.2 c' := by simp [sk_rl, h]
theorem rl_s {M : sk_M} {c : Nat} {f : Nat → Int64} : (sk_rl M c f).2 c = f := by simp [sk_rl]
/-- a written row, as a row put in place -/
theorem si_ri {M : sk_M} {c i : Nat} {f : Nat → Int32} {v : Int32} : sk_si (sk_ri M c f) c i v = sk_ri M c (upd f i v) := by
  unfold sk_si sk_ri
  refine Prod.ext ?_ rfl
  funext c'
  by_cases h : c' = c
  · subst h; simp
  · simp [h]
theorem sl_rl {M : sk_M} {c i : Nat} {f : Nat → Int64} {v : Int64} : sk_sl (sk_rl M c f) c i v = sk_rl M c (vp_updL f i v) := by
  unfold sk_sl sk_rl
  refine Prod.ext rfl ?_
  funext c'
  by_cases h : c' = c
  · subst h; simp
  · simp [h]
theorem ri_self {M : sk_M} {c : Nat} {f : Nat → Int32} (h : f = M.1 c) : sk_ri M c f = M := by
  subst h
  unfold sk_ri
  refine Prod.ext ?_ rfl
  funext c'
  by_cases h : c' = c
  · subst h; simp
  · simp [h]
theorem rl_self {M : sk_M} {c : Nat} {f : Nat → Int64} (h : f = M.2 c) : sk_rl M c f = M := by
  subst h
  unfold sk_rl
  refine Prod.ext rfl ?_
  funext c'
  by_cases h : c' = c
  · subst h; simp
  · simp [h]
/-- n elements from s on of a row, laid to d on -/
def cpn {α : Type} (f g : Nat → α) (s d n : Nat) : Nat → α := fun j => if d ≤ j ∧ j < d + n then f (s + (j - d)) else g j
theorem cpn_0 {α : Type} {f g : Nat → α} {s d : Nat} : cpn f g s d 0 = g := by
  funext j
  simp only [cpn]
  rw [if_neg (by omega)]
theorem cpn_sI {f g : Nat → Int32} {s d n : Nat} : upd (cpn f g s d n) (d + n) (f (s + n)) = cpn f g s d (n + 1) := by
  funext j
  simp only [cpn, upd]
  by_cases h : j = d + n
  · subst h
    rw [if_pos rfl, if_pos (by omega)]
    congr 1
    omega
  · rw [if_neg h]
    by_cases h2 : d ≤ j ∧ j < d + n
    · rw [if_pos h2, if_pos (by omega)]
    · rw [if_neg h2, if_neg (by omega)]
theorem cpn_sL {f g : Nat → Int64} {s d n : Nat} : vp_updL (cpn f g s d n) (d + n) (f (s + n)) = cpn f g s d (n + 1) := by
  funext j
  simp only [cpn, vp_updL]
  by_cases h : j = d + n
  · subst h
    rw [if_pos rfl, if_pos (by omega)]
    congr 1
    omega
  · rw [if_neg h]
    by_cases h2 : d ≤ j ∧ j < d + n
    · rw [if_pos h2, if_pos (by omega)]
    · rw [if_neg h2, if_neg (by omega)]
theorem cpn_in {α : Type} {f g : Nat → α} {s d n j : Nat} (h : j < n) : cpn f g s d n (d + j) = f (s + j) := by
  simp only [cpn]
  rw [if_pos (by omega)]
  congr 1
  omega
theorem cpn_out {α : Type} {f g : Nat → α} {s d n j : Nat} (h : j < d ∨ d + n ≤ j) : cpn f g s d n j = g j := by
  simp only [cpn]
  rw [if_neg (by omega)]
theorem cpn_in0 {α : Type} {f g : Nat → α} {n j : Nat} (h : j < n) : cpn f g 0 0 n j = f j := by
  have := cpn_in (f := f) (g := g) (s := 0) (d := 0) h
  rwa [Nat.zero_add] at this
/-- a rising copy with i ahead: from a row onto itself, downwards -/
theorem cpn_sI' {f g : Nat → Int32} {s d n : Nat} {v : Int32} (h : v = f (s + n)) : upd (cpn f g s d n) (d + n) v = cpn f g s d (n + 1) := by rw [h, cpn_sI]
theorem cpn_sL' {f g : Nat → Int64} {s d n : Nat} {v : Int64} (h : v = f (s + n)) : vp_updL (cpn f g s d n) (d + n) v = cpn f g s d (n + 1) := by rw [h, cpn_sL]
theorem vp_no {x : Int32} {n : Nat} (hn : n < 2 ^ 31) (h : ¬ vp_in x n) : x < 0 ∨ ¬ x < nI n := by
  by_cases h0 : x < 0
  · exact Or.inl h0
  · right
    intro h1
    apply h
    rw [vp_in_iff]
    rw [Int32.lt_iff_toInt_lt, nI_toInt hn] at h1
    rw [Int32.lt_iff_toInt_lt, Int32.toInt_zero] at h0
    omega
theorem vp_yes {x : Int32} {n : Nat} (hn : n < 2 ^ 31) (h : vp_in x n) : ¬ (x < 0 ∨ ¬ x < nI n) := by
  rw [vp_in_iff] at h
  rw [Int32.lt_iff_toInt_lt, Int32.lt_iff_toInt_lt, nI_toInt hn, Int32.toInt_zero]
  omega
theorem nI_s1 {n : Nat} (hn : n < 2 ^ 31) : (nI n - 1).toInt = (n : Int) - 1 := by
  by_cases h : n = 0
  · subst h; decide
  · have e : nI n - 1 = nI (n - 1) := pk_sub (a := n) (b := 1) (by omega)
    rw [e, nI_toInt (by omega)]
    omega
theorem in_y {x : Int32} {n : Nat} (hn : n < 2 ^ 31) (h : vp_in x n) : f_X8_in x 0 (nI n - 1) = 1 := by
  rw [vp_in_iff] at h
  unfold f_X8_in
  rw [if_pos]
  rw [Int32.lt_iff_toInt_lt, Int32.lt_iff_toInt_lt, nI_s1 hn, Int32.toInt_zero]
  omega
theorem in_n {x : Int32} {n : Nat} (hn : n < 2 ^ 31) (h : ¬ vp_in x n) : f_X8_in x 0 (nI n - 1) = 0 := by
  rw [vp_in_iff] at h
  unfold f_X8_in
  rw [if_neg]
  rw [Int32.lt_iff_toInt_lt, Int32.lt_iff_toInt_lt, nI_s1 hn, Int32.toInt_zero]
  omega
theorem inN_y {x : Int32} (n : Nat) {m : Int32} (hm : m = nI n - 1) (hn : n < 2 ^ 31) (h : vp_in x n) : f_X8_in x 0 m = 1 := by rw [hm]; exact in_y hn h
theorem inN_n {x : Int32} (n : Nat) {m : Int32} (hm : m = nI n - 1) (hn : n < 2 ^ 31) (h : ¬ vp_in x n) : f_X8_in x 0 m = 0 := by rw [hm]; exact in_n hn h
theorem nn {n : Nat} (h : n < 2 ^ 31) : ¬ ¬ (nI n ≤ nI n) := fun q => q (nI_le (Nat.le_refl _) h)
