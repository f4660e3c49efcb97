/-! what is unknown after a trial -/
def sN (f : Nat → Nat) : Nat → Nat
  | 0 => 0
  | n + 1 => sN f n + f n
theorem sN_cg {f g : Nat → Nat} : ∀ n, (∀ i, i < n → f i = g i) → sN f n = sN g n
  | 0, _ => rfl
  | n + 1, h => by simp only [sN]; rw [sN_cg n (fun i hi => h i (by omega)), h n (by omega)]
theorem sN_add (f g : Nat → Nat) : ∀ n, sN (fun i => f i + g i) n = sN f n + sN g n
  | 0 => rfl
  | n + 1 => by simp only [sN]; rw [sN_add f g n]; omega
theorem sN_0 : ∀ n, sN (fun _ => 0) n = 0
  | 0 => rfl
  | n + 1 => by simp only [sN]; rw [sN_0 n]
theorem sN_swap (f : Nat → Nat → Nat) (m : Nat) : ∀ n, sN (fun i => sN (f i) m) n = sN (fun j => sN (fun i => f i j) n) m
  | 0 => (sN_0 m).symm
  | n + 1 => by
    simp only [sN]
    rw [sN_swap f m n, sN_add]
noncomputable def ind (P : Prop) : Nat := by
  classical
  exact if P then 1 else 0
theorem ind_t {P : Prop} (h : P) : ind P = 1 := by simp only [ind, h, if_true]
theorem ind_f {P : Prop} (h : ¬ P) : ind P = 0 := by simp only [ind, h, if_false]
theorem ind_cg {P P' : Prop} (h : P ↔ P') : ind P = ind P' := by rw [propext h]
theorem s8_unknown {M : sk_M} {Q : Int32 → Prop} {nv np : Nat} (hn : nv ≤ 6) (hp : np ≤ 6) (e0 : M.1 141 0 = nI nv) (e1 : M.1 141 1 = nI np) (h : Q (nI (sN (fun p => sN (fun v => ind (leftP (M.2 146) (4 * (6 * p + v)) 4 = 216)) nv) np))) : w_X8_unknown M Q := by
  unfold w_X8_unknown
  have v0 : f_X8_vaults M = nI nv := e0
  have v1 : f_X8_people M = nI np := e1
  have z0 : ((0 : Int32), (0 : Int32)) = (nI (sN (fun p => sN (fun v => ind (leftP (M.2 146) (4 * (6 * p + v)) 4 = 216)) nv) 0), nI 0) := rfl
  rw [z0]
  refine lp_to (fun i => (nI (sN (fun p => sN (fun v => ind (leftP (M.2 146) (4 * (6 * p + v)) 4 = 216)) nv) i), nI i)) np (Nat.lt_of_le_of_lt hp (by decide)) (fun i hi c hc => ?_) (fun c => ?_)
  · unfold w_X8_unknown_L4
    rw [v1]
    refine i_t (nI_ge hi (by omega)) ?_
    dsimp only
    simp only [sN] at hc
    generalize sN (fun p => sN (fun v => ind (leftP (M.2 146) (4 * (6 * p + v)) 4 = 216)) nv) i = A at hc ⊢
    have z1 : (nI A, (0 : Int32)) = (nI (A + sN (fun v => ind (leftP (M.2 146) (4 * (6 * i + v)) 4 = 216)) 0), nI 0) := rfl
    rw [z1]
    refine lp_to (fun j => (nI (A + sN (fun v => ind (leftP (M.2 146) (4 * (6 * i + v)) 4 = 216)) j), nI j)) nv (Nat.lt_of_le_of_lt hn (by decide)) (fun j hj c' hc' => ?_) (fun c' => ?_)
    · unfold w_X8_unknown_L14
      rw [v0]
      refine i_t (nI_ge hj (by omega)) (s8_leftOf (by omega) (by omega) ?_)
      dsimp only
      simp only [sN] at hc'
      refine i_b (fun q => sLet_i ?_) (fun q => sLet_i ?_)
      · rw [ind_t q] at hc'
        rw [nI_1, nI_1]
        exact hc'
      · rw [ind_f q] at hc'
        rw [nI_1, Int32.add_zero]
        exact hc'
    · unfold w_X8_unknown_L14
      rw [v0]
      refine i_f (nn (n := nv) (by omega)) ?_
      rw [nI_1]
      exact hc
  · unfold w_X8_unknown_L4
    rw [v1]
    exact i_f (nn (n := np) (by omega)) h
theorem c7_unknown {M : sk_M} {Q : Int32 → Prop} {nv np b : Nat} (hn : nv ≤ 6) (hp : np ≤ 6) (e0 : M.1 0 0 = nI nv) (e1 : M.1 0 1 = nI np) (eb : M.1 138 3 = nI b) (hb : b < 64) (h : Q (nI (sN (fun v => sN (fun p => ind (b.testBit v = true ∨ leftP (M.2 9) (4 * (6 * p + v)) 4 = 216)) np) nv))) : w_X7_leftWholeAfterwards M Q := by
  unfold w_X7_leftWholeAfterwards
  have z0 : ((0 : Int32), (0 : Int32)) = (nI (sN (fun v => sN (fun p => ind (b.testBit v = true ∨ leftP (M.2 9) (4 * (6 * p + v)) 4 = 216)) np) 0), nI 0) := rfl
  rw [z0]
  refine lp_to (fun i => (nI (sN (fun v => sN (fun p => ind (b.testBit v = true ∨ leftP (M.2 9) (4 * (6 * p + v)) 4 = 216)) np) i), nI i)) nv (Nat.lt_of_le_of_lt hn (by decide)) (fun i hi c hc => ?_) (fun c => ?_)
  · unfold w_X7_leftWholeAfterwards_L4
    rw [e0]
    refine i_t (nI_ge hi (by omega)) ?_
    dsimp only
    simp only [sN] at hc
    generalize sN (fun v => sN (fun p => ind (b.testBit v = true ∨ leftP (M.2 9) (4 * (6 * p + v)) 4 = 216)) np) i = A at hc ⊢
    have z1 : (nI A, (0 : Int32)) = (nI (A + sN (fun p => ind (b.testBit i = true ∨ leftP (M.2 9) (4 * (6 * p + i)) 4 = 216)) 0), nI 0) := rfl
    rw [z1]
    refine lp_to (fun j => (nI (A + sN (fun p => ind (b.testBit i = true ∨ leftP (M.2 9) (4 * (6 * p + i)) 4 = 216)) j), nI j)) np (Nat.lt_of_le_of_lt hp (by decide)) (fun j hj c' hc' => ?_) (fun c' => ?_)
    · unfold w_X7_leftWholeAfterwards_L17
      rw [e1]
      refine i_t (nI_ge hj (by omega)) ?_
      unfold w_X2_hasTold
      refine ⟨vp_in_nI (by omega) (by decide), ?_⟩
      dsimp only
      rw [nI_clamp (by omega), eb, bI_cg (hasB_tb (by omega) (by omega)), nI_1]
      simp only [sN] at hc'
      by_cases z : b.testBit i = true
      · refine i_f (by rw [bI_t z]; decide) ?_
        rw [ind_t (Or.inl z)] at hc'
        rw [nI_1]
        exact hc'
      · refine i_t (bI_f z) (c5_leftOf (by omega) (by omega) ?_)
        refine i_b (fun q => ?_) (fun q => ?_)
        · rw [ind_t (Or.inr q)] at hc'
          rw [nI_1]
          exact hc'
        · rw [ind_f (fun y => y.elim z q)] at hc'
          rw [nI_1]
          exact hc'
    · unfold w_X7_leftWholeAfterwards_L17
      rw [e1]
      refine i_f (nn (n := np) (by omega)) ?_
      rw [nI_1]
      exact hc
  · unfold w_X7_leftWholeAfterwards_L4
    rw [e0]
    exact i_f (nn (n := nv) (by omega)) h
theorem left_full {K : Nat → Int64} {a : Nat} (h : ∀ k, k < 4 → K (a + k) = kMask k) : leftP K a 4 = 216 := by
  have e0 := h 0 (by omega)
  have e1 := h 1 (by omega)
  have e2 := h 2 (by omega)
  have e3 := h 3 (by omega)
  simp only [leftP]
  rw [show K (a + 0) = kMask 0 from e0, e1, e2, e3]
  decide +kernel
