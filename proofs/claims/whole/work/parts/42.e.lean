/-! what the reference keeps aside for a trial, and brings back -/
def kpA (M M' : sk_M) : Prop := (∀ c, c ≠ 144 → M'.1 c = M.1 c) ∧ (∀ c, c ≠ 149 → M'.2 c = M.2 c) ∧ (∀ i, i < 562 → M'.1 144 i = M.1 141 i) ∧ ∀ i, i < 144 → M'.2 149 i = M.2 146 i
theorem s8_keepsAll {M : sk_M} {Q : sk_M → Prop} (h : ∀ M', kpA M M' → Q M') : w_X8_keepsAll M Q := by
  unfold w_X8_keepsAll
  refine lp_inv (fun i s => s.1 = nI i ∧ (∀ c, c ≠ 144 → s.2.1 c = M.1 c) ∧ s.2.2 = M.2 ∧ ∀ j, j < i → s.2.1 144 j = M.1 141 j) 562 (by decide) ⟨rfl, fun _ _ => rfl, rfl, fun j hj => absurd hj (by omega)⟩ (fun i hi s c hI hc => ?_) (fun s c hI => ?_)
  · obtain ⟨s1, sM⟩ := s
    obtain ⟨rfl, i1, i2, i3⟩ := hI
    dsimp only at i1 i2 i3
    unfold w_X8_keepsAll_L2
    refine i_t (nI_ge hi (by decide)) ⟨vp_in_nI (by omega) (by decide), vp_in_nI hi (by decide), sLet_i ?_⟩
    dsimp only
    rw [nI_clamp (by omega), nI_1]
    refine hc _ ⟨rfl, fun c hc => by rw [si_c hc]; exact i1 c hc, i2, fun j hj => ?_⟩
    dsimp only
    rw [rd_si]
    by_cases z : j = i
    · rw [if_pos ⟨rfl, z⟩, z, i1 141 (by omega)]
    · rw [if_neg (fun y => z y.2)]
      exact i3 j (by omega)
  · obtain ⟨s1, sM⟩ := s
    obtain ⟨rfl, i1, i2, i3⟩ := hI
    dsimp only at i1 i2 i3
    unfold w_X8_keepsAll_L2
    refine i_f (nn (n := 562) (by decide)) (s8_copies (by decide) (h _ ⟨i1, fun c hc => ?_, i3, fun i hi => ?_⟩))
    · rw [rl_c hc]
      exact congrFun i2 c
    · rw [rl_s, cpn_in0 hi]
      exact congrFun (congrFun i2 146) i
theorem s8_bringsBack {M : sk_M} {Q : sk_M → Prop} (h : ∀ M', (∀ c, c ≠ 141 → M'.1 c = M.1 c) → (∀ c, c ≠ 146 → M'.2 c = M.2 c) → (∀ i, i < 562 → M'.1 141 i = M.1 144 i) → (∀ i, 562 ≤ i → M'.1 141 i = M.1 141 i) → (∀ i, i < 144 → M'.2 146 i = M.2 149 i) → (∀ i, 144 ≤ i → M'.2 146 i = M.2 146 i) → Q M') : w_X8_bringsBack M Q := by
  unfold w_X8_bringsBack
  refine lp_inv (fun i s => s.1 = nI i ∧ (∀ c, c ≠ 141 → s.2.1 c = M.1 c) ∧ s.2.2 = M.2 ∧ (∀ j, j < i → s.2.1 141 j = M.1 144 j) ∧ ∀ j, i ≤ j → s.2.1 141 j = M.1 141 j) 562 (by decide) ⟨rfl, fun _ _ => rfl, rfl, fun j hj => absurd hj (by omega), fun _ _ => rfl⟩ (fun i hi s c hI hc => ?_) (fun s c hI => ?_)
  · obtain ⟨s1, sM⟩ := s
    obtain ⟨rfl, i1, i2, i3, i4⟩ := hI
    dsimp only at i1 i2 i3 i4
    unfold w_X8_bringsBack_L2
    refine i_t (nI_ge hi (by decide)) ⟨vp_in_nI hi (by decide), vp_in_nI (by omega) (by decide), sLet_i ?_⟩
    dsimp only
    rw [nI_clamp (by omega), nI_1]
    refine hc _ ⟨rfl, fun c hc => by rw [si_c hc]; exact i1 c hc, i2, fun j hj => ?_, fun j hj => ?_⟩
    · dsimp only
      rw [rd_si]
      by_cases z : j = i
      · rw [if_pos ⟨rfl, z⟩, z, i1 144 (by omega)]
      · rw [if_neg (fun y => z y.2)]
        exact i3 j (by omega)
    · dsimp only
      rw [rd_si, if_neg (fun y => by omega)]
      exact i4 j (by omega)
  · obtain ⟨s1, sM⟩ := s
    obtain ⟨rfl, i1, i2, i3, i4⟩ := hI
    dsimp only at i1 i2 i3 i4
    unfold w_X8_bringsBack_L2
    refine i_f (nn (n := 562) (by decide)) (s8_copies (by decide) (h _ i1 (fun c hc => ?_) i3 i4 (fun i hi => ?_) (fun i hi => ?_)))
    · rw [rl_c hc]
      exact congrFun i2 c
    · rw [rl_s, cpn_in0 hi]
      exact congrFun (congrFun i2 149) i
    · rw [rl_s, cpn_out (by omega)]
      exact congrFun (congrFun i2 146) i
theorem s8_changedOnes {M : sk_M} {Q : Int32 → Prop} {nv : Nat} (hn : nv ≤ 6) (e0 : M.1 141 0 = nI nv) (h : Q (bitsP (fun v => ¬ M.1 141 (10 + 4 * v) = M.1 144 (10 + 4 * v)) nv)) : w_X8_changedOnes M Q := by
  unfold w_X8_changedOnes
  have v0 : f_X8_vaults M = nI nv := e0
  have z0 : ((0 : Int32), (0 : Int32)) = (bitsP (fun v => ¬ M.1 141 (10 + 4 * v) = M.1 144 (10 + 4 * v)) 0, nI 0) := rfl
  rw [z0]
  refine lp_to (fun i => (bitsP (fun v => ¬ M.1 141 (10 + 4 * v) = M.1 144 (10 + 4 * v)) i, nI i)) nv (Nat.lt_of_le_of_lt hn (by decide)) (fun i hi c hc => ?_) (fun c => ?_)
  · unfold w_X8_changedOnes_L4
    rw [v0]
    refine i_t (nI_ge hi (by omega)) (s8_of (k := 0) (by omega) (by decide) ?_)
    dsimp only
    have e : ((10 : Int32) + ((4 : Int32) * nI i)) + (0 : Int32) = nI (10 + 4 * i) := by
      rw [Int32.add_zero, show (4 : Int32) = nI 4 from rfl, pk_mul, show (10 : Int32) = nI 10 from rfl, nI_add]
    rw [e, nI_clamp (by omega), nI_1]
    refine ⟨vp_in_nI (by omega) (by decide), i_b (fun q => sLet_i ?_) (fun q => sLet_i ?_)⟩
    · rw [bitsP_t (P := fun v => ¬ M.1 141 (10 + 4 * v) = M.1 144 (10 + 4 * v)) q]
      exact hc
    · rw [or0I, bitsP_f (P := fun v => ¬ M.1 141 (10 + 4 * v) = M.1 144 (10 + 4 * v)) q]
      exact hc
  · unfold w_X8_changedOnes_L4
    rw [v0]
    exact i_f (nn (n := nv) (by omega)) h
