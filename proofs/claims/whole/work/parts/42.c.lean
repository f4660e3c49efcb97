/-! days: the class's telling -/
def clrs (op b : Nat) : Nat → Nat
  | 0 => op
  | i + 1 => if b.testBit i = true then clr (clrs op b i) i else clrs op b i
theorem clrs_lt {op b k : Nat} (h : op < 2 ^ k) : ∀ i, clrs op b i < 2 ^ k
  | 0 => h
  | i + 1 => by
    have ih := clrs_lt (b := b) h i
    unfold clrs
    by_cases z : b.testBit i = true
    · rw [if_pos z]; exact clr_lt ih
    · rw [if_neg z]; exact ih
theorem clrs_tb {op b k v : Nat} (h : op < 2 ^ k) (hk : k ≤ 32) : ∀ i, (clrs op b i).testBit v = (op.testBit v && !(decide (v < i) && b.testBit v))
  | 0 => by simp [clrs]
  | i + 1 => by
    have ih := clrs_tb (b := b) (v := v) h hk i
    unfold clrs
    by_cases z : b.testBit i = true
    · rw [if_pos z, clr_tb (clrs_lt h i) hk, ih]
      by_cases y : v = i
      · subst y
        simp [z]
      · have : decide (v < i + 1) = decide (v < i) := decide_eq_decide.mpr ⟨fun _ => by omega, fun _ => by omega⟩
        rw [this, decide_eq_true y, Bool.and_true]
    · rw [if_neg z, ih]
      by_cases y : v = i
      · subst y
        have : b.testBit v = false := by cases w : b.testBit v <;> simp_all
        simp [this]
      · have : decide (v < i + 1) = decide (v < i) := decide_eq_decide.mpr ⟨fun _ => by omega, fun _ => by omega⟩
        rw [this]
def tdI (M0 M : sk_M) (np op b i : Nat) : Prop := (∀ c, c ≠ 0 → c ≠ 1 → M.1 c = M0.1 c) ∧ (∀ c, c ≠ 9 → M.2 c = M0.2 c) ∧ (∀ k, k ≠ 9 → M.1 0 k = M0.1 0 k) ∧ M.1 0 9 = nI (clrs op b i) ∧ (∀ j, M.1 1 j = if j < i ∧ b.testBit j = true then M0.1 139 j else M0.1 1 j) ∧ ∀ j, M.2 9 j = if (j / 4 % 6 < i ∧ b.testBit (j / 4 % 6) = true) ∧ j / 24 < np then kMask (j % 4) else M0.2 9 j
theorem c7_tells {M0 : sk_M} {Q : sk_M → Prop} {nv np op b : Nat} (hn : nv ≤ 6) (hp : np ≤ 6) (e0 : M0.1 0 0 = nI nv) (e1 : M0.1 0 1 = nI np) (e9 : M0.1 0 9 = nI op) (eb : M0.1 138 3 = nI b) (hb : b < 64) (h : ∀ M', tdI M0 M' np op b nv → Q M') : lp (w_X7_days_L53 Q) sk_F ((0 : Int32), M0) := by
  refine lp_inv (fun i s => s.1 = nI i ∧ tdI M0 s.2 np op b i) nv (Nat.lt_of_le_of_lt hn (by decide)) ⟨rfl, fun _ _ _ => rfl, fun _ _ => rfl, fun _ _ => rfl, e9, fun j => by rw [if_neg (by omega)], fun j => by rw [if_neg (by omega)]⟩ (fun i hi s c hJ hc => ?_) (fun s c hJ => ?_)
  · obtain ⟨s1, sM⟩ := s
    obtain ⟨rfl, i1, i2, i3, i4, i5, i6⟩ := hJ
    dsimp only at i1 i2 i3 i4 i5 i6
    unfold w_X7_days_L53
    dsimp only
    rw [i3 0 (by omega), e0]
    refine i_t (nI_ge hi (by omega)) ?_
    unfold w_X2_hasTold
    refine ⟨vp_in_nI (by omega) (by decide), ?_⟩
    rw [nI_clamp (by omega), i1 138 (by omega) (by omega), eb, bI_cg (hasB_tb (by omega) (by omega)), nI_1]
    by_cases z : b.testBit i = true
    · refine i_t (by rw [bI_t z]; decide) ⟨vp_in_nI (by omega) (by decide), ?_⟩
      refine c5_tellAnew (by omega) (np := np) (by rw [i3 1 (by omega)]; exact e1) hp ?_
      rw [i1 139 (by omega) (by omega)]
      generalize hN : knA (tA sM 0 i (M0.1 139 i)) (0 + 9) i np = N
      have g1 : N.1 = (tA sM 0 i (M0.1 139 i)).1 := by rw [← hN, knA_1]
      refine hc _ ⟨rfl, fun c h0 h1 => ?_, fun c h9 => ?_, fun k hk => ?_, ?_, fun j => ?_, fun j => ?_⟩
      · dsimp only
        rw [g1]; unfold tA; rw [si_c h0, si_c (by omega)]; exact i1 c h0 h1
      · dsimp only
        rw [← hN, knA_ne h9]; exact i2 c h9
      · dsimp only
        rw [g1]; unfold tA; rw [rd_si, if_neg (fun z => hk z.2), si_c (by omega)]; exact i3 k hk
      · dsimp only
        rw [g1]; unfold tA; rw [rd_si, if_pos ⟨rfl, rfl⟩, i4, clrs, if_pos z]
        exact clr_N (by omega)
      · dsimp only
        rw [g1]; unfold tA; rw [si_c (by omega)]
        show (sk_si sM 1 i (M0.1 139 i)).1 1 j = _
        rw [rd_si, i5 j]
        by_cases y : j = i
        · rw [if_pos ⟨rfl, y⟩, if_pos ⟨by omega, by rw [y]; exact z⟩, y]
        · rw [if_neg (fun w => y w.2)]
          by_cases x : j < i ∧ b.testBit j = true
          · rw [if_pos x, if_pos ⟨by omega, x.2⟩]
          · rw [if_neg x, if_neg (fun w => x ⟨by omega, w.2⟩)]
      · dsimp only
        rw [← hN]
        show (knA (tA sM 0 i (M0.1 139 i)) 9 i np).2 9 j = _
        rw [knA_at (by omega) np]
        show (if _ then _ else sM.2 9 j) = _
        rw [i6 j]
        by_cases y : j / 4 % 6 = i ∧ j / 24 < np
        · rw [if_pos y, if_pos ⟨⟨by omega, by rw [y.1]; exact z⟩, y.2⟩]
        · rw [if_neg y]
          by_cases x : (j / 4 % 6 < i ∧ b.testBit (j / 4 % 6) = true) ∧ j / 24 < np
          · rw [if_pos x, if_pos ⟨⟨by omega, x.1.2⟩, x.2⟩]
          · rw [if_neg x, if_neg (fun w => x ⟨⟨by omega, w.1.2⟩, w.2⟩)]
    · refine i_f (fun y => y (by rw [bI_f z])) (hc _ ⟨rfl, i1, i2, i3, ?_, fun j => ?_, fun j => ?_⟩)
      · rw [clrs, if_neg z]; exact i4
      · dsimp only
        rw [i5 j]
        by_cases x : j < i ∧ b.testBit j = true
        · rw [if_pos x, if_pos ⟨by omega, x.2⟩]
        · rw [if_neg x, if_neg (fun w => x ⟨by have : j ≠ i := fun e => z (e ▸ w.2); omega, w.2⟩)]
      · dsimp only
        rw [i6 j]
        by_cases x : (j / 4 % 6 < i ∧ b.testBit (j / 4 % 6) = true) ∧ j / 24 < np
        · rw [if_pos x, if_pos ⟨⟨by omega, x.1.2⟩, x.2⟩]
        · rw [if_neg x, if_neg (fun w => x ⟨⟨by have : j / 4 % 6 ≠ i := fun e => z (e ▸ w.1.2); omega, w.1.2⟩, w.2⟩)]
  · obtain ⟨s1, sM⟩ := s
    obtain ⟨rfl, hJ⟩ := hJ
    unfold w_X7_days_L53
    dsimp only
    rw [hJ.2.2.1 0 (by omega), e0]
    exact i_f (fun z => z (Int32.le_refl _)) (h sM hJ)
