/-! gains, risky, pair -/
theorem st_gains {M : sk_M} (h : Inv M) (a b d : Int32) : StI Inv (fun Q X => w_X7_gains a b d M (fun r => Q r M) (fun e => X e M)) (w_X8_gains a b d) ["java/lang/IndexOutOfBoundsException", "java/lang/IllegalArgumentException"] := by
  unfold StI w_X7_gains w_X7_needTwo
  obtain ⟨nv, np, nc, tx, dy, ch, lg, nr, op, hR⟩ := h.1.1
  obtain ⟨hN, hF, hW, hS, hV, hC, hL, hK, hT⟩ := id hR
  have n1 := hN.1
  have n2 := hN.2.1
  have no : ¬ vp_in a np ∨ ¬ vp_in b np ∨ ¬ vp_in d nv → w_X8_gains a b d M (fun _ M2 => M2.1 140 0 = nI (0 + 1) ∧ Inv M2) := by
    intro q
    unfold w_X8_gains
    refine sLet_i (sLet_i (gN' (if_pos ?_) (dueX h rfl)))
    by_cases hp : vp_in a np
    · by_cases hb : vp_in b np
      · have hv : ¬ vp_in d nv := (q.resolve_left (fun x => x hp)).resolve_left (fun x => x hb)
        rw [noV_nt hW.1 n1 hv]
        exact Or.inr (Or.inr (by decide))
      · rw [noP_nt hW.2.1 n2 hb]
        exact Or.inr (Or.inl (by decide))
    · rw [noP_nt hW.2.1 n2 hp]
      exact Or.inl (by decide)
  refine n7_P hF.2.1 n2 (fun p hp e => ?_) (fun q => ⟨0, rfl, no (Or.inl q)⟩)
  refine n7_P hF.2.1 n2 (fun o ho e' => ?_) (fun q => ⟨0, rfl, no (Or.inr (Or.inl q))⟩)
  refine n7_V hF.1 n1 (fun v hv e'' => ?_) (fun q => ⟨0, rfl, no (Or.inr (Or.inr q))⟩)
  subst e e' e''
  have gd : ∀ M' : sk_M, M'.1 141 = M.1 141 → ¬ (¬ ((f_X8_noPerson (nI p) (sk_si M' 140 0 0)) = 0) ∨ (¬ ((f_X8_noPerson (nI o) (sk_si M' 140 0 0)) = 0) ∨ (¬ ((f_X8_noVault (nI v) (sk_si M' 140 0 0)) = 0)))) := by
    intro M' hM
    rw [noP_yt (n := np) (by rw [hM]; exact hW.2.1) n2 (vp_in_nI hp (by omega)), noP_yt (n := np) (by rw [hM]; exact hW.2.1) n2 (vp_in_nI ho (by omega)), noV_yt (n := nv) (by rw [hM]; exact hW.1) n1 (vp_in_nI hv (by omega))]
    decide
  refine i_b (fun q => ⟨1, rfl, ?_⟩) (fun q => ?_)
  · unfold w_X8_gains
    refine sLet_i (sLet_i (gY' (if_neg (gd M rfl)) (sLet_i (gN (if_pos q) ?_))))
    exact dueX h rfl
  · refine c5_leftOf (by omega) (by omega) (c5_leftOfAll (by omega) (np := np) hF.2.1 n2 ?_)
    unfold w_X8_gains
    refine sLet_i (sLet_i (gY' (if_neg (gd _ rfl)) (sLet_i (gY (if_neg q) ?_))))
    refine s8_leftOf (by omega) (by omega) (s8_leftBy (np := np) (by omega) hW.2.1 n2 ?_)
    exact due0 h (by rw [hR.left hp hv, hR.leftAll hv]; rfl)
/-- the least sum, the first of equals -/
noncomputable def lsF (l0 : Int32) (f : Nat → Int32) : Nat → Int32 × Int32
  | 0 => (-1, l0)
  | n + 1 => if f n < (lsF l0 f n).2 then (nI n, f n) else lsF l0 f n
theorem lsF_t {l0 : Int32} {f : Nat → Int32} {n : Nat} (h : f n < (lsF l0 f n).2) : lsF l0 f (n + 1) = (nI n, f n) := by rw [lsF, if_pos h]
theorem lsF_f {l0 : Int32} {f : Nat → Int32} {n : Nat} (h : ¬ f n < (lsF l0 f n).2) : lsF l0 f (n + 1) = lsF l0 f n := by rw [lsF, if_neg h]
theorem lsF_n {l0 : Int32} {f : Nat → Int32} : ∀ n, ((lsF l0 f n).1 = -1 ∧ (lsF l0 f n).2 = l0) ∨ ∃ j, j < n ∧ (lsF l0 f n).1 = nI j
  | 0 => Or.inl ⟨rfl, rfl⟩
  | n + 1 => by
    by_cases h : f n < (lsF l0 f n).2
    · rw [lsF_t h]; exact Or.inr ⟨n, by omega, rfl⟩
    · rw [lsF_f h]
      exact (lsF_n n).imp id (fun ⟨j, a, b⟩ => ⟨j, by omega, b⟩)
theorem lsF_cg {l0 : Int32} {f g : Nat → Int32} : ∀ n, (∀ j, j < n → f j = g j) → lsF l0 f n = lsF l0 g n
  | 0, _ => rfl
  | n + 1, h => by
    have ih := lsF_cg (l0 := l0) n (fun j hj => h j (by omega))
    simp only [lsF]
    rw [ih, h n (by omega)]
theorem sum_left {K : Nat → Int64} {v : Nat} : ∀ n, n ≤ 6 → (∀ p, p < n → msk K (4 * (6 * p + v))) → ∃ s, s ≤ 216 * n ∧ sumI (fun p => leftP K (4 * (6 * p + v)) 4) n = nI s
  | 0, _, _ => ⟨0, by omega, rfl⟩
  | n + 1, h, hm => by
    obtain ⟨s, hs, e⟩ := sum_left n (by omega) (fun p hp => hm p (by omega))
    obtain ⟨m, hm2, e2⟩ := left_le (hm n (by omega))
    refine ⟨s + m, by omega, ?_⟩
    simp only [sumI]
    rw [e, e2, nI_add]
theorem st_risky {M : sk_M} (h : Inv M) : StN Inv (fun Q => w_X7_risky M (fun r => Q r M)) w_X8_risky := by
  unfold StN w_X7_risky
  obtain ⟨nv, np, nc, tx, dy, ch, lg, nr, op, hR⟩ := h.1.1
  obtain ⟨hN, hF, hW, hS, hV, hC, hL, hK, hT⟩ := id hR
  have n1 := hN.1
  have n2 := hN.2.1
  rw [hF.2.1]
  by_cases hz : np = 0
  · subst hz
    refine i_t rfl ?_
    unfold w_X8_risky
    refine sLet_i ?_
    refine lp_to (fun _ => (-1, 1000000, 0)) 0 (by decide) (fun i hi => absurd hi (by omega)) (fun c => ?_)
    unfold w_X8_risky_L13 f_X8_people
    refine i_f ?_ ⟨rfl, h.scR scR_th⟩
    rintro ⟨-, q⟩
    apply q
    show M.1 141 1 ≤ 0
    rw [hW.2.1]
    decide
  · refine i_f (nI_ne0 (by omega) (by omega)) ?_
    let f7 : Nat → Int32 := fun v => sumI (fun p => leftP (M.2 9) (4 * (6 * p + v)) 4) np
    let f8 : Nat → Int32 := fun v => sumI (fun p => leftP (M.2 146) (4 * (6 * p + v)) 4) np
    have hf : ∀ v, v < nv → f7 v = f8 v := fun v hv => sumI_cg np (fun p hp => hR.left hp hv)
    have hs : ∀ v, v < nv → ∃ s, s ≤ 1296 ∧ f7 v = nI s := fun v hv => by
      rw [hf v hv]
      obtain ⟨s, h1, h2⟩ := sum_left (K := M.2 146) (v := v) np n2 (fun p hp => (hT p hp v hv).1)
      exact ⟨s, by omega, h2⟩
    -- the class: the best so far, and its sum, 0 while there is none
    refine lp_to (fun i => ((lsF 1000000 f7 i).1, (if (lsF 1000000 f7 i).1 = -1 then 0 else (lsF 1000000 f7 i).2), nI i)) nv (by unfold sk_F; omega) (fun i hi c hc => ?_) (fun c => ?_)
    · unfold w_X7_risky_L18
      rw [hF.1]
      refine i_t (nI_ge hi (by omega)) ?_
      refine lp_to (fun p => (sumI (fun p => leftP (M.2 9) (4 * (6 * p + i)) 4) p, nI p)) np (by unfold sk_F; omega) (fun p hp c2 hc2 => ?_) (fun c2 => ?_)
      · unfold w_X7_risky_L35
        rw [hF.2.1]
        refine i_t (nI_ge hp (by omega)) (c5_leftOf (by omega) (by omega) (sLet_i ?_))
        rw [nI_1]
        exact hc2
      · unfold w_X7_risky_L35
        rw [hF.2.1]
        refine i_f (nn (by omega)) ?_
        obtain ⟨s, hs1, hs2⟩ := hs i hi
        have key : ((lsF 1000000 f7 i).1 = -1 ∨ ¬ ((if (lsF 1000000 f7 i).1 = -1 then 0 else (lsF 1000000 f7 i).2) ≤ f7 i)) ↔ f7 i < (lsF 1000000 f7 i).2 := by
          by_cases q : (lsF 1000000 f7 i).1 = -1
          · rcases lsF_n (l0 := 1000000) (f := f7) i with r | ⟨j, hj, r⟩
            · rw [r.2, hs2]
              exact ⟨fun _ => nI_lt (b := 1000000) (by omega) (by decide), fun _ => Or.inl q⟩
            · rw [r] at q
              exact absurd q (nI_m1 (by omega))
          · rw [if_neg q, nlt_le]
            exact ⟨fun z => z.resolve_left q, Or.inr⟩
        show (if _ then c (nI i, f7 i, nI i + 1) else c (_, _, nI i + 1))
        rw [nI_1]
        refine i_b (fun z => ?_) (fun z => ?_)
        · have z2 := key.mp z
          rw [lsF_t z2] at hc
          simp only [if_neg (nI_m1 (x := i) (by omega))] at hc
          exact hc
        · have z2 : ¬ f7 i < (lsF 1000000 f7 i).2 := fun y => z (key.mpr y)
          rw [lsF_f z2] at hc
          exact hc
    · unfold w_X7_risky_L18
      rw [hF.1]
      refine i_f (nn (by omega)) ?_
      unfold w_X8_risky
      refine sLet_i ?_
      refine lp_to (fun i => ((lsF 1000000 f8 i).1, (lsF 1000000 f8 i).2, nI i)) nv (by unfold sk_F; omega) (fun i hi c hc => ?_) (fun c => ?_)
      · unfold w_X8_risky_L13 f_X8_people f_X8_vaults
        rw [show (sk_si M 140 0 0).1 141 0 = nI nv from hW.1, show (sk_si M 140 0 0).1 141 1 = nI np from hW.2.1]
        refine i_t ⟨nI_ge hi (by omega), fun q => nI_nle (by omega) (by omega) q⟩ ?_
        refine lp_to (fun p => (sumI (fun p => leftP (M.2 146) (4 * (6 * p + i)) 4) p, nI p)) np (by unfold sk_F; omega) (fun p hp c2 hc2 => ?_) (fun c2 => ?_)
        · unfold w_X8_risky_L34 f_X8_people
          rw [show (sk_si M 140 0 0).1 141 1 = nI np from hW.2.1]
          refine i_t (nI_ge hp (by omega)) (s8_leftOf (by omega) (by omega) (sLet_i ?_))
          rw [nI_1]
          exact hc2
        · unfold w_X8_risky_L34 f_X8_people
          rw [show (sk_si M 140 0 0).1 141 1 = nI np from hW.2.1]
          refine i_f (nn (by omega)) ?_
          show (if ¬ (f8 i < (lsF 1000000 f8 i).2) then c (_, _, nI i + 1) else c (nI i, f8 i, nI i + 1))
          rw [nI_1]
          refine i_b (fun z => ?_) (fun z => ?_)
          · rw [lsF_f z] at hc
            exact hc
          · rw [lsF_t (Classical.byContradiction z)] at hc
            exact hc
      · unfold w_X8_risky_L13 f_X8_people f_X8_vaults
        rw [show (sk_si M 140 0 0).1 141 0 = nI nv from hW.1]
        refine i_f (fun q => q.1 (nI_le (Nat.le_refl _) (by omega))) ⟨?_, h.scR scR_th⟩
        show (lsF 1000000 f7 nv).1 = (lsF 1000000 f8 nv).1
        rw [lsF_cg nv hf]
