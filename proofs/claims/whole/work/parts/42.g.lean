/-! trial -/
theorem st_trial {M : sk_M} (h : Inv M) (a d : Int32) : StI Inv (fun Q X => w_X7_trial a d M Q X) (w_X8_trial a d) ["java/lang/IllegalArgumentException"] := by
  unfold StI w_X7_trial w_X7_needTrial
  obtain ⟨nv, np, nc, tx, dy, ch, lg, nr, op, hR⟩ := h.1.1
  obtain ⟨hN, hF, hW, hS, hV, hC, hL, hK, hT⟩ := id hR
  obtain ⟨n1, n2, n3, n4, n5, n6, n7, n8, n9⟩ := id hN
  have inF : f_X8_in a 0 40 = 0 ↔ ((a < 0) ∨ (¬ (a ≤ (40 : Int32)))) := by
    unfold f_X8_in
    constructor
    · intro z
      refine Classical.byContradiction fun q => ?_
      rw [if_pos ⟨fun y => q (Or.inl y), fun y => q (Or.inr (Int32.not_le.mpr y))⟩] at z
      exact absurd z (by decide)
    · intro z
      rw [if_neg]
      rintro ⟨q1, q2⟩
      rcases z with y | y
      · exact q1 y
      · exact q2 (Int32.not_le.mp y)
  refine i_b (fun q => ⟨0, rfl, ?_⟩) (fun q => ?_)
  · unfold w_X8_trial
    exact sLet_i (sLet_i (gN (if_pos (inF.mpr q)) (dueX h rfl)))
  have q' := q
  obtain ⟨n, hn40, rfl⟩ : ∃ n, n ≤ 40 ∧ a = nI n := by
    have h1 : ¬ a < 0 := fun z => q (Or.inl z)
    have h2 : a ≤ 40 := Classical.not_not.mp (fun z => q (Or.inr z))
    rw [Int32.le_iff_toInt_le] at h2
    have c2 : (40 : Int32).toInt = 40 := rfl
    rw [c2] at h2
    have hv : vp_in a 41 := by
      rintro (z | z)
      · exact h1 z
      · have z' : 41 ≤ a.toInt.toNat := z
        omega
    obtain ⟨n, hn, e⟩ := vp_in_of hv (by omega)
    exact ⟨n, by omega, e⟩
  unfold w_X2_work
  rw [hF.1, hF.2.2.2.2.2.1, nI_clamp (n := nv) (by omega), nI_clamp (n := n) (by omega)]
  refine ⟨vp_in_nI (by omega) (by decide), vp_in_nI (by omega) (by decide), fun M2 l2 => ?_⟩
  rw [show M.1 (0 + 1) = M.1 1 from rfl] at l2
  obtain ⟨b, hb, hbv⟩ := toldI.days (ch := nI ch) (nv := nv) n1 (cd := M.1 1) (k := (M.1 0 7, M.1 1, 0, 0)) (b := 0) ⟨rfl, by decide, fun v _ => ⟨fun z => absurd z (by simp), fun _ => rfl⟩⟩ n
  generalize hk : lkN (nI ch) nv (M.1 0 7, M.1 1, 0, 0) n = k at l2 hb
  obtain ⟨t1, t2, t3⟩ := hb
  obtain ⟨a1, a2, a3, a4, a5, a6⟩ := l2
  have sc : scC M M2 := ⟨fun c hc => a1 c (by omega) (by omega), a2, fun t => TB_cg t (a1 130 (by omega) (by omega)) (a1 134 (by omega) (by omega))⟩
  have hI2 := h.scC sc
  have m0 : M2.1 0 = M.1 0 := a1 0 (by omega) (by omega)
  have m9 : M2.2 9 = M.2 9 := by rw [a2]
  -- the reference's days, and what they leave
  have run : ∀ x : Int32, (∀ N3 : sk_M, N3.1 141 0 = nI nv → N3.1 141 1 = nI np → (∀ v, v < nv → N3.1 141 (10 + 4 * v) = k.2.1 v ∧ N3.1 144 (10 + 4 * v) = M.1 1 v) → (∀ i, i < 144 → N3.2 146 i = if b.testBit (i / 4 % 6) = true then kMask (i % 4) else M.2 146 i) → ∀ K : Int32 → Prop, K x → if ¬ (d = 0) then w_X8_unknown N3 K else w_X8_changedOnes N3 K) → w_X8_trial (nI n) d (sk_sl M2 158 0 x.toInt64) (fun b M2 => M2.1 140 0 = 0 ∧ M2.2 158 0 = b.toInt64 ∧ Inv M2) := by
    intro x hx
    unfold w_X8_trial
    refine sLet_i (sLet_i (gY (if_neg (fun z => q' (inF.mp z))) (s8_keepsAll (fun N k0 => ?_))))
    obtain ⟨k1, k2, k3, k4⟩ := k0
    have w1 : N.1 141 = M.1 141 := by rw [k1 141 (by omega), si_c (by omega)]; exact sc.1 141 (by omega)
    have k6 : N.2 146 = M.2 146 := by rw [k2 146 (by omega)]; show (sk_sl M2 158 0 x.toInt64).2 146 = _; rw [sl_c (by omega), a2]
    refine s8_many (M0 := N) (nv := nv) (n := n) (dy := dy) (ch := nI ch) (k := (M.1 0 7, M.1 1, 0, 0)) (b := 0) (K := fun s51 => if ¬ (d = 0) then w_X8_unknown s51 (fun r56 => w_X8_bringsBack s51 (fun M68 => M68.1 140 0 = 0 ∧ M68.2 158 0 = r56.toInt64 ∧ Inv M68)) else w_X8_changedOnes s51 (fun r56 => w_X8_bringsBack s51 (fun M68 => M68.1 140 0 = 0 ∧ M68.2 158 0 = r56.toInt64 ∧ Inv M68))) (fun c s hh => by unfold w_X8_trial_L36; exact hh) n1 (by omega) n5 (by rw [w1]; exact hW.1) (by rw [w1]; exact hW.2.2.2.2.2.1) ?_ (fun N1 b' g => ?_)
    · refine ⟨⟨fun _ _ => rfl, fun _ _ => rfl⟩, ⟨by rw [w1]; exact hS.1.symm, (Int32.add_zero _).symm, by rw [w1]; exact hW.2.2.2.2.1⟩, ⟨rfl, by decide⟩, fun v hv => ⟨?_, by rw [if_neg (by simp)]⟩, fun _ _ _ _ _ => rfl, fun i _ => by rw [if_neg (by simp)], fun _ _ => rfl⟩
      obtain ⟨c, hc, g1, g2⟩ := (hV v hv).1
      rw [w1, g2]
      exact g1.symm
    rw [hk] at g
    obtain ⟨⟨g1, g2⟩, ⟨g3, g4, g5⟩, ⟨g6, g7⟩, g8, g9, g10, g11⟩ := g
    have eb : b' = b := (nI_eq (by omega) (by omega)).mp (g6.symm.trans t1)
    subst eb
    have o144 : ∀ i, i < 562 → N1.1 144 i = M.1 141 i := fun i hi => by rw [g1 144 (by omega), k3 i hi, si_c (by omega)]; exact congrFun (sc.1 141 (by omega)) i
    refine hx N1 ?_ ?_ (fun v hv => ⟨(g8 v hv).1, ?_⟩) (fun i hi => by rw [g10 i hi, k6]) _ (s8_bringsBack (fun N2 b1 b2 b3 b4 b5 b6 => ?_))
    · rw [g9 0 (by omega) (by omega) (by omega) (fun v hv => by omega), w1]; exact hW.1
    · rw [g9 1 (by omega) (by omega) (by omega) (fun v hv => by omega), w1]; exact hW.2.1
    · obtain ⟨c, hc, x1, x2⟩ := (hV v hv).1
      rw [o144 _ (by omega), x2]
      exact x1.symm
    · have r1 : scR (sk_sl M2 158 0 x.toInt64) N2 := by
        refine ⟨fun c hc => ?_, fun j hj => ?_, fun c hc => ?_, fun hz i hi => ?_⟩
        · by_cases z : c = 141
          · subst z
            funext i
            show N2.1 141 i = M2.1 141 i
            rw [sc.1 141 (by omega)]
            by_cases y : i < 562
            · rw [b3 i y, o144 i y]
            · rw [b4 i (by omega), g9 i (by omega) (by omega) (by omega) (fun v hv => by omega), w1]
          · rw [b1 c z, g1 c z, k1 c (by omega), si_c (by omega)]
        · rw [b1 140 (by omega), g1 140 (by omega), k1 140 (by omega), rd_si, if_neg (fun z => hj z.2)]
        · by_cases z : c = 146
          · subst z
            funext i
            rw [sl_c (by omega), a2]
            by_cases y : i < 144
            · rw [b5 i y, g2 149 (by omega), k4 i y]
              show (sk_sl M2 158 0 x.toInt64).2 146 i = _
              rw [sl_c (by omega), a2]
            · rw [b6 i (by omega), g11 i (by omega), k6]
          · rw [b2 c z, g2 c z, k2 c hc]; rfl
        · rw [b1 155 (by omega), g1 155 (by omega), k1 155 (by omega), si_c (by omega)]
          exact hz i hi
      refine due hI2 r1 ?_ rfl
      rw [b1 140 (by omega), g1 140 (by omega), k1 140 (by omega)]
      exact th_0
  refine i_b (fun z => ?_) (fun z => ?_)
  · refine c7_unknown (nv := nv) (np := np) (b := b) n1 n2 (by rw [m0]; exact hF.1) (by rw [m0]; exact hF.2.1) (by rw [a5, t1]) t2 (run _ (fun N3 x0 x1 x2 x3 K hK9 => i_t z (s8_unknown n1 n2 x0 x1 ?_)))
    rw [sN_swap]
    have e : (fun j => sN (fun i => ind (leftP (N3.2 146) (4 * (6 * i + j)) 4 = 216)) np) = fun j => sN (fun i => ind (leftP (N3.2 146) (4 * (6 * i + j)) 4 = 216)) np := rfl
    rw [sN_cg nv (fun v hv => sN_cg np (fun p hp => ind_cg (P' := b.testBit v = true ∨ leftP (M2.2 9) (4 * (6 * p + v)) 4 = 216) ?_))]
    · exact hK9
    · by_cases y : b.testBit v = true
      · refine ⟨fun _ => Or.inl y, fun _ => left_full (fun k hk9 => ?_)⟩
        rw [x3 _ (by omega), show (4 * (6 * p + v) + k) / 4 % 6 = v by omega, if_pos y, show (4 * (6 * p + v) + k) % 4 = k by omega]
      · rw [m9, hR.left hp hv]
        have el : leftP (N3.2 146) (4 * (6 * p + v)) 4 = leftP (M.2 146) (4 * (6 * p + v)) 4 := by
          have w : ∀ k, k < 4 → N3.2 146 (4 * (6 * p + v) + k) = M.2 146 (4 * (6 * p + v) + k) := fun k hk9 => by
            rw [x3 _ (by omega), show (4 * (6 * p + v) + k) / 4 % 6 = v by omega, if_neg y]
          simp only [leftP]
          rw [show N3.2 146 (4 * (6 * p + v) + 0) = _ from w 0 (by omega), w 1 (by omega), w 2 (by omega), w 3 (by omega)]
        rw [el]
        exact ⟨Or.inr, fun u => u.resolve_left y⟩
  · unfold w_X2_changedFrom
    rw [m0, hF.1, nI_clamp (by omega)]
    refine ⟨vp_in_nI (by omega) (by decide), run _ (fun N3 x0 x1 x2 x3 K hK9 => i_f z (s8_changedOnes n1 x0 ?_))⟩
    rw [bitsP_cg nv (fun v hv => ?_)]
    · exact hK9
    · show ¬ N3.1 141 (10 + 4 * v) = N3.1 144 (10 + 4 * v) ↔ ¬ M2.1 139 v = M2.1 1 v
      rw [(x2 v hv).1, (x2 v hv).2, a6 v (by omega), a1 1 (by omega) (by omega)]
