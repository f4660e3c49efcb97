/-! span: the class's best of six seeds -/
theorem st_span {M : sk_M} (h : Inv M) (a d : Int32) : StI Inv (fun Q X => w_X7_span a d M Q X) (w_X8_span a d) ["java/lang/IllegalArgumentException"] := by
  unfold StI w_X7_span w_X7_needTrial
  obtain ⟨nv, np, nc, tx, dy, ch, lg, nr, op, hR⟩ := h.1.1
  obtain ⟨hN, hF, hW, hS, hV, hC, hL, hK, hT⟩ := id hR
  obtain ⟨n1, n2, n3, n4, n5, n6, n7, n8, n9⟩ := id hN
  have inF : f_X8_in a 0 40 = 0 ↔ ((a < 0) ∨ (¬ (a ≤ (40 : Int32)))) := by
    unfold f_X8_in
    constructor
    · intro z
      refine Classical.byContradiction fun q => ?_
      rw [if_pos ⟨fun y => q (Or.inl y), fun y => q (Or.inr (Int32.not_le.mpr y))⟩] at z
      exact absurd z (by decide)
    · intro z
      rw [if_neg]
      rintro ⟨q1, q2⟩
      rcases z with y | y
      · exact q1 y
      · exact q2 (Int32.not_le.mp y)
  refine i_b (fun q => ⟨0, rfl, ?_⟩) (fun q => ?_)
  · unfold w_X8_span
    exact sLet_i (sLet_i (gN (if_pos (inF.mpr q)) (dueX h rfl)))
  have q' := q
  obtain ⟨n, hn40, rfl⟩ : ∃ n, n ≤ 40 ∧ a = nI n := by
    have h1 : ¬ a < 0 := fun z => q (Or.inl z)
    have h2 : a ≤ 40 := Classical.not_not.mp (fun z => q (Or.inr z))
    rw [Int32.le_iff_toInt_le] at h2
    have c2 : (40 : Int32).toInt = 40 := rfl
    rw [c2] at h2
    have hv : vp_in a 41 := by
      rintro (z | z)
      · exact h1 z
      · have z' : 41 ≤ a.toInt.toNat := z
        omega
    obtain ⟨n, hn, e⟩ := vp_in_of hv (by omega)
    exact ⟨n, by omega, e⟩
  have hy : ∀ s, 0 ≤ spY (M.1 1) (nI ch) nv n s := fun s => bc_pos n1
  obtain ⟨V, V0, Vs, Vok⟩ : ∃ V : Nat → Int32, V 0 = -1 ∧ (∀ i, V (i + 1) = if ¬ (0 ≤ V i) then spY (M.1 1) (nI ch) nv n (i + 1) else if ¬ (d = 0) then mxI (V i) (spY (M.1 1) (nI ch) nv n (i + 1)) else mnI (V i) (spY (M.1 1) (nI ch) nv n (i + 1))) ∧ ∀ i, V i = -1 ∨ 0 ≤ V i := ⟨spB (spY (M.1 1) (nI ch) nv n) d, rfl, fun _ => rfl, spB_ok hy⟩
  refine lp_inv (fun i s => s.1 = V i ∧ s.2.1 = nI (i + 1) ∧ scC M s.2.2) 6 (by decide) ⟨V0.symm, rfl, scC.rfl⟩ (fun i hi s c hI hc => ?_) (fun s c hI => ?_)
  · obtain ⟨s1, s2, sM⟩ := s
    obtain ⟨i1, i2, i3⟩ := hI
    dsimp only at i1 i2 i3
    subst i1 i2
    have m0 : sM.1 0 = M.1 0 := i3.1 0 (by omega)
    have m1 : sM.1 1 = M.1 1 := i3.1 1 (by omega)
    unfold w_X7_span_L9
    refine i_t (nI_nlt (a := 6) (by omega) (by decide)) ?_
    unfold w_X2_work
    dsimp only
    rw [m0, hF.1, hF.2.2.2.2.2.1, nI_clamp (n := nv) (by omega), nI_clamp (n := n) (by omega), show sM.1 (0 + 1) = M.1 1 from m1]
    refine ⟨vp_in_nI (by omega) (by decide), vp_in_nI (by omega) (by decide), fun M2 l2 => ?_⟩
    obtain ⟨a1, a2, a3, a4, a5, a6⟩ := l2
    have sc : scC M M2 := i3.trans ⟨fun c hc => a1 c (by omega) (by omega), a2, fun t => TB_cg t (a1 130 (by omega) (by omega)) (a1 134 (by omega) (by omega))⟩
    unfold w_X2_changedFrom
    rw [a1 0 (by omega) (by omega), m0, hF.1, nI_clamp (n := nv) (by omega)]
    refine ⟨vp_in_nI (by omega) (by decide), sLet_i ?_⟩
    have ey : bc32 (bitsP (fun j => ¬ M2.1 139 j = M2.1 (0 + 1) j) nv) = spY (M.1 1) (nI ch) nv n (i + 1) := by
      unfold spY
      rw [bitsP_cg nv (fun v hv => ?_)]
      show ¬ M2.1 139 v = M2.1 1 v ↔ _
      rw [a6 v (by omega), a1 1 (by omega) (by omega), m1]
    rw [ey, nI_1]
    have ok := Vok i
    have go : ∀ x, x = V (i + 1) → c (x, nI (i + 1 + 1), M2) := fun x hx => hc _ ⟨hx, rfl, sc⟩
    rw [Vs] at go
    generalize V i = B at ok go ⊢
    generalize spY (M.1 1) (nI ch) nv n (i + 1) = y at go ⊢
    refine i_b (fun q1 => ?_) (fun q1 => ?_)
    · have b0 : 0 ≤ B := ok.resolve_left q1
      rw [if_neg (fun w => w b0)] at go
      refine i_b (fun q2 => ?_) (fun q2 => ?_)
      · rw [if_pos q2] at go
        unfold mxI at go
        refine i_b (fun q3 => go _ ?_) (fun q3 => go _ ?_)
        · rw [if_pos (nlt_le.mp q3)]
        · rw [if_neg (fun w => q3 (nlt_le.mpr w))]
      · rw [if_neg q2] at go
        unfold mnI at go
        refine i_b (fun q3 => go _ ?_) (fun q3 => go _ ?_)
        · rw [if_pos (nlt_le.mp q3)]
        · rw [if_neg (fun w => q3 (nlt_le.mpr w))]
    · have b1 : B = -1 := Classical.not_not.mp q1
      refine go _ ?_
      rw [b1, if_pos (by decide)]
  · obtain ⟨s1, s2, M2⟩ := s
    obtain ⟨i1, i2, sc⟩ := hI
    dsimp only at i1 i2 sc
    generalize hx : V 6 = x at i1
    subst i1
    subst i2
    have hI2 := h.scC sc
    unfold w_X7_span_L9
    refine i_f (fun z => z (nI_lt (a := 6) (b := 6 + 1) (by decide) (by decide))) ?_
    dsimp only
    unfold w_X8_span
    refine sLet_i (sLet_i (gY (if_neg (fun z => q' (inF.mp z))) (s8_keepsAll (fun N k0 => ?_))))
    obtain ⟨k1, k2, k3, k4⟩ := k0
    have w1 : N.1 141 = M.1 141 := by rw [k1 141 (by omega), si_c (by omega)]; exact sc.1 141 (by omega)
    have z0 : ((-1 : Int32), (1 : Int32), N) = (V 0, nI (0 + 1), N) := by rw [V0]; rfl
    rw [z0]
    refine lp_to (fun i => (V i, nI (i + 1), N)) 6 (by decide) (fun i hi c hc => ?_) (fun c => ?_)
    · unfold w_X8_span_L39
      refine i_t (nI_nlt (a := 6) (by omega) (by decide)) (sLet_i ?_)
      dsimp only
      refine s8_spanOne (C := fun y81 M84 => if (¬ (0 ≤ V i)) then c (y81, nI (i + 1) + (1 : Int32), M84) else (if (¬ (d = 0)) then sLet (mxI (V i) y81) fun y115 => c (y115, nI (i + 1) + (1 : Int32), M84) else sLet (mnI (V i) y81) fun y115 => c (y115, nI (i + 1) + (1 : Int32), M84))) (s := i + 1) (cd := M.1 1) (ch := nI ch) (dy := dy) n1 hn40 n5 (by rw [w1]; exact hW.1) (by rw [w1]; exact hW.2.2.2.2.2.1) (by rw [w1]; exact hW.2.2.2.2.1) (fun v hv => ?_) (fun j hj => ?_) (fun j hj => ?_) ?_
      · obtain ⟨u, hu, x1, x2⟩ := (hV v hv).1
        rw [w1, x2]
        exact x1.symm
      · rw [k3 j hj, k1 141 (by omega)]
      · rw [k4 j hj, k2 146 (by omega)]
      · rw [nI_1]
        rw [Vs] at hc
        refine i_b (fun q1 => ?_) (fun q1 => i_b (fun q2 => sLet_i ?_) (fun q2 => sLet_i ?_))
        · rw [if_pos q1] at hc; exact hc
        · rw [if_neg q1, if_pos q2] at hc; exact hc
        · rw [if_neg q1, if_neg q2] at hc; exact hc
    · unfold w_X8_span_L39
      refine i_f (fun z => z (nI_lt (a := 6) (b := 6 + 1) (by decide) (by decide))) ?_
      have r1 : scR (sk_sl M2 158 0 s1.toInt64) N := by
        refine ⟨fun c hc => ?_, fun j hj => ?_, fun c hc => ?_, fun hz i hi => ?_⟩
        · rw [k1 c (by omega), si_c (by omega)]
        · rw [k1 140 (by omega), rd_si, if_neg (fun z => hj z.2)]
        · rw [k2 c hc]; rfl
        · rw [k1 155 (by omega), si_c (by omega)]
          exact hz i hi
      refine due hI2 r1 ?_ hx.symm
      rw [k1 140 (by omega)]
      exact th_0
