/-! image, back, undo -/
theorem s8_imgL {M : sk_M} {K : sk_M → Prop} (h : K (sk_ri M 142 (cpn (M.1 141) (M.1 142) 0 0 1411))) : lp (w_X8_image_L7 K) sk_F ((0 : Int32), M) := by
  have e0 : ((0 : Int32), M) = (nI 0, sk_ri M 142 (cpn (M.1 141) (M.1 142) 0 0 0)) := by rw [cpn_0, ri_self rfl]; rfl
  rw [e0]
  refine lp_to (fun i => (nI i, sk_ri M 142 (cpn (M.1 141) (M.1 142) 0 0 i))) 1411 (by decide) (fun i hi c hk => ?_) (fun c => ?_)
  · unfold w_X8_image_L7
    refine i_t (nI_ge hi (by decide)) ?_
    have e2 : (sk_ri M 142 (cpn (M.1 141) (M.1 142) 0 0 i)).1 141 = M.1 141 := ri_c (by decide)
    refine ⟨vp_in_nI (by omega) (by decide), vp_in_nI (by omega) (by decide), sLet_i ?_⟩
    rw [nI_clamp (by omega), e2, si_ri, nI_1]
    have := cpn_sI (f := M.1 141) (g := M.1 142) (s := 0) (d := 0) (n := i)
    rw [Nat.zero_add] at this
    rw [this]
    exact hk
  · unfold w_X8_image_L7
    exact i_f (nn (n := 1411) (by decide)) h
theorem s8_backL {M : sk_M} {K : sk_M → Prop} (h : K (sk_ri M 141 (cpn (M.1 142) (M.1 141) 0 0 1411))) : lp (w_X8_back_L16 K) sk_F ((0 : Int32), M) := by
  have e0 : ((0 : Int32), M) = (nI 0, sk_ri M 141 (cpn (M.1 142) (M.1 141) 0 0 0)) := by rw [cpn_0, ri_self rfl]; rfl
  rw [e0]
  refine lp_to (fun i => (nI i, sk_ri M 141 (cpn (M.1 142) (M.1 141) 0 0 i))) 1411 (by decide) (fun i hi c hk => ?_) (fun c => ?_)
  · unfold w_X8_back_L16
    refine i_t (nI_ge hi (by decide)) ?_
    have e2 : (sk_ri M 141 (cpn (M.1 142) (M.1 141) 0 0 i)).1 142 = M.1 142 := ri_c (by decide)
    refine ⟨vp_in_nI (by omega) (by decide), vp_in_nI (by omega) (by decide), sLet_i ?_⟩
    rw [nI_clamp (by omega), e2, si_ri, nI_1]
    have := cpn_sI (f := M.1 142) (g := M.1 141) (s := 0) (d := 0) (n := i)
    rw [Nat.zero_add] at this
    rw [this]
    exact hk
  · unfold w_X8_back_L16
    exact i_f (nn (n := 1411) (by decide)) h
theorem st_image {M : sk_M} (h : Inv M) : w_X7_image M (fun M1 => w_X8_image M1 (fun M2 => Inv M2)) := by
  unfold w_X7_image w_X5_copyFrom
  refine sLet_i ?_
  generalize hM1 : sk_si (cpS M 10 0) 120 8 1 = M1
  unfold w_X8_image
  refine sLet_i (s8_imgL (s8_copies (by decide) (sLet_i ?_)))
  generalize hM2 : sk_ri (sk_si M1 140 0 0) 142 (cpn ((sk_si M1 140 0 0).1 141) ((sk_si M1 140 0 0).1 142) 0 0 1411) = M2
  generalize hN : sk_si (sk_rl M2 147 (cpn (M2.2 146) (M2.2 147) 0 0 144)) 140 11 1 = N
  obtain ⟨⟨⟨nv, np, nc, tx, dy, ch, lg, nr, op, hR⟩, hLw⟩, hTp, hIm, hMm, hTB, hc0⟩ := h
  have o1 : ∀ c, c ≠ 120 → M1.1 c = (cpS M 10 0).1 c := fun c hc => by rw [← hM1, si_c hc]
  have o2 : M1.2 = (cpS M 10 0).2 := by rw [← hM1]; rfl
  have p1 : ∀ c, c ≠ 140 → c ≠ 142 → N.1 c = M1.1 c := fun c h1 h2 => by rw [← hN, si_c h1, rl_1, ← hM2, ri_c h2, si_c h1]
  have p2 : ∀ c, c ≠ 147 → N.2 c = M1.2 c := fun c hc => by rw [← hN, si_2, rl_c hc, ← hM2]; rfl
  have e : ∀ c, c < 10 ∨ 19 ≤ c → c ≠ 120 → c ≠ 140 → c ≠ 142 → N.1 c = M.1 c := fun c h1 h2 h3 h4 => by rw [p1 c h3 h4, o1 c h2, cpS_o (by omega)]
  have f : ∀ c, c ≠ 19 → c ≠ 147 → N.2 c = M.2 c := fun c h1 h2 => by rw [p2 c h2, o2, cpS_2 (by omega)]
  have e2 : ∀ k, k ≠ 0 → k ≠ 11 → N.1 140 k = M.1 140 k := fun k h1 h2 => by
    rw [← hN, rd_si, if_neg (by omega), rl_1, ← hM2, ri_c (by omega), rd_si, if_neg (by omega), o1 140 (by omega), cpS_o (by omega)]
  have w : ∀ k, k < 1411 → N.1 142 k = M.1 141 k := fun k hk => by
    rw [← hN, si_c (by omega), rl_1, ← hM2, ri_s, cpn_in0 hk, si_c (by omega), o1 141 (by omega), cpS_o (by omega)]
  have kk : ∀ i, i < 144 → N.2 147 i = M.2 146 i := fun i hi => by
    rw [← hN, si_2, rl_s, cpn_in0 hi, ← hM2]
    show M1.2 146 i = _
    rw [o2, cpS_2 (by omega)]
  refine ⟨NowR.cg ⟨⟨nv, np, nc, tx, dy, ch, lg, nr, op, hR⟩, hLw⟩ (fun c _ => e c (by omega) (by omega) (by omega) (by omega)) (f 9 (by omega) (by omega)) (e 141 (by omega) (by omega) (by omega) (by omega)) (f 146 (by omega) (by omega)), ?_, ?_, ?_, ?_, ?_⟩
  · unfold TapR
    rw [e 121 (by omega) (by omega) (by omega) (by omega), e 122 (by omega) (by omega) (by omega) (by omega), e 151 (by omega) (by omega) (by omega) (by omega), e2 14 (by omega) (by omega), e2 19 (by omega) (by omega)]
    exact hTp
  · have i1 : N.1 140 11 = 1 := by rw [← hN, rd_si, if_pos ⟨rfl, rfl⟩]
    have i2 : N.1 120 8 = 1 := by rw [p1 120 (by omega) (by omega), ← hM1, rd_si, if_pos ⟨rfl, rfl⟩]
    have c1 : ∀ j, j < 10 → N.1 (10 + j) = (cpS M 10 0).1 (10 + j) := fun j hj => by rw [p1 _ (by omega) (by omega), o1 _ (by omega)]
    refine ⟨by rw [i1, i2], Or.inr ⟨i1, ⟨nv, np, nc, tx, dy, ch, lg, nr, op, ?_⟩, ?_⟩⟩
    · have hR0 : Rel (fun j => M.1 (0 + j)) (M.2 (0 + 9)) (M.1 141) (M.2 146) nv np nc tx dy ch lg nr op := by
        simp only [Nat.zero_add]
        exact hR
      have hc := cpS_rel (M := M) (b := 10) (o := 0) (by omega) hR0 (W' := N.1 142) (K' := N.2 147) (fun k hk => w k (by omega)) kk
      exact hc.cg (fun k _ => congrFun (c1 0 (by omega)) k) (fun k _ => congrFun (c1 1 (by omega)) k) (fun k _ => congrFun (c1 2 (by omega)) k) (fun k _ => congrFun (c1 3 (by omega)) k) (fun k _ => congrFun (c1 4 (by omega)) k) (fun k _ => congrFun (c1 5 (by omega)) k) (fun k _ => congrFun (c1 6 (by omega)) k) (fun k _ => congrFun (c1 8 (by omega)) k) (fun i _ => by rw [p2 19 (by omega), o2]) (fun _ _ => rfl) (fun _ _ => rfl)
    · have l4 : N.1 10 4 = M.1 0 4 := by rw [c1 0 (by omega)]; exact cpS_f (by omega) (by omega)
      rw [l4]
      refine hLw.cg (fun i hi => ?_) (w 4 (by omega)) (fun k _ k2 => w k k2)
      have := cpS_a (M := M) (b := 10) (o := 0) (by omega) (q := (7, 108)) (by decide) hi
      rw [c1 7 (by omega)]
      exact this
  · exact hMm.cg (fun c _ _ => e c (by omega) (by omega) (by omega) (by omega)) (fun c _ _ => f c (by omega) (by omega)) (e 123 (by omega) (by omega) (by omega) (by omega)) (e2 12 (by omega) (by omega)) (e 145 (by omega) (by omega) (by omega) (by omega)) (f 150 (by omega) (by omega)) (fun i _ => by rw [e 7 (by omega) (by omega) (by omega) (by omega)]) (by rw [e 0 (by omega) (by omega) (by omega) (by omega)]) (by rw [e 141 (by omega) (by omega) (by omega) (by omega)])
  · exact TB_cg hTB (e 130 (by omega) (by omega) (by omega) (by omega)) (e 134 (by omega) (by omega) (by omega) (by omega))
  · intro i hi
    rw [e 155 (by omega) (by omega) (by omega) (by omega)]
    exact hc0 i hi
theorem MemR.none {N : sk_M} {ns : Nat} (h0 : N.1 123 1 = 0) (h1 : N.1 123 2 = nI ns) (hn : ns < 10) (h2 : N.1 140 12 = 0) : MemR N := ⟨0, ns, by omega, hn, h0, h1, h2, fun j hj => absurd hj (by omega)⟩
theorem st_back {M : sk_M} (h : Inv M) : StN Inv (w_X7_back M) w_X8_back := by
  unfold StN w_X7_back w_X5_copyFrom w_X3_clear
  obtain ⟨hNw, hTp, hIm, hMm, hTB, hc0⟩ := id h
  obtain ⟨i1, i2⟩ := id hIm
  rcases i2 with q | ⟨q, ⟨nv, np, nc, tx, dy, ch, lg, nr, op, hR⟩, hLw⟩
  · refine i_t (by rw [i1]; exact q) ?_
    unfold w_X8_back
    refine sLet_i (i_t ?_ ⟨rfl, h.scR scR_th⟩)
    exact q
  · refine i_f (by rw [i1, q]; decide) ?_
    obtain ⟨sz, ns, hsz, hns, e1, e2, e3⟩ := hMm.get
    generalize hM1 : sk_si (cpS M 0 10) 123 1 0 = M1
    unfold w_X8_back
    have o1 : ∀ c, c ≠ 123 → M1.1 c = (cpS M 0 10).1 c := fun c hc => by rw [← hM1, si_c hc]
    have o2 : M1.2 = (cpS M 0 10).2 := by rw [← hM1]; rfl
    refine sLet_i (i_f ?_ (s8_backL (s8_copies (by decide) (sLet_i ⟨rfl, ?_⟩))))
    · show ¬ (M1.1 140 11 = 0)
      rw [o1 140 (by omega), cpS_o (by omega), q]
      decide
    generalize hM2 : sk_ri (sk_si M1 140 0 0) 141 (cpn ((sk_si M1 140 0 0).1 142) ((sk_si M1 140 0 0).1 141) 0 0 1411) = M2
    generalize hN : sk_si (sk_rl M2 146 (cpn (M2.2 147) (M2.2 146) 0 0 144)) 140 12 0 = N
    have p1 : ∀ c, c ≠ 140 → c ≠ 141 → N.1 c = M1.1 c := fun c h1 h2 => by rw [← hN, si_c h1, rl_1, ← hM2, ri_c h2, si_c h1]
    have p2 : ∀ c, c ≠ 146 → N.2 c = M1.2 c := fun c hc => by rw [← hN, si_2, rl_c hc, ← hM2]; rfl
    have e : ∀ c, 10 ≤ c → c ≠ 123 → c ≠ 140 → c ≠ 141 → N.1 c = M.1 c := fun c h1 h2 h3 h4 => by rw [p1 c h3 h4, o1 c h2, cpS_o (by omega)]
    have f : ∀ c, c ≠ 9 → c ≠ 146 → N.2 c = M.2 c := fun c h1 h2 => by rw [p2 c h2, o2, cpS_2 (by omega)]
    have g2 : ∀ k, k ≠ 0 → k ≠ 12 → N.1 140 k = M.1 140 k := fun k h1 h2 => by
      rw [← hN, rd_si, if_neg (by omega), rl_1, ← hM2, ri_c (by omega), rd_si, if_neg (by omega), o1 140 (by omega), cpS_o (by omega)]
    have w : ∀ k, k < 1411 → N.1 141 k = M.1 142 k := fun k hk => by
      rw [← hN, si_c (by omega), rl_1, ← hM2, ri_s, cpn_in0 hk, si_c (by omega), o1 142 (by omega), cpS_o (by omega)]
    have kk : ∀ i, i < 144 → N.2 146 i = M.2 147 i := fun i hi => by
      rw [← hN, si_2, rl_s, cpn_in0 hi, ← hM2]
      show M1.2 147 i = _
      rw [o2, cpS_2 (by omega)]
    have c1 : ∀ j, j < 10 → N.1 (0 + j) = (cpS M 0 10).1 (0 + j) := fun j hj => by rw [p1 _ (by omega) (by omega), o1 _ (by omega)]
    refine ⟨⟨⟨nv, np, nc, tx, dy, ch, lg, nr, op, ?_⟩, ?_⟩, ?_, ?_, ?_, ?_, ?_⟩
    · have hc := cpS_rel (M := M) (b := 0) (o := 10) (by omega) hR (W' := N.1 141) (K' := N.2 146) (fun k hk => w k (by omega)) kk
      have c2 : ∀ j, j < 10 → N.1 j = (cpS M 0 10).1 (0 + j) := fun j hj => by have := c1 j hj; rwa [Nat.zero_add] at this ⊢
      exact hc.cg (fun k _ => congrFun (c2 0 (by omega)) k) (fun k _ => congrFun (c2 1 (by omega)) k) (fun k _ => congrFun (c2 2 (by omega)) k) (fun k _ => congrFun (c2 3 (by omega)) k) (fun k _ => congrFun (c2 4 (by omega)) k) (fun k _ => congrFun (c2 5 (by omega)) k) (fun k _ => congrFun (c2 6 (by omega)) k) (fun k _ => congrFun (c2 8 (by omega)) k) (fun i _ => by rw [p2 9 (by omega), o2]) (fun _ _ => rfl) (fun _ _ => rfl)
    · have l4 : N.1 0 4 = M.1 10 4 := (congrFun (c1 0 (by omega)) 4).trans (cpS_f (by omega) (by omega))
      rw [l4]
      refine hLw.cg (fun i hi => ?_) (w 4 (by omega)) (fun k _ k2 => w k k2)
      have t := cpS_a (M := M) (b := 0) (o := 10) (by omega) (q := (7, 108)) (by decide) hi
      exact (congrFun (c1 7 (by omega)) i).trans t
    · unfold TapR
      rw [e 121 (by omega) (by omega) (by omega) (by omega), e 122 (by omega) (by omega) (by omega) (by omega), e 151 (by omega) (by omega) (by omega) (by omega), g2 14 (by omega) (by omega), g2 19 (by omega) (by omega)]
      exact hTp
    · exact hIm.cg (fun c _ _ => e c (by omega) (by omega) (by omega) (by omega)) (f 19 (by omega) (by omega)) (by rw [e 120 (by omega) (by omega) (by omega) (by omega)]) (g2 11 (by omega) (by omega)) (e 142 (by omega) (by omega) (by omega) (by omega)) (f 147 (by omega) (by omega))
    · refine MemR.none (ns := ns) ?_ ?_ hns ?_
      · rw [p1 123 (by omega) (by omega), ← hM1, rd_si, if_pos ⟨rfl, rfl⟩]
      · rw [p1 123 (by omega) (by omega), ← hM1, rd_si, if_neg (by omega), cpS_o (by omega)]
        exact e2
      · rw [← hN, rd_si, if_pos ⟨rfl, rfl⟩]
    · exact TB_cg hTB (e 130 (by omega) (by omega) (by omega) (by omega)) (e 134 (by omega) (by omega) (by omega) (by omega))
    · intro i hi
      rw [e 155 (by omega) (by omega) (by omega) (by omega)]
      exact hc0 i hi
