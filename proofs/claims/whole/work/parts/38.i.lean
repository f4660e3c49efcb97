/-! undo, tell, guard -/
theorem s8_undL {M : sk_M} {Q : Int32 → sk_M → Prop} {r : Nat} (e : M.1 140 12 = nI r) (hr : r < 10) (h : Q 1 (sk_rl (sk_ri M 141 (cpn (M.1 145) (M.1 141) (562 * r) 0 562)) 146 (cpn (M.2 150) (M.2 146) (144 * r) 0 144))) : lp (w_X8_undo_L26 (fun s60 : sk_M => lp (w_X8_undo_L62 Q) sk_F ((0 : Int32), s60))) sk_F ((0 : Int32), M) := by
  have e0 : ((0 : Int32), M) = (nI 0, sk_ri M 141 (cpn (M.1 145) (M.1 141) (562 * r) 0 0)) := by rw [cpn_0, ri_self rfl]; rfl
  rw [e0]
  refine lp_to (fun i => (nI i, sk_ri M 141 (cpn (M.1 145) (M.1 141) (562 * r) 0 i))) 562 (by decide) (fun i hi c hk => ?_) (fun c => ?_)
  · unfold w_X8_undo_L26
    refine i_t (nI_ge hi (by decide)) ?_
    have e1 : (sk_ri M 141 (cpn (M.1 145) (M.1 141) (562 * r) 0 i)).1 140 12 = nI r := by rw [ri_c (by decide)]; exact e
    have e2 : (sk_ri M 141 (cpn (M.1 145) (M.1 141) (562 * r) 0 i)).1 145 = M.1 145 := ri_c (by decide)
    simp (disch := omega) only [e1, e2, sk_lit, nI_add, pk_mul, pk_divN, rmN, pk_sub, nI_clamp, nI_leI, nI_ltI, nI_eq, vpT, mnN, mxN, sLet, si_ri]
    refine ⟨trivial, trivial, ?_⟩
    have := cpn_sI (f := M.1 145) (g := M.1 141) (s := 562 * r) (d := 0) (n := i)
    rw [Nat.zero_add] at this
    rw [this]
    exact hk
  · unfold w_X8_undo_L26
    refine i_f (nn (n := 562) (by decide)) ?_
    generalize hM1 : sk_ri M 141 (cpn (M.1 145) (M.1 141) (562 * r) 0 562) = M1 at h ⊢
    have e3 : M1.1 140 12 = nI r := by rw [← hM1, ri_c (by decide)]; exact e
    have e4 : M1.2 = M.2 := by rw [← hM1]; rfl
    rw [← e4] at h
    show lp _ _ _
    have e5 : ((0 : Int32), M1) = (nI 0, sk_rl M1 146 (cpn (M1.2 150) (M1.2 146) (144 * r) 0 0)) := by rw [cpn_0, rl_self rfl]; rfl
    rw [e5]
    refine lp_to (fun i => (nI i, sk_rl M1 146 (cpn (M1.2 150) (M1.2 146) (144 * r) 0 i))) 144 (by decide) (fun i hi c hk => ?_) (fun c => ?_)
    · unfold w_X8_undo_L62
      refine i_t (nI_ge hi (by decide)) ?_
      have e6 : (sk_rl M1 146 (cpn (M1.2 150) (M1.2 146) (144 * r) 0 i)).1 140 12 = nI r := e3
      have e7 : (sk_rl M1 146 (cpn (M1.2 150) (M1.2 146) (144 * r) 0 i)).2 150 = M1.2 150 := rl_c (by decide)
      simp (disch := omega) only [e6, e7, sk_lit, nI_add, pk_mul, pk_divN, rmN, pk_sub, nI_clamp, nI_leI, nI_ltI, nI_eq, vpT, mnN, mxN, sLet, sl_rl]
      refine ⟨trivial, trivial, ?_⟩
      have := cpn_sL (f := M1.2 150) (g := M1.2 146) (s := 144 * r) (d := 0) (n := i)
      rw [Nat.zero_add] at this
      rw [this]
      exact hk
    · unfold w_X8_undo_L62
      exact i_f (nn (n := 144) (by decide)) h
theorem st_undo {M : sk_M} (h : Inv M) : StN Inv (w_X7_undo M) w_X8_undo := by
  unfold StN w_X7_undo w_X3_giveBack
  obtain ⟨hNw, hTp, hIm, hMm, hTB, hc0⟩ := id h
  obtain ⟨sz, ns, hsz, hns, q3, q4, q5, q6⟩ := id hMm
  rw [q3, q4]
  refine ⟨vp_in_nI hns (by decide), vp_in_nI (by omega) (by decide), ?_⟩
  rw [nI_clamp (by omega), nI_clamp (by omega)]
  refine i_b (fun z => ⟨Or.inl rfl, ?_⟩) (fun z => ⟨Or.inr rfl, ?_⟩)
  · unfold w_X8_undo
    refine sLet_i (i_t ?_ ⟨rfl, h.scR scR_th⟩)
    show M.1 140 12 = 0
    rw [q5, z]
    rfl
  · have q60 := q6 0 (by omega)
    rw [Nat.sub_zero, Nat.sub_zero] at q60
    obtain ⟨⟨nv, np, nc, tx, dy, ch, lg, nr, op, hR⟩, b2, b3, b4⟩ := q60
    have hlt : (ns + 9) % 10 < 10 := Nat.mod_lt _ (by decide)
    generalize hxx : (ns + 9) % 10 = x at hR b2 b3 b4 hlt ⊢
    generalize hM1 : cpS (sk_si (sk_si M 123 2 (nI x)) 123 1 (nI (sz - 1))) 0 (20 + 10 * x) = M1
    have o1 : ∀ c, 10 ≤ c → c ≠ 123 → M1.1 c = M.1 c := fun c h1 h2 => by rw [← hM1, cpS_o (Or.inr (by omega)), si_c h2, si_c h2]
    have o2 : ∀ c, c ≠ 9 → M1.2 c = M.2 c := fun c h1 => by rw [← hM1, cpS_2 (by omega)]; rfl
    unfold w_X8_undo
    have r12 : (sk_si M1 140 0 0).1 140 12 = nI sz := by rw [rd_si, if_neg (by omega), o1 140 (by omega) (by omega)]; exact q5
    refine sLet_i (i_f ?_ (sLet_i ?_))
    · rw [r12]
      exact nI_ne0 (by omega) (by omega)
    generalize hM2 : sk_si (sk_si M1 140 0 0) 140 12 ((sk_si M1 140 0 0).1 140 12 - 1) = M2
    have r13 : M2.1 140 12 = nI (sz - 1) := by
      rw [← hM2, rd_si, if_pos ⟨rfl, rfl⟩, r12]
      exact pk_sub (a := sz) (b := 1) (by omega)
    refine s8_undL r13 (by omega) ⟨rfl, ?_⟩
    generalize hN : sk_rl (sk_ri M2 141 (cpn (M2.1 145) (M2.1 141) (562 * (sz - 1)) 0 562)) 146 (cpn (M2.2 150) (M2.2 146) (144 * (sz - 1)) 0 144) = N
    have p1 : ∀ c, c ≠ 140 → c ≠ 141 → N.1 c = M1.1 c := fun c h1 h2 => by rw [← hN, rl_1, ri_c h2, ← hM2, si_c h1, si_c h1]
    have p2 : ∀ c, c ≠ 146 → N.2 c = M1.2 c := fun c hc => by rw [← hN, rl_c hc, ri_2, ← hM2]; rfl
    have e : ∀ c, 10 ≤ c → c ≠ 123 → c ≠ 140 → c ≠ 141 → N.1 c = M.1 c := fun c h1 h2 h3 h4 => by rw [p1 c h3 h4, o1 c h1 h2]
    have f : ∀ c, c ≠ 9 → c ≠ 146 → N.2 c = M.2 c := fun c h1 h2 => by rw [p2 c h2, o2 c h1]
    have g2 : ∀ k, k ≠ 0 → k ≠ 12 → N.1 140 k = M.1 140 k := fun k h1 h2 => by
      rw [← hN, rl_1, ri_c (by omega), ← hM2, rd_si, if_neg (by omega), rd_si, if_neg (by omega), o1 140 (by omega) (by omega)]
    have w : ∀ k, k < 562 → N.1 141 k = M.1 145 (562 * (sz - 1) + k) := fun k hk => by
      rw [← hN, rl_1, ri_s]
      have := cpn_in (f := M2.1 145) (g := M2.1 141) (s := 562 * (sz - 1)) (d := 0) hk
      rw [Nat.zero_add] at this
      rw [this, ← hM2, si_c (by omega), si_c (by omega), o1 145 (by omega) (by omega)]
    have w2 : ∀ k, 562 ≤ k → N.1 141 k = M.1 141 k := fun k hk => by
      rw [← hN, rl_1, ri_s, cpn_out (by omega), ← hM2, si_c (by omega), si_c (by omega), o1 141 (by omega) (by omega)]
    have kk : ∀ i, i < 144 → N.2 146 i = M.2 150 (144 * (sz - 1) + i) := fun i hi => by
      rw [← hN, rl_s]
      have := cpn_in (f := M2.2 150) (g := M2.2 146) (s := 144 * (sz - 1)) (d := 0) hi
      rw [Nat.zero_add] at this
      rw [this, ← hM2]
      show M1.2 150 _ = _
      rw [o2 150 (by omega)]
    have s1 : ∀ c, c ≠ 123 → (sk_si (sk_si M 123 2 (nI x)) 123 1 (nI (sz - 1))).1 c = M.1 c := fun c hc => by rw [si_c hc, si_c hc]
    have c1 : ∀ j, j < 10 → N.1 j = M1.1 (0 + j) := fun j hj => by rw [Nat.zero_add, p1 _ (by omega) (by omega)]
    have l7 : ∀ i, i < 108 → N.1 7 i = M.1 7 i := fun i hi => by
      rw [p1 7 (by omega) (by omega), ← hM1]
      have t := cpS_a (M := sk_si (sk_si M 123 2 (nI x)) 123 1 (nI (sz - 1))) (b := 0) (o := 20 + 10 * x) (by omega) (q := (7, 108)) (by decide) hi
      rw [Nat.zero_add] at t
      rw [t, s1 _ (by show 20 + 10 * x + 7 ≠ 123; omega)]
      exact b2 i hi
    have l4 : N.1 0 4 = M.1 0 4 := by
      rw [p1 0 (by omega) (by omega), ← hM1, cpS_f (by omega) (by omega), s1 _ (by omega), b3]
    have w4 : N.1 141 4 = M.1 141 4 := by rw [w 4 (by omega), b4]
    refine ⟨⟨⟨nv, np, nc, tx, dy, ch, lg, nr, op, ?_⟩, ?_⟩, ?_, ?_, ?_, ?_, ?_⟩
    · have hR' : Rel (fun j => (sk_si (sk_si M 123 2 (nI x)) 123 1 (nI (sz - 1))).1 (20 + 10 * x + j)) ((sk_si (sk_si M 123 2 (nI x)) 123 1 (nI (sz - 1))).2 (20 + 10 * x + 9)) (fun k => M.1 145 (562 * (sz - 1) + k)) (fun k => M.2 150 (144 * (sz - 1) + k)) nv np nc tx dy ch lg nr op := by
        refine hR.cg (fun k _ => ?_) (fun k _ => ?_) (fun k _ => ?_) (fun k _ => ?_) (fun k _ => ?_) (fun k _ => ?_) (fun k _ => ?_) (fun k _ => ?_) (fun _ _ => rfl) (fun _ _ => rfl) (fun _ _ => rfl) <;> exact congrFun (s1 _ (by omega)) k
      have hc := cpS_rel (b := 0) (o := 20 + 10 * x) (by omega) hR' (W' := N.1 141) (K' := N.2 146) w kk
      rw [hM1] at hc
      exact hc.cg (fun k _ => congrFun (c1 0 (by omega)) k) (fun k _ => congrFun (c1 1 (by omega)) k) (fun k _ => congrFun (c1 2 (by omega)) k) (fun k _ => congrFun (c1 3 (by omega)) k) (fun k _ => congrFun (c1 4 (by omega)) k) (fun k _ => congrFun (c1 5 (by omega)) k) (fun k _ => congrFun (c1 6 (by omega)) k) (fun k _ => congrFun (c1 8 (by omega)) k) (fun i _ => by rw [p2 9 (by omega)]) (fun _ _ => rfl) (fun _ _ => rfl)
    · rw [l4]
      exact hNw.2.cg l7 w4 (fun k k1 _ => w2 k k1)
    · unfold TapR
      rw [e 121 (by omega) (by omega) (by omega) (by omega), e 122 (by omega) (by omega) (by omega) (by omega), e 151 (by omega) (by omega) (by omega) (by omega), g2 14 (by omega) (by omega), g2 19 (by omega) (by omega)]
      exact hTp
    · exact hIm.cg (fun c _ _ => e c (by omega) (by omega) (by omega) (by omega)) (f 19 (by omega) (by omega)) (by rw [e 120 (by omega) (by omega) (by omega) (by omega)]) (g2 11 (by omega) (by omega)) (e 142 (by omega) (by omega) (by omega) (by omega)) (f 147 (by omega) (by omega))
    · refine ⟨sz - 1, x, by omega, hlt, ?_, ?_, ?_, fun j hj => ?_⟩
      · rw [p1 123 (by omega) (by omega), ← hM1, cpS_o (by omega), rd_si, if_pos ⟨rfl, rfl⟩]
      · rw [p1 123 (by omega) (by omega), ← hM1, cpS_o (by omega), rd_si, if_neg (by omega), rd_si, if_pos ⟨rfl, rfl⟩]
      · rw [← hN, rl_1, ri_c (by omega)]
        exact r13
      · have t := q6 (j + 1) (by omega)
        rw [show (ns + 9 - (j + 1)) % 10 = (x + 9 - j) % 10 by omega, show sz - 1 - (j + 1) = sz - 1 - 1 - j by omega] at t
        exact t.cg (Nat.mod_lt _ (by decide)) (fun c _ _ => e c (by omega) (by omega) (by omega) (by omega)) (fun c _ _ => f c (by omega) (by omega)) (e 145 (by omega) (by omega) (by omega) (by omega)) (f 150 (by omega) (by omega)) l7 l4 w4
    · exact TB_cg hTB (e 130 (by omega) (by omega) (by omega) (by omega)) (e 134 (by omega) (by omega) (by omega) (by omega))
    · intro i hi
      rw [e 155 (by omega) (by omega) (by omega) (by omega)]
      exact hc0 i hi
