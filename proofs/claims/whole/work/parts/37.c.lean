/-! remembering -/
def remR (M N : sk_M) (sz : Nat) : Prop :=
  N.1 140 12 = nI (min 10 (sz + 1)) ∧
  (∀ i, i < 562 → N.1 145 (562 * (min 10 (sz + 1) - 1) + i) = M.1 141 i) ∧
  (∀ i, i < 144 → N.2 150 (144 * (min 10 (sz + 1) - 1) + i) = M.2 146 i) ∧
  (∀ j, j + 1 < min 10 (sz + 1) → ∀ i, i < 562 → N.1 145 (562 * j + i) = M.1 145 (562 * (j + (sz + 1 - min 10 (sz + 1))) + i)) ∧
  (∀ j, j + 1 < min 10 (sz + 1) → ∀ i, i < 144 → N.2 150 (144 * j + i) = M.2 150 (144 * (j + (sz + 1 - min 10 (sz + 1))) + i))
def remF (M N : sk_M) : Prop := (∀ c, c ≠ 140 → c ≠ 145 → N.1 c = M.1 c) ∧ (∀ k, k ≠ 12 → N.1 140 k = M.1 140 k) ∧ (∀ c, c ≠ 150 → N.2 c = M.2 c)
theorem s8_rem2 {M : sk_M} {Q : sk_M → Prop} {r : Nat} (e : M.1 140 12 = nI r) (h1 : 1 ≤ r) (h10 : r ≤ 10) (h : Q (sk_rl (sk_ri M 145 (cpn (M.1 141) (M.1 145) 0 (562 * (r - 1)) 562)) 150 (cpn (M.2 146) (M.2 150) 0 (144 * (r - 1)) 144))) : lp (w_X8_remembers_L86 (fun s122 : sk_M => lp (w_X8_remembers_L124 Q) sk_F ((0 : Int32), s122))) sk_F ((0 : Int32), M) := by
  have e0 : ((0 : Int32), M) = (nI 0, sk_ri M 145 (cpn (M.1 141) (M.1 145) 0 (562 * (r - 1)) 0)) := by rw [cpn_0, ri_self rfl]; rfl
  rw [e0]
  refine lp_to (fun i => (nI i, sk_ri M 145 (cpn (M.1 141) (M.1 145) 0 (562 * (r - 1)) i))) 562 (by decide) (fun i hi c hk => ?_) (fun c => ?_)
  · unfold w_X8_remembers_L86
    refine i_t (nI_ge hi (by decide)) ?_
    have e1 : (sk_ri M 145 (cpn (M.1 141) (M.1 145) 0 (562 * (r - 1)) i)).1 140 12 = nI r := by rw [ri_c (by decide)]; exact e
    have e2 : (sk_ri M 145 (cpn (M.1 141) (M.1 145) 0 (562 * (r - 1)) i)).1 141 = M.1 141 := ri_c (by decide)
    simp (disch := omega) only [e1, e2, sk_lit, nI_add, pk_mul, pk_divN, rmN, pk_sub, nI_clamp, nI_leI, nI_ltI, nI_eq, vpT, mnN, mxN, sLet, si_ri]
    refine ⟨trivial, trivial, ?_⟩
    rw [cpn_sI' (show M.1 141 i = M.1 141 (0 + i) by rw [Nat.zero_add])]
    exact hk
  · unfold w_X8_remembers_L86
    refine i_f (nn (n := 562) (by decide)) ?_
    generalize hM1 : sk_ri M 145 (cpn (M.1 141) (M.1 145) 0 (562 * (r - 1)) 562) = M1 at h ⊢
    have e3 : M1.1 140 12 = nI r := by rw [← hM1, ri_c (by decide)]; exact e
    have e4 : M1.2 = M.2 := by rw [← hM1]; rfl
    rw [← e4] at h
    show lp _ _ _
    have e5 : ((0 : Int32), M1) = (nI 0, sk_rl M1 150 (cpn (M1.2 146) (M1.2 150) 0 (144 * (r - 1)) 0)) := by rw [cpn_0, rl_self rfl]; rfl
    rw [e5]
    refine lp_to (fun i => (nI i, sk_rl M1 150 (cpn (M1.2 146) (M1.2 150) 0 (144 * (r - 1)) i))) 144 (by decide) (fun i hi c hk => ?_) (fun c => ?_)
    · unfold w_X8_remembers_L124
      refine i_t (nI_ge hi (by decide)) ?_
      have e6 : (sk_rl M1 150 (cpn (M1.2 146) (M1.2 150) 0 (144 * (r - 1)) i)).1 140 12 = nI r := e3
      have e7 : (sk_rl M1 150 (cpn (M1.2 146) (M1.2 150) 0 (144 * (r - 1)) i)).2 146 = M1.2 146 := rl_c (by decide)
      simp (disch := omega) only [e6, e7, sk_lit, nI_add, pk_mul, pk_divN, rmN, pk_sub, nI_clamp, nI_leI, nI_ltI, nI_eq, vpT, mnN, mxN, sLet, sl_rl]
      refine ⟨trivial, trivial, ?_⟩
      rw [cpn_sL' (show M1.2 146 i = M1.2 146 (0 + i) by rw [Nat.zero_add])]
      exact hk
    · unfold w_X8_remembers_L124
      exact i_f (nn (n := 144) (by decide)) h
theorem s8_remembers {M : sk_M} {Q : sk_M → Prop} {sz : Nat} (e : M.1 140 12 = nI sz) (hs : sz ≤ 10) (h : ∀ N, remF M N → remR M N sz → Q N) : w_X8_remembers M Q := by
  unfold w_X8_remembers
  simp only [sLet]
  by_cases h10 : sz = 10
  · subst h10
    refine i_t e ?_
    have e0 : ((0 : Int32), M) = (nI 0, sk_ri M 145 (cpn (M.1 145) (M.1 145) 562 0 0)) := by rw [cpn_0, ri_self rfl]; rfl
    rw [e0]
    refine lp_to (fun i => (nI i, sk_ri M 145 (cpn (M.1 145) (M.1 145) 562 0 i))) 5058 (by decide) (fun i hi c hk => ?_) (fun c => ?_)
    · unfold w_X8_remembers_L11
      refine i_t (nI_ge hi (by decide)) ?_
      simp (disch := omega) only [sk_lit, nI_add, pk_mul, pk_divN, rmN, pk_sub, nI_clamp, nI_leI, nI_ltI, nI_eq, vpT, mnN, mxN, sLet, si_ri, ri_s]
      refine ⟨trivial, trivial, ?_⟩
      rw [cpn_out (j := i + 562) (by omega)]
      have := cpn_sI (f := M.1 145) (g := M.1 145) (s := 562) (d := 0) (n := i)
      rw [Nat.zero_add, Nat.add_comm 562 i] at this
      rw [this]
      exact hk
    · unfold w_X8_remembers_L11
      refine i_f (nn (n := 5058) (by decide)) ?_
      generalize hM1 : sk_ri M 145 (cpn (M.1 145) (M.1 145) 562 0 5058) = M1
      have e4 : M1.2 = M.2 := by rw [← hM1]; rfl
      show lp _ _ _
      have e5 : ((0 : Int32), M1) = (nI 0, sk_rl M1 150 (cpn (M1.2 150) (M1.2 150) 144 0 0)) := by rw [cpn_0, rl_self rfl]; rfl
      rw [e5]
      refine lp_to (fun i => (nI i, sk_rl M1 150 (cpn (M1.2 150) (M1.2 150) 144 0 i))) 1296 (by decide) (fun i hi c hk => ?_) (fun c => ?_)
      · unfold w_X8_remembers_L42
        refine i_t (nI_ge hi (by decide)) ?_
        simp (disch := omega) only [sk_lit, nI_add, pk_mul, pk_divN, rmN, pk_sub, nI_clamp, nI_leI, nI_ltI, nI_eq, vpT, mnN, mxN, sLet, sl_rl, rl_s]
        refine ⟨trivial, trivial, ?_⟩
        rw [cpn_out (j := i + 144) (by omega)]
        have := cpn_sL (f := M1.2 150) (g := M1.2 150) (s := 144) (d := 0) (n := i)
        rw [Nat.zero_add, Nat.add_comm 144 i] at this
        rw [this]
        exact hk
      · unfold w_X8_remembers_L42
        refine i_f (nn (n := 1296) (by decide)) ?_
        have e6 : (sk_rl M1 150 (cpn (M1.2 150) (M1.2 150) 144 0 1296)).1 140 12 = nI 10 := by
          show M1.1 140 12 = nI 10
          rw [← hM1, ri_c (by decide)]
          exact e
        refine s8_rem2 e6 (by decide) (by decide) (h _ ⟨fun c h1 h2 => ?_, fun k hk => ?_, fun c hc => ?_⟩ ⟨?_, fun i hi => ?_, fun i hi => ?_, fun j hj i hi => ?_, fun j hj i hi => ?_⟩)
        · rw [rl_1, ri_c h2, rl_1, ← hM1, ri_c h2]
        · rw [rl_1, ri_c (by decide), rl_1, ← hM1, ri_c (by decide)]
        · rw [rl_c hc]
          show (sk_rl M1 150 _).2 c = _
          rw [rl_c hc, e4]
        · rw [rl_1, ri_c (by decide)]
          exact e6
        · rw [rl_1, ri_s, show min 10 (10 + 1) - 1 = 10 - 1 from rfl, cpn_in hi, Nat.zero_add]
          show M1.1 141 i = _
          rw [← hM1, ri_c (by decide)]
        · rw [rl_s, show min 10 (10 + 1) - 1 = 10 - 1 from rfl, cpn_in hi, Nat.zero_add]
          show (sk_rl M1 150 _).2 146 i = _
          rw [rl_c (by decide), e4]
        · have hj2 : j < 9 := by omega
          rw [rl_1, ri_s, cpn_out (Or.inl (by omega))]
          show M1.1 145 _ = _
          rw [← hM1, ri_s]
          have := cpn_in (f := M.1 145) (g := M.1 145) (s := 562) (d := 0) (n := 5058) (j := 562 * j + i) (by omega)
          rw [Nat.zero_add] at this
          rw [this]
          exact congrArg (M.1 145) (by omega)
        · have hj2 : j < 9 := by omega
          rw [rl_s, cpn_out (Or.inl (by omega))]
          show (sk_rl M1 150 _).2 150 _ = _
          rw [rl_s]
          have := cpn_in (f := M1.2 150) (g := M1.2 150) (s := 144) (d := 0) (n := 1296) (j := 144 * j + i) (by omega)
          rw [Nat.zero_add] at this
          rw [this, e4]
          exact congrArg (M.2 150) (by omega)
  · have hm : min 10 (sz + 1) = sz + 1 := by omega
    refine i_f (by rw [e]; exact fun q => h10 ((nI_eq (b := 10) (by omega) (by decide)).mp q)) ?_
    have e6 : (sk_si M 140 12 (M.1 140 12 + 1)).1 140 12 = nI (sz + 1) := by
      rw [rd_si, if_pos ⟨rfl, rfl⟩, e, nI_1]
    refine s8_rem2 e6 (by omega) (by omega) (h _ ⟨fun c h1 h2 => ?_, fun k hk => ?_, fun c hc => ?_⟩ ⟨?_, fun i hi => ?_, fun i hi => ?_, fun j hj i hi => ?_, fun j hj i hi => ?_⟩)
    · rw [rl_1, ri_c h2, si_c h1]
    · rw [rl_1, ri_c (by decide), rd_si, if_neg (by omega)]
    · rw [rl_c hc]
      rfl
    · rw [rl_1, ri_c (by decide), hm]
      exact e6
    · rw [rl_1, ri_s, hm, cpn_in hi, Nat.zero_add, si_c (by decide)]
    · rw [rl_s, hm, cpn_in hi, Nat.zero_add]
      rfl
    · rw [hm] at hj
      rw [rl_1, ri_s, cpn_out (Or.inl (by have := Nat.mul_le_mul_left 562 (show j + 1 ≤ sz + 1 - 1 by omega); omega)), si_c (by decide), hm, Nat.sub_self, Nat.add_zero]
    · rw [hm] at hj
      rw [rl_s, cpn_out (Or.inl (by have := Nat.mul_le_mul_left 144 (show j + 1 ≤ sz + 1 - 1 by omega); omega)), hm, Nat.sub_self, Nat.add_zero]
      rfl
/-- the tie after an act: what was is remembered on both sides -/
theorem Inv.act {M N : sk_M} {sz ns : Nat} (h : Inv M) (hsz : sz ≤ 10) (hns : ns < 10) (e1 : M.1 123 1 = nI sz) (e2 : M.1 123 2 = nI ns)
    (c1 : ∀ c, 10 ≤ c → c < 130 → c ≠ 123 → N.1 c = (cpS M (20 + 10 * ns) 0).1 c) (c2 : ∀ c, 10 ≤ c → c < 130 → N.2 c = (cpS M (20 + 10 * ns) 0).2 c)
    (c3 : N.1 123 1 = nI (min 10 (sz + 1))) (c4 : N.1 123 2 = nI ((ns + 1) % 10))
    (r1 : remR M N sz) (r2 : ∀ k, k = 11 ∨ k = 14 ∨ k = 19 → N.1 140 k = M.1 140 k) (r3 : N.1 142 = M.1 142) (r4 : N.1 151 = M.1 151) (r5 : N.2 147 = M.2 147)
    (l1 : ∀ i, i < 108 → N.1 7 i = M.1 7 i) (l2 : N.1 0 4 = M.1 0 4) (l3 : N.1 141 4 = M.1 141 4) (hn : NowR N) (ht : TB N) (hc : cnt0 N) : Inv N := by
  obtain ⟨⟨⟨nv, np, nc, tx, dy, ch, lg, nr, op, hR⟩, hLw⟩, hTp, hIm, hMm, -, -⟩ := h
  have o1 : ∀ c, 10 ≤ c → c < 20 → N.1 c = M.1 c := fun c h1 h2 => by rw [c1 c h1 (by omega) (by omega), cpS_o (Or.inl (by omega))]
  have o2 : ∀ c, 10 ≤ c → c < 20 → N.2 c = M.2 c := fun c h1 h2 => by rw [c2 c h1 (by omega), cpS_2 (by omega)]
  have o3 : ∀ c, 120 ≤ c → c < 130 → c ≠ 123 → N.1 c = M.1 c := fun c h1 h2 h3 => by rw [c1 c (by omega) h2 h3, cpS_o (Or.inr (by omega))]
  refine ⟨hn, ?_, ?_, ?_, ht, hc⟩
  · unfold TapR
    rw [o3 121 (by omega) (by omega) (by omega), o3 122 (by omega) (by omega) (by omega), r2 14 (by omega), r2 19 (by omega), r4]
    exact hTp
  · unfold ImgR
    rw [o3 120 (by omega) (by omega) (by omega), r2 11 (by omega), r3, r5, o2 19 (by omega) (by omega), o1 17 (by omega) (by omega), o1 10 (by omega) (by omega)]
    refine ⟨hIm.1, hIm.2.imp id (fun q => ⟨q.1, ?_, q.2.2⟩)⟩
    obtain ⟨nv, np, nc, tx, dy, ch, lg, nr, op, hR2⟩ := q.2.1
    have o : ∀ j, j < 10 → N.1 (10 + j) = M.1 (10 + j) := fun j hj => o1 _ (by omega) (by omega)
    exact ⟨nv, np, nc, tx, dy, ch, lg, nr, op, hR2.cg (fun k _ => congrFun (o 0 (by omega)) k) (fun k _ => congrFun (o 1 (by omega)) k) (fun k _ => congrFun (o 2 (by omega)) k) (fun k _ => congrFun (o 3 (by omega)) k) (fun k _ => congrFun (o 4 (by omega)) k) (fun k _ => congrFun (o 5 (by omega)) k) (fun k _ => congrFun (o 6 (by omega)) k) (fun k _ => congrFun (o 8 (by omega)) k) (fun _ _ => rfl) (fun _ _ => rfl) (fun _ _ => rfl)⟩
  · obtain ⟨sz', ns', q1, q2, q3, q4, q5, q6⟩ := hMm
    obtain rfl : sz' = sz := (nI_eq (by omega) (by omega)).mp (q3.symm.trans e1)
    obtain rfl : ns' = ns := (nI_eq (by omega) (by omega)).mp (q4.symm.trans e2)
    obtain ⟨a1, a2, a3, a4, a5⟩ := r1
    refine ⟨min 10 (sz' + 1), (ns' + 1) % 10, by omega, by omega, c3, c4, a1, fun j hj => ?_⟩
    by_cases hj0 : j = 0
    · subst hj0
      have ex : ((ns' + 1) % 10 + 9 - 0) % 10 = ns' := by omega
      rw [ex, Nat.sub_zero]
      have cc : ∀ i, i < 10 → N.1 (20 + 10 * ns' + i) = (cpS M (20 + 10 * ns') 0).1 (20 + 10 * ns' + i) := fun i hi => c1 _ (by omega) (by omega) (by omega)
      refine ⟨⟨nv, np, nc, tx, dy, ch, lg, nr, op, ?_⟩, fun i hi => ?_, ?_, ?_⟩
      · have hR0 : Rel (fun j => M.1 (0 + j)) (M.2 (0 + 9)) (M.1 141) (M.2 146) nv np nc tx dy ch lg nr op := by
          simp only [Nat.zero_add]
          exact hR
        have hc0 := cpS_rel (M := M) (b := 20 + 10 * ns') (o := 0) (by omega) hR0 (W' := fun k => N.1 145 (562 * (min 10 (sz' + 1) - 1) + k)) (K' := fun k => N.2 150 (144 * (min 10 (sz' + 1) - 1) + k)) a2 a3
        refine hc0.cg (fun k _ => congrFun (cc 0 (by omega)) k) (fun k _ => congrFun (cc 1 (by omega)) k) (fun k _ => congrFun (cc 2 (by omega)) k) (fun k _ => congrFun (cc 3 (by omega)) k) (fun k _ => congrFun (cc 4 (by omega)) k) (fun k _ => congrFun (cc 5 (by omega)) k) (fun k _ => congrFun (cc 6 (by omega)) k) (fun k _ => congrFun (cc 8 (by omega)) k) (fun i _ => congrFun (c2 _ (by omega) (by omega)) i) (fun _ _ => rfl) (fun _ _ => rfl)
      · exact (congrFun (cc 7 (by omega)) i).trans ((cpS_a (by omega) (q := (7, 108)) (by decide) hi).trans ((show M.1 (0 + 7) i = M.1 7 i by rw [Nat.zero_add]).trans (l1 i hi).symm))
      · have := cc 0 (by omega)
        rw [Nat.add_zero] at this
        rw [this, cpS_f (by omega) (by omega), l2]
      · rw [a2 4 (by omega), l3]
    · have hx : ((ns' + 1) % 10 + 9 - j) % 10 = (ns' + 9 - (j - 1)) % 10 := by omega
      rw [hx]
      have hjs : j - 1 < sz' := by omega
      obtain ⟨⟨nv, np, nc, tx, dy, ch, lg, nr, op, hR2⟩, b2, b3, b4⟩ := q6 (j - 1) hjs
      have hne : (ns' + 9 - (j - 1)) % 10 ≠ ns' := by omega
      have hlt : (ns' + 9 - (j - 1)) % 10 < 10 := by omega
      generalize (ns' + 9 - (j - 1)) % 10 = x at hne hlt hR2 b2 b3 b4 ⊢
      have cc : ∀ i, i < 10 → N.1 (20 + 10 * x + i) = M.1 (20 + 10 * x + i) := fun i hi => by
        rw [c1 _ (by omega) (by omega) (by omega), cpS_o (by omega)]
      have ej : min 10 (sz' + 1) - 1 - j + (sz' + 1 - min 10 (sz' + 1)) = sz' - 1 - (j - 1) := by omega
      have hj3 : min 10 (sz' + 1) - 1 - j + 1 < min 10 (sz' + 1) := by omega
      refine ⟨⟨nv, np, nc, tx, dy, ch, lg, nr, op, ?_⟩, fun i hi => ?_, ?_, ?_⟩
      · refine hR2.cg (fun k _ => congrFun (cc 0 (by omega)) k) (fun k _ => congrFun (cc 1 (by omega)) k) (fun k _ => congrFun (cc 2 (by omega)) k) (fun k _ => congrFun (cc 3 (by omega)) k) (fun k _ => congrFun (cc 4 (by omega)) k) (fun k _ => congrFun (cc 5 (by omega)) k) (fun k _ => congrFun (cc 6 (by omega)) k) (fun k _ => congrFun (cc 8 (by omega)) k) (fun i _ => ?_) (fun k hk => ?_) (fun k hk => ?_)
        · rw [c2 _ (by omega) (by omega), cpS_2 (by omega)]
        · have := a4 _ hj3 k hk
          rw [ej] at this
          exact this
        · have := a5 _ hj3 k hk
          rw [ej] at this
          exact this
      · rw [cc 7 (by omega), b2 i hi, l1 i hi]
      · have := cc 0 (by omega)
        rw [Nat.add_zero] at this
        rw [this, b3, l2]
      · have := a4 _ hj3 4 (by omega)
        rw [ej] at this
        rw [this, b4, l3]
