/-! bank -/
theorem s8_bankL {M : sk_M} {K : sk_M → Prop} (h : K (sk_ri M 143 (cpn (M.1 141) (M.1 143) 0 0 1411))) : lp (w_X8_bank_L2 K) sk_F ((0 : Int32), M) := by
  have e0 : ((0 : Int32), M) = (nI 0, sk_ri M 143 (cpn (M.1 141) (M.1 143) 0 0 0)) := by rw [cpn_0, ri_self rfl]; rfl
  rw [e0]
  refine lp_to (fun i => (nI i, sk_ri M 143 (cpn (M.1 141) (M.1 143) 0 0 i))) 1411 (by decide) (fun i hi c hk => ?_) (fun c => ?_)
  · unfold w_X8_bank_L2
    refine i_t (nI_ge hi (by decide)) ?_
    have e2 : (sk_ri M 143 (cpn (M.1 141) (M.1 143) 0 0 i)).1 141 = M.1 141 := ri_c (by decide)
    refine ⟨vp_in_nI (by omega) (by decide), vp_in_nI (by omega) (by decide), sLet_i ?_⟩
    rw [nI_clamp (by omega), e2, si_ri, nI_1]
    have := cpn_sI (f := M.1 141) (g := M.1 143) (s := 0) (d := 0) (n := i)
    rw [Nat.zero_add] at this
    rw [this]
    exact hk
  · unfold w_X8_bank_L2
    exact i_f (nn (n := 1411) (by decide)) h
theorem s8_bankB {M : sk_M} {K : sk_M → Prop} (h : K (sk_ri M 141 (cpn (M.1 143) (M.1 141) 0 0 1411))) : lp (w_X8_bank_L103 K) sk_F ((0 : Int32), M) := by
  have e0 : ((0 : Int32), M) = (nI 0, sk_ri M 141 (cpn (M.1 143) (M.1 141) 0 0 0)) := by rw [cpn_0, ri_self rfl]; rfl
  rw [e0]
  refine lp_to (fun i => (nI i, sk_ri M 141 (cpn (M.1 143) (M.1 141) 0 0 i))) 1411 (by decide) (fun i hi c hk => ?_) (fun c => ?_)
  · unfold w_X8_bank_L103
    refine i_t (nI_ge hi (by decide)) ?_
    have e2 : (sk_ri M 141 (cpn (M.1 143) (M.1 141) 0 0 i)).1 143 = M.1 143 := ri_c (by decide)
    refine ⟨vp_in_nI (by omega) (by decide), vp_in_nI (by omega) (by decide), sLet_i ?_⟩
    rw [nI_clamp (by omega), e2, si_ri, nI_1]
    have := cpn_sI (f := M.1 143) (g := M.1 141) (s := 0) (d := 0) (n := i)
    rw [Nat.zero_add] at this
    rw [this]
    exact hk
  · unfold w_X8_bank_L103
    exact i_f (nn (n := 1411) (by decide)) h
/-- all as before, but for the tape -/
def bkX (N M' : sk_M) : Prop := (∀ c, c ≠ 140 → c ≠ 141 → c ≠ 143 → M'.1 c = N.1 c) ∧ (∀ c, c ≠ 146 → c ≠ 148 → M'.2 c = N.2 c) ∧ (∀ k, k < 1411 → M'.1 141 k = N.1 141 k) ∧ (∀ k, k < 144 → M'.2 146 k = N.2 146 k) ∧ M'.1 140 14 = 0 ∧ M'.1 140 11 = N.1 140 11 ∧ M'.1 140 12 = N.1 140 12
def bkY (N M' : sk_M) (nv0 np0 tx : Nat) (B : BS) : Prop := (∀ c, c ≠ 140 → c ≠ 141 → c ≠ 143 → M'.1 c = N.1 c) ∧ (∀ c, c ≠ 146 → c ≠ 148 → M'.2 c = N.2 c) ∧ (M'.1 140 0 = 0 ∧ M'.1 140 14 = 0 ∧ M'.1 140 19 = -1 ∧ M'.1 140 11 = N.1 140 11 ∧ M'.1 140 12 = 0) ∧ (M'.1 141 0 = nI B.1.1 ∧ M'.1 141 1 = nI B.1.2.1 ∧ M'.1 141 2 = nI B.1.2.2.1 ∧ M'.1 141 6 = nI B.1.2.2.2 ∧ M'.1 141 3 = nI (tx + 1)) ∧ (∀ v, v < B.1.1 → M'.1 141 (10 + 4 * v) = nI (B.2.1 v).1 ∧ M'.1 141 (11 + 4 * v) = nI (B.2.1 v).2.2 ∧ M'.1 141 (12 + 4 * v) = nI (B.2.1 v).2.1 ∧ M'.1 141 (13 + 4 * v) = if v < nv0 then N.1 141 (13 + 4 * v) else 0) ∧ (∀ c, c < B.1.2.2.1 → M'.1 141 (35 + 4 * c) = (B.2.2 c).1 ∧ M'.1 141 (36 + 4 * c) = (B.2.2 c).2.1 ∧ M'.1 141 (37 + 4 * c) = (B.2.2 c).2.2 ∧ M'.1 141 (34 + 4 * c) = bI (¬ (B.2.2 c).2.2 = -1)) ∧ (∀ k, k = 4 ∨ k = 5 ∨ k = 7 ∨ k = 8 ∨ k = 9 ∨ 82 ≤ k → M'.1 141 k = N.1 141 k) ∧ ∀ p, p < B.1.2.1 → ∀ v, v < B.1.1 → ∀ k, k < 4 → M'.2 146 (4 * (6 * p + v) + k) = if p < np0 ∧ v < nv0 then N.2 146 (4 * (6 * p + v) + k) else kMask k
theorem s8_bank {N : sk_M} {Q : Int32 → sk_M → Prop} {B : BS} {y : Nat → Nat} {n tx : Nat} (hn : n ≤ 400) (hB : bsB B) (e14 : N.1 140 14 = nI n) (e151 : ∀ j, j < n → N.1 151 j = sgn8 (y j) ∧ y j < 256) (e0 : N.1 141 0 = nI B.1.1) (e1 : N.1 141 1 = nI B.1.2.1) (e2 : N.1 141 2 = nI B.1.2.2.1) (e6 : N.1 141 6 = nI B.1.2.2.2) (e3 : N.1 141 3 = nI tx) (t12 : tx ≤ 12) (eV : ∀ v, v < B.1.1 → N.1 141 (10 + 4 * v) = nI (B.2.1 v).1 ∧ N.1 141 (11 + 4 * v) = nI (B.2.1 v).2.2 ∧ N.1 141 (12 + 4 * v) = nI (B.2.1 v).2.1) (eC : ∀ c, c < B.1.2.2.1 → N.1 141 (35 + 4 * c) = (B.2.2 c).1 ∧ N.1 141 (36 + 4 * c) = (B.2.2 c).2.1 ∧ N.1 141 (37 + 4 * c) = (B.2.2 c).2.2 ∧ N.1 141 (34 + 4 * c) = bI (¬ (B.2.2 c).2.2 = -1))
    (hW : ∀ a, pBank y n B = .inl a → ∀ M', bkX N M' → M'.1 140 0 = 1 → M'.1 140 19 = nI a → Q 0 M')
    (hT : ∀ B', pBank y n B = .inr B' → tx = 12 → ∀ M', bkX N M' → M'.1 140 0 = 2 → M'.1 140 19 = -1 → Q 0 M')
    (hO : ∀ B', pBank y n B = .inr B' → tx ≠ 12 → bsB B' → bsX B B' → ∀ M', bkY N M' B.1.1 B.1.2.1 tx B' → Q (nI (tx + 1)) M') : w_X8_bank N Q := by
  unfold w_X8_bank
  refine s8_bankL (s8_copies (by decide) ?_)
  generalize hA : sk_rl (sk_ri N 143 (cpn (N.1 141) (N.1 143) 0 0 1411)) 148 (cpn ((sk_ri N 143 (cpn (N.1 141) (N.1 143) 0 0 1411)).2 146) ((sk_ri N 143 (cpn (N.1 141) (N.1 143) 0 0 1411)).2 148) 0 0 144) = A
  have a1 : ∀ c, c ≠ 143 → A.1 c = N.1 c := fun c hc => by rw [← hA, rl_1, ri_c hc]
  have a2 : ∀ c, c ≠ 148 → A.2 c = N.2 c := fun c hc => by rw [← hA, rl_c hc]; rfl
  have a3 : ∀ k, k < 1411 → A.1 143 k = N.1 141 k := fun k hk => by rw [← hA, rl_1, ri_s, cpn_in0 hk]
  have a4 : ∀ k, k < 144 → A.2 148 k = N.2 146 k := fun k hk => by rw [← hA, rl_s, cpn_in0 hk]; rfl
  have w : A.1 141 = N.1 141 := a1 141 (by decide)
  have u140 : A.1 140 = N.1 140 := a1 140 (by decide)
  have k6 : A.2 146 = N.2 146 := a2 146 (by decide)
  generalize hC9 : sk_si (sk_si (sk_si (sk_si (sk_si A 140 0 0) 140 16 (nI n)) 140 14 0) 140 15 0) 140 21 0 = C9
  have c1 : ∀ c, c ≠ 140 → C9.1 c = A.1 c := fun c hc => by rw [← hC9, si_c hc, si_c hc, si_c hc, si_c hc, si_c hc]
  have c2 : C9.2 = A.2 := by rw [← hC9]; rfl
  have c3 : C9.1 140 0 = 0 := by rw [← hC9, rd_si, if_neg (by omega), rd_si, if_neg (by omega), rd_si, if_neg (by omega), rd_si, if_neg (by omega), rd_si, if_pos ⟨rfl, rfl⟩]
  have c14 : C9.1 140 14 = 0 := by rw [← hC9, rd_si, if_neg (by omega), rd_si, if_neg (by omega), rd_si, if_pos ⟨rfl, rfl⟩]
  have cx : ∀ k, k = 11 ∨ k = 12 → C9.1 140 k = N.1 140 k := fun k hk => by rw [← hC9, rd_si, if_neg (by omega), rd_si, if_neg (by omega), rd_si, if_neg (by omega), rd_si, if_neg (by omega), rd_si, if_neg (by omega), u140]
  have back : ∀ (M3 M4 : sk_M) (th fa : Int32), (∀ c, c ≠ 140 → c ≠ 141 → M3.1 c = C9.1 c) → (∀ c, c ≠ 146 → M3.2 c = C9.2 c) → (∀ k, k ≠ 15 → k ≠ 17 → M3.1 140 k = C9.1 140 k) → M4 = sk_si (sk_si M3 140 19 fa) 140 0 th → (∀ M', bkX N M' → M'.1 140 0 = th → M'.1 140 19 = fa → Q 0 M') → lp (w_X8_bank_L103 (fun s128 : sk_M => w_X8_copies 148 146 s128 (fun M136 => Q (0 : Int32) M136))) sk_F ((0 : Int32), M4) := by
    intro M3 M4 th fa b1 b2 b3 e4 hq
    refine s8_bankB (s8_copies (by decide) ?_)
    subst e4
    generalize hD : sk_si (sk_si M3 140 19 fa) 140 0 th = D
    have d1 : ∀ c, c ≠ 140 → D.1 c = M3.1 c := fun c hc => by rw [← hD, si_c hc, si_c hc]
    have d2 : D.2 = M3.2 := by rw [← hD]; rfl
    refine hq _ ⟨fun c h1 h2 h3 => ?_, fun c h1 h2 => ?_, fun k hk => ?_, fun k hk => ?_, ?_, ?_, ?_⟩ ?_ ?_
    · rw [rl_1, ri_c h2, d1 c h1, b1 c h1 h2, c1 c h1, a1 c h3]
    · rw [rl_c h1, ri_2, d2, b2 c h1, c2, a2 c h2]
    · rw [rl_1, ri_s, cpn_in0 hk, d1 143 (by decide), b1 143 (by decide) (by decide), c1 143 (by decide), a3 k hk]
    · rw [rl_s, cpn_in0 hk, ri_2, d2, b2 148 (by decide), c2, a4 k hk]
    · rw [rl_1, ri_c (by decide), ← hD, rd_si, if_neg (by omega), rd_si, if_neg (by omega), b3 14 (by decide) (by decide)]; exact c14
    · rw [rl_1, ri_c (by decide), ← hD, rd_si, if_neg (by omega), rd_si, if_neg (by omega), b3 11 (by decide) (by decide)]; exact cx 11 (by omega)
    · rw [rl_1, ri_c (by decide), ← hD, rd_si, if_neg (by omega), rd_si, if_neg (by omega), b3 12 (by decide) (by decide)]; exact cx 12 (by omega)
    · rw [rl_1, ri_c (by decide), ← hD, rd_si, if_pos ⟨rfl, rfl⟩]
    · rw [rl_1, ri_c (by decide), ← hD, rd_si, if_neg (by omega), rd_si, if_pos ⟨rfl, rfl⟩]
  refine r8_bank (B := B) (y := y) (n := n) hn hB (by rw [u140]; exact e14) (fun j hj => by rw [a1 151 (by decide)]; exact e151 j hj) (by rw [w]; exact e0) (by rw [w]; exact e1) (by rw [w]; exact e2) (by rw [w]; exact e6) (by rw [w]; exact eV) (by rw [w]; exact eC) (fun B' eq r M3 hr b b4 b5 => ?_) (fun a eq M3 b => ?_)
  · rw [hC9] at b
    obtain ⟨b1, b2, b3, ⟨b40, b41, b42, b46⟩, b6, b7, b8, b9⟩ := b
    rw [if_neg (fun z => z hr), if_neg (fun z => z hr)]
    refine sLet_i (sLet_i (sLet_i (g8_ok rfl (sLet_i (i_t rfl ?_)))))
    have t3 : (sk_si M3 140 19 (-1)).1 141 3 = nI tx := by rw [si_c (by decide), b8 3 (by omega), c1 141 (by decide), w]; exact e3
    rw [t3]
    by_cases z : tx = 12
    · rw [if_pos (by rw [z]; rfl)]
      refine sLet_i (g8_no rfl (i_t (by decide) ?_))
      exact back M3 _ 2 (-1) b1 b2 b3 rfl (fun M' x1 x2 x3 => hT B' eq z M' x1 x2 x3)
    · rw [if_neg (show ¬ (nI tx = (12 : Int32)) from fun u => z ((nI_eq (b := 12) (by omega) (by decide)).mp u))]
      refine sLet_i (g8_ok rfl (i_f (fun u => u rfl) (sLet_i (sLet_i ?_))))
      rw [t3, nI_1]
      generalize hD : sk_si (sk_si (sk_si M3 140 19 (-1)) 141 3 (nI (tx + 1))) 140 12 0 = D
      have d1 : ∀ c, c ≠ 140 → c ≠ 141 → D.1 c = M3.1 c := fun c h1 h2 => by rw [← hD, si_c h1, si_c h2, si_c h1]
      have d2 : D.2 = M3.2 := by rw [← hD]; rfl
      have d3 : ∀ k, k ≠ 3 → D.1 141 k = M3.1 141 k := fun k hk => by rw [← hD, si_c (by decide), rd_si, if_neg (fun u => hk u.2), si_c (by decide)]
      have d4 : D.1 141 3 = nI (tx + 1) := by rw [← hD, si_c (by decide), rd_si, if_pos ⟨rfl, rfl⟩]
      have d5 : ∀ k, k ≠ 12 → k ≠ 19 → D.1 140 k = M3.1 140 k := fun k h1 h2 => by rw [← hD, rd_si, if_neg (fun u => h1 u.2), si_c (by decide), rd_si, if_neg (fun u => h2 u.2)]
      rw [d4]
      refine hO B' eq z b4 b5 D ⟨fun c h1 h2 h3 => ?_, fun c h1 h2 => ?_, ⟨?_, ?_, ?_, ?_, ?_⟩, ⟨?_, ?_, ?_, ?_, d4⟩, fun v hv => ?_, fun c hc => ?_, fun k hk => ?_, fun p hp v hv k hk => ?_⟩
      · rw [d1 c h1 h2, b1 c h1 h2, c1 c h1, a1 c h3]
      · rw [d2, b2 c h1, c2, a2 c h2]
      · rw [d5 0 (by decide) (by decide), b3 0 (by decide) (by decide)]; exact c3
      · rw [d5 14 (by decide) (by decide), b3 14 (by decide) (by decide)]; exact c14
      · rw [← hD, rd_si, if_neg (by omega), si_c (by decide), rd_si, if_pos ⟨rfl, rfl⟩]
      · rw [d5 11 (by decide) (by decide), b3 11 (by decide) (by decide)]; exact cx 11 (by omega)
      · rw [← hD, rd_si, if_pos ⟨rfl, rfl⟩]
      · rw [d3 0 (by decide)]; exact b40
      · rw [d3 1 (by decide)]; exact b41
      · rw [d3 2 (by decide)]; exact b42
      · rw [d3 6 (by decide)]; exact b46
      · rw [d3 _ (by omega), d3 _ (by omega), d3 _ (by omega), d3 _ (by omega)]
        have := b6 v hv
        rw [c1 141 (by decide), w] at this
        exact this
      · rw [d3 _ (by omega), d3 _ (by omega), d3 _ (by omega), d3 _ (by omega)]
        exact b7 c hc
      · rw [d3 _ (by omega), b8 k (by omega), c1 141 (by decide), w]
      · rw [d2]
        have := b9 p hp v hv k hk
        rw [c2, k6] at this
        exact this
  · rw [hC9] at b
    obtain ⟨b1, b2, b3, b4⟩ := b
    rw [if_pos m1_n0, if_pos m1_n0, b4]
    refine sLet_i (sLet_i (sLet_i (g8_no rfl (sLet_i (i_f (by decide) ?_)))))
    exact back M3 _ 1 (nI a) b1 b2 b3 rfl (fun M' x1 x2 x3 => hW a eq M' x1 x2 x3)
theorem Inv.txt {M N : sk_M} (h : Inv M) (hNow : NowR N) (e : ∀ c, 10 ≤ c → c ≠ 121 → c ≠ 123 → c ≠ 125 → c ≠ 126 → c ≠ 127 → c ≠ 128 → c ≠ 129 → c ≠ 140 → c ≠ 141 → c ≠ 143 → N.1 c = M.1 c) (f : ∀ c, 10 ≤ c → c ≠ 146 → c ≠ 148 → c ≠ 158 → N.2 c = M.2 c) (t1 : N.1 121 1 = 0) (t2 : N.1 140 14 = 0) (t3 : N.1 121 5 = N.1 140 19) (i11 : N.1 140 11 = M.1 140 11) (hM : MemR N) : Inv N := by
  obtain ⟨_, _, hIm, _, hTB, hc0⟩ := h
  refine ⟨hNow, ⟨⟨0, by omega, t1, t2, fun j hj => absurd hj (by omega)⟩, t3⟩, ?_, hM, ?_, fun i hi => ?_⟩
  · exact hIm.cg (fun c _ _ => e c (by omega) (by omega) (by omega) (by omega) (by omega) (by omega) (by omega) (by omega) (by omega) (by omega) (by omega)) (f 19 (by omega) (by omega) (by omega) (by omega)) (by rw [e 120 (by omega) (by omega) (by omega) (by omega) (by omega) (by omega) (by omega) (by omega) (by omega) (by omega) (by omega)]) i11 (e 142 (by omega) (by omega) (by omega) (by omega) (by omega) (by omega) (by omega) (by omega) (by omega) (by omega) (by omega)) (f 147 (by omega) (by omega) (by omega) (by omega))
  · exact TB_cg hTB (e 130 (by omega) (by omega) (by omega) (by omega) (by omega) (by omega) (by omega) (by omega) (by omega) (by omega) (by omega)) (e 134 (by omega) (by omega) (by omega) (by omega) (by omega) (by omega) (by omega) (by omega) (by omega) (by omega) (by omega))
  · rw [e 155 (by omega) (by omega) (by omega) (by omega) (by omega) (by omega) (by omega) (by omega) (by omega) (by omega) (by omega)]
    exact hc0 i hi
