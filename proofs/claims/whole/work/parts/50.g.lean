/-! law -/
theorem knC_at {M : sk_M} {c nv i : Nat} (hv : nv ≤ 6) : ∀ n, (knC M c nv n).2 c i = if i / 24 < n ∧ i / 4 % 6 < nv then kMask (i % 4) else M.2 c i
  | 0 => by rw [if_neg (by omega)]; rfl
  | n + 1 => by
    rw [knC, knB_at nv hv, knC_at hv n]
    by_cases z : 24 * n ≤ i ∧ i < 24 * n + 4 * nv
    · rw [if_pos z, if_pos (by omega)]
    · rw [if_neg z]
      by_cases w : i / 24 < n ∧ i / 4 % 6 < nv
      · rw [if_pos w, if_pos (by omega)]
      · rw [if_neg w, if_neg (by omega)]
theorem knC_ne {M : sk_M} {c nv c' : Nat} (h : c' ≠ c) : ∀ n, (knC M c nv n).2 c' = M.2 c'
  | 0 => rfl
  | n + 1 => by rw [knC, knB_ne h, knC_ne h n]
def lwX (N M' : sk_M) : Prop := (∀ c, c ≠ 140 → c ≠ 141 → M'.1 c = N.1 c) ∧ M'.2 = N.2 ∧ (∀ k, k < 1411 → M'.1 141 k = N.1 141 k) ∧ M'.1 140 14 = 0 ∧ M'.1 140 11 = N.1 140 11 ∧ M'.1 140 12 = N.1 140 12
def lwY (N M' : sk_M) (ls : List LN) : Prop := (∀ c, c ≠ 140 → c ≠ 141 → M'.1 c = N.1 c) ∧ (∀ c, c ≠ 146 → M'.2 c = N.2 c) ∧ (M'.1 140 0 = 0 ∧ M'.1 140 14 = 0 ∧ M'.1 140 19 = -1 ∧ M'.1 140 11 = N.1 140 11 ∧ M'.1 140 12 = 0) ∧ (∀ k, k < 562 → k ≠ 4 → M'.1 141 k = N.1 141 k) ∧ M'.1 141 4 = 1 ∧ M'.1 141 562 = nI ls.length ∧ (∃ S, S ≤ 400 ∧ LsOK (fun k => M'.1 141 (562 + k)) S ls) ∧ ∀ i, i < 144 → M'.2 146 i = kMask (i % 4)
theorem s8_law {N : sk_M} {Q : Int32 → sk_M → Prop} {y : Nat → Nat} {n : Nat} (hn : n ≤ 400) (e14 : N.1 140 14 = nI n) (e151 : ∀ j, j < n → N.1 151 j = sgn8 (y j) ∧ y j < 256)
    (hW : ∀ a, pLaw y n = .inl a → ∀ M', lwX N M' → M'.1 140 0 = 1 → M'.1 140 19 = nI a → Q 0 M')
    (hO : ∀ ls, pLaw y n = .inr ls → ls.length ≤ 12 → ∀ M', lwY N M' ls → Q (nI ls.length) M') : w_X8_law N Q := by
  unfold w_X8_law
  generalize hC9 : sk_si (sk_si (sk_si (sk_si (sk_si N 140 0 0) 140 16 (nI n)) 140 14 0) 140 15 0) 140 21 0 = C9
  have c1 : ∀ c, c ≠ 140 → C9.1 c = N.1 c := fun c hc => by rw [← hC9, si_c hc, si_c hc, si_c hc, si_c hc, si_c hc]
  have c2 : C9.2 = N.2 := by rw [← hC9]; rfl
  have c3 : C9.1 140 0 = 0 := by rw [← hC9, rd_si, if_neg (by omega), rd_si, if_neg (by omega), rd_si, if_neg (by omega), rd_si, if_neg (by omega), rd_si, if_pos ⟨rfl, rfl⟩]
  have c14 : C9.1 140 14 = 0 := by rw [← hC9, rd_si, if_neg (by omega), rd_si, if_neg (by omega), rd_si, if_pos ⟨rfl, rfl⟩]
  have cx : ∀ k, k = 11 ∨ k = 12 → C9.1 140 k = N.1 140 k := fun k hk => by rw [← hC9, rd_si, if_neg (by omega), rd_si, if_neg (by omega), rd_si, if_neg (by omega), rd_si, if_neg (by omega), rd_si, if_neg (by omega)]
  have w : C9.1 141 = N.1 141 := c1 141 (by decide)
  refine r8_lawAll (y := y) (n := n) hn e14 e151 (fun ls eq hl M3 S hS g ok => ?_) (fun a eq M3 g e3 => ?_)
  · rw [hC9] at g
    obtain ⟨g1, g2, g3, g4, g5⟩ := g
    rw [if_neg (show ¬ ¬ ((0 : Int32) ≤ nI ls.length) from fun u => u (p0 (by omega))), if_neg (show ¬ ¬ ((0 : Int32) ≤ nI ls.length) from fun u => u (p0 (by omega)))]
    refine sLet_i (sLet_i (sLet_i (g8_ok rfl (i_f (fun u => u rfl) (sLet_i ?_)))))
    generalize hD : sk_si (sk_si M3 140 19 (-1)) 141 1411 (nI ls.length) = D
    have d1 : ∀ c, c ≠ 140 → c ≠ 141 → D.1 c = M3.1 c := fun c h1 h2 => by rw [← hD, si_c h2, si_c h1]
    have d2 : D.2 = M3.2 := by rw [← hD]; rfl
    have d3 : ∀ k, k ≠ 19 → D.1 140 k = M3.1 140 k := fun k hk => by rw [← hD, si_c (by decide), rd_si, if_neg (fun u => hk u.2)]
    have d19 : D.1 140 19 = -1 := by rw [← hD, si_c (by decide), rd_si, if_pos ⟨rfl, rfl⟩]
    have d4 : ∀ k, k ≠ 1411 → D.1 141 k = M3.1 141 k := fun k hk => by rw [← hD, rd_si, if_neg (fun u => hk u.2), si_c (by decide)]
    have d5 : D.1 141 1411 = nI ls.length := by rw [← hD, rd_si, if_pos ⟨rfl, rfl⟩]
    refine lp_inv (fun i s => s.1 = nI i ∧ (∀ c, c ≠ 141 → s.2.1 c = D.1 c) ∧ s.2.2 = D.2 ∧ ∀ k, s.2.1 141 k = if 562 ≤ k ∧ k < 562 + i then D.1 141 (k + 849) else D.1 141 k) 849 (by decide) ⟨rfl, fun _ _ => rfl, rfl, fun k => by rw [if_neg (by omega)]⟩ (fun i hi s c hI hc => ?_) (fun s c hI => ?_)
    · obtain ⟨s1, sM⟩ := s
      obtain ⟨rfl, i1, i2, i3⟩ := hI
      dsimp only at i1 i2 i3
      unfold w_X8_law_L52
      refine i_t (nI_ge hi (by decide)) ?_
      dsimp only
      have j1 : (1411 : Int32) + nI i = nI (1411 + i) := nI_add 1411 i
      have j2 : (562 : Int32) + nI i = nI (562 + i) := nI_add 562 i
      rw [j1, j2, nI_clamp (show 1411 + i < 2 ^ 31 by omega), nI_clamp (show 562 + i < 2 ^ 31 by omega), nI_1]
      refine ⟨vp_in_nI (by omega) (by decide), vp_in_nI (by omega) (by decide), sLet_i (hc _ ⟨rfl, fun c hc => by rw [si_c hc]; exact i1 c hc, by rw [si_2]; exact i2, fun k => ?_⟩)⟩
      dsimp only
      rw [rd_si]
      by_cases u : k = 562 + i
      · rw [if_pos ⟨rfl, u⟩, if_pos (by omega), i3, if_neg (by omega), show k + 849 = 1411 + i by omega]
      · rw [if_neg (fun v => u v.2), i3]
        by_cases v : 562 ≤ k ∧ k < 562 + i
        · rw [if_pos v, if_pos (by omega)]
        · rw [if_neg v, if_neg (by omega)]
    · obtain ⟨s1, sM⟩ := s
      obtain ⟨rfl, i1, i2, i3⟩ := hI
      dsimp only at i1 i2 i3
      unfold w_X8_law_L52
      refine i_f (nn (n := 849) (by decide)) (sLet_i ?_)
      dsimp only
      generalize hE : sk_si sM 141 4 1 = E
      have e1 : ∀ c, c ≠ 141 → E.1 c = D.1 c := fun c hc => by rw [← hE, si_c hc]; exact i1 c hc
      have e2 : E.2 = D.2 := by rw [← hE]; exact i2
      have e4 : E.1 141 4 = 1 := by rw [← hE, rd_si, if_pos ⟨rfl, rfl⟩]
      have e5 : ∀ k, k ≠ 4 → E.1 141 k = if 562 ≤ k ∧ k < 1411 then D.1 141 (k + 849) else D.1 141 k := fun k hk => by rw [← hE, rd_si, if_neg (fun u => hk u.2)]; exact i3 k
      refine lp_inv (fun i s => s.1 = nI i ∧ s.2.1 = E.1 ∧ (∀ c, c ≠ 146 → s.2.2 c = E.2 c) ∧ ∀ k, k < 144 → k / 4 % 6 < i → s.2.2 146 k = kMask (k % 4)) 6 (by decide) ⟨rfl, rfl, fun _ _ => rfl, fun k _ hk => absurd hk (by omega)⟩ (fun i hi s k2 hJ hc2 => ?_) (fun s k2 hJ => ?_)
      · obtain ⟨t1, tM⟩ := s
        obtain ⟨rfl, q1, q2, q3⟩ := hJ
        dsimp only at q1 q2 q3
        unfold w_X8_law_L94
        refine i_t (nI_ge hi (by decide)) (s8_allForget hi ?_)
        dsimp only
        rw [nI_1]
        refine hc2 _ ⟨rfl, by show (knA tM 146 i 6).1 = _; rw [knA_1]; exact q1, fun c hc => by show (knA tM 146 i 6).2 c = _; rw [knA_ne hc]; exact q2 c hc, fun k hk1 hk2 => ?_⟩
        show (knA tM 146 i 6).2 146 k = _
        rw [knA_at hi]
        by_cases u : k / 4 % 6 = i
        · rw [if_pos ⟨u, by omega⟩]
        · rw [if_neg (fun v => u v.1)]
          exact q3 k hk1 (by omega)
      · obtain ⟨t1, tM⟩ := s
        obtain ⟨rfl, q1, q2, q3⟩ := hJ
        dsimp only at q1 q2 q3
        unfold w_X8_law_L94
        refine i_f (nn (n := 6) (by decide)) (sLet_i ?_)
        dsimp only
        have z1 : ∀ c, c ≠ 140 → (sk_si tM 140 12 0).1 c = E.1 c := fun c hc => by rw [si_c hc, q1]
        refine hO ls eq hl _ ⟨fun c h1 h2 => ?_, fun c hc => ?_, ⟨?_, ?_, ?_, ?_, ?_⟩, fun k hk h4 => ?_, ?_, ?_, ⟨S, hS, fun m hm => ?_⟩, fun i hi => ?_⟩
        · rw [z1 c h1, e1 c h2, d1 c h1 h2, g1 c h1 h2, c1 c h1]
        · rw [si_2, q2 c hc, e2, d2, g2, c2]
        · rw [rd_si, if_neg (by omega), q1, e1 140 (by decide), d3 0 (by decide), g3 0 (by decide) (by decide) (by decide) (by decide)]; exact c3
        · rw [rd_si, if_neg (by omega), q1, e1 140 (by decide), d3 14 (by decide), g3 14 (by decide) (by decide) (by decide) (by decide)]; exact c14
        · rw [rd_si, if_neg (by omega), q1, e1 140 (by decide)]; exact d19
        · rw [rd_si, if_neg (by omega), q1, e1 140 (by decide), d3 11 (by decide), g3 11 (by decide) (by decide) (by decide) (by decide)]; exact cx 11 (by omega)
        · rw [rd_si, if_pos ⟨rfl, rfl⟩]
        · rw [z1 141 (by decide), e5 k h4, if_neg (by omega), d4 k (by omega), g4 k (by omega), w]
        · rw [z1 141 (by decide)]; exact e4
        · rw [z1 141 (by decide), e5 562 (by decide), if_pos (by omega)]; exact d5
        · have base := ok m hm
          have ek : ∀ k, 1 ≤ k → k < 849 → (sk_si tM 140 12 0).1 141 (562 + k) = dft M3 k := fun k k1 k2 => by
            rw [z1 141 (by decide), e5 _ (by omega), if_pos (by omega), d4 _ (by omega), show 562 + k + 849 = 1411 + k by omega]
            rfl
          obtain ⟨x1, x2, s0, s1, x3, x4, b0, b1, hr⟩ := base
          refine ⟨(ek _ (by omega) (by omega)).trans x1, (ek _ (by omega) (by omega)).trans x2, s0, s1, (ek _ (by omega) (by omega)).trans x3, (ek _ (by omega) (by omega)).trans x4, b0, b1, hr.imp id (fun r => ?_)⟩
          exact Run.cg r (fun k k1 k2 => ek k (by omega) (by omega)) (fun _ _ _ _ _ _ => rfl)
        · rw [si_2]
          exact q3 i hi (by omega)
  · rw [hC9] at g
    obtain ⟨g1, g2, g3, g4, g5⟩ := g
    rw [if_pos m1_n0, if_pos m1_n0, e3]
    refine sLet_i (sLet_i (sLet_i (g8_no rfl (i_t (by decide) ?_))))
    refine hW a eq _ ⟨fun c h1 h2 => by rw [si_c h1, si_c h1, g1 c h1 h2, c1 c h1], by rw [si_2, si_2, g2, c2], fun k hk => by rw [si_c (by decide), si_c (by decide), g4 k (by omega), w], ?_, ?_, ?_⟩ ?_ ?_
    · rw [rd_si, if_neg (by omega), rd_si, if_neg (by omega), g3 14 (by decide) (by decide) (by decide) (by decide)]; exact c14
    · rw [rd_si, if_neg (by omega), rd_si, if_neg (by omega), g3 11 (by decide) (by decide) (by decide) (by decide)]; exact cx 11 (by omega)
    · rw [rd_si, if_neg (by omega), rd_si, if_neg (by omega), g3 12 (by decide) (by decide) (by decide) (by decide)]; exact cx 12 (by omega)
    · rw [rd_si, if_pos ⟨rfl, rfl⟩]
    · rw [rd_si, if_neg (by omega), rd_si, if_pos ⟨rfl, rfl⟩]
theorem st_law {M : sk_M} (h : Inv M) : StI Inv (fun Q X => w_X7_law M Q X) w_X8_law ["java/lang/IllegalArgumentException"] := by
  unfold StI w_X7_law
  obtain ⟨nv, np, nc, tx, dy, ch, lg, nr, op, hR⟩ := h.1.1
  obtain ⟨hN, hF, hW, hS, hV, hC, hL, hK, hT⟩ := id hR
  obtain ⟨n1, n2, n3, n4, n5, n6, n7, n8, n9⟩ := id hN
  obtain ⟨f0, f1, f2, f3, f5, f6, f10, f11, f9⟩ := id hF
  obtain ⟨⟨n, hn, tl, tr, tb⟩, te⟩ := h.2.1
  obtain ⟨sz, ns, hsz, hns, m1, m2, m3⟩ := h.2.2.2.1.get
  obtain ⟨y, hy⟩ : ∃ y : Nat → Nat, ∀ j, j < n → y j < 256 ∧ M.1 122 j = nI (y j) ∧ M.1 151 j = sgn8 (y j) := by
    refine ⟨fun j => (M.1 122 j).toNatClampNeg, fun j hj => ?_⟩
    obtain ⟨b, hb, e1, e2⟩ := tb j hj
    have : (M.1 122 j).toNatClampNeg = b := by rw [e1]; exact nI_clamp (by omega)
    show (M.1 122 j).toNatClampNeg < 256 ∧ M.1 122 j = nI (M.1 122 j).toNatClampNeg ∧ M.1 151 j = sgn8 (M.1 122 j).toNatClampNeg
    rw [this]
    exact ⟨hb, e1, e2⟩
  refine c1_read (y := y) (n := n) ⟨tl, hn, fun j hj => ⟨(hy j hj).2.1, (hy j hj).1⟩⟩ (fun ls eq M4 fr ew el row => sLet_i ?_) (fun a eq M4 fr ew => sLet_i ?_)
  · obtain ⟨lb1, lb2⟩ := pLaw_b eq
    refine i_f (by decide) ?_
    obtain ⟨r1, r2, r3⟩ := fr
    generalize hA : sk_si M4 121 1 0 = A
    have a1 : ∀ c, c ≠ 121 → c ≠ 126 → c ≠ 127 → c ≠ 128 → c ≠ 129 → A.1 c = M.1 c := fun c x1 x2 x3 x4 x5 => by rw [← hA, si_c x1]; exact r1 c x1 x2 x3 x4 x5
    have a2 : A.2 = M.2 := by rw [← hA, si_2, r2]
    have aE : A.1 126 5 = nI ls.length := by rw [← hA, si_c (by decide)]; exact el
    have aR : ∀ w, w < 3 → ∀ k, k < 36 → A.1 127 (36 * w + k) = lsV ls w (k / 6) (k % 6) := fun w hw k hk => by rw [← hA, si_c (by decide)]; exact row w hw k hk
    have t1 : A.1 121 1 = 0 := by rw [← hA, rd_si, if_pos ⟨rfl, rfl⟩]
    have t5 : A.1 121 5 = -1 := by rw [← hA, rd_si, if_neg (by omega)]; exact ew
    have z0 : A.1 0 = M.1 0 := a1 0 (by decide) (by decide) (by decide) (by decide) (by decide)
    unfold w_X5_obey w_X3_clear
    rw [z0, f0, f1, aE, nI_clamp (show nv < 2 ^ 31 by omega), nI_clamp (show np < 2 ^ 31 by omega)]
    refine ⟨vp_in_nI (by omega) (by decide), vp_in_nI (by omega) (by decide), rfl, ?_⟩
    generalize hE : sk_si (knC (obA A 0 (nI ls.length)) (0 + 9) nv np) 123 1 0 = E
    have o1 : (knC (obA A 0 (nI ls.length)) (0 + 9) nv np).1 = (obA A 0 (nI ls.length)).1 := knC_1 _ _ _ _
    have e1 : ∀ c, c ≠ 0 → c ≠ 7 → c ≠ 123 → E.1 c = A.1 c := fun c h0 h7 h3 => by
      rw [← hE, si_c h3, o1]
      unfold obA
      rw [si_c h0, ri_c (show c ≠ 0 + 7 by omega)]
    have e04 : E.1 0 4 = nI ls.length := by
      rw [← hE, si_c (by decide), o1]
      unfold obA
      rw [rd_si, if_pos ⟨rfl, rfl⟩]
    have e0k : ∀ k, k ≠ 4 → E.1 0 k = M.1 0 k := fun k hk => by
      rw [← hE, si_c (by decide), o1]
      unfold obA
      rw [rd_si, if_neg (fun u => hk u.2), ri_c (by decide), z0]
    have e7 : ∀ i, i < 108 → E.1 7 i = A.1 127 i := fun i hi => by
      rw [← hE, si_c (by decide), o1]
      unfold obA
      rw [si_c (by decide)]
      show (sk_ri A 7 _).1 7 i = _
      rw [ri_s]
      exact cpy_in hi
    have e9 : ∀ i, E.2 9 i = if i / 24 < np ∧ i / 4 % 6 < nv then kMask (i % 4) else M.2 9 i := fun i => by
      rw [← hE, si_2]
      show (knC _ 9 nv np).2 9 i = _
      rw [knC_at n1]
      unfold obA
      rw [si_2, ri_2, a2]
    have eL : ∀ c, c ≠ 9 → E.2 c = M.2 c := fun c hc => by
      rw [← hE, si_2, knC_ne hc]
      unfold obA
      rw [si_2, ri_2, a2]
    have q1 : E.1 123 1 = 0 := by rw [← hE, rd_si, if_pos ⟨rfl, rfl⟩]
    have q2 : E.1 123 2 = nI ns := by
      rw [← hE, rd_si, if_neg (by omega), o1]
      unfold obA
      rw [si_c (by decide), ri_c (by decide), a1 123 (by decide) (by decide) (by decide) (by decide) (by decide)]
      exact m2
    show w_X8_law (sk_sl (sk_si (knC (obA A 0 (nI ls.length)) (0 + 9) nv np) 123 1 0) 158 0 ((sk_si (knC (obA A 0 (nI ls.length)) (0 + 9) nv np) 123 1 0).1 0 4).toInt64) _
    rw [hE, e04]
    refine s8_law (N := sk_sl E 158 0 (nI ls.length).toInt64) (y := y) (n := n) hn ?_ (fun j hj => ?_) (fun a ea => ?_) (fun ls' eq' hl' M' hY => ?_)
    · show E.1 140 14 = _
      rw [e1 140 (by decide) (by decide) (by decide), a1 140 (by decide) (by decide) (by decide) (by decide) (by decide)]
      exact tr
    · show E.1 151 j = _ ∧ _
      rw [e1 151 (by decide) (by decide) (by decide), a1 151 (by decide) (by decide) (by decide) (by decide) (by decide)]
      exact ⟨(hy j hj).2.2, (hy j hj).1⟩
    · rw [eq] at ea; exact absurd ea (by simp)
    have ell : ls' = ls := by rw [eq] at eq'; exact (Sum.inr.inj eq').symm
    subst ell
    obtain ⟨y1, y2, ⟨y30, y314, y319, y311, y312⟩, y4, y5, y6, ⟨S, hS9, y7⟩, y8⟩ := hY
    have o : ∀ c, c ≠ 0 → c ≠ 7 → c ≠ 121 → c ≠ 123 → c ≠ 126 → c ≠ 127 → c ≠ 128 → c ≠ 129 → c ≠ 140 → c ≠ 141 → M'.1 c = M.1 c := fun c h0 h7 h1 h2 h3 h4 h5 h6 h8 h9 => by
      rw [y1 c h8 h9]
      show E.1 c = _
      rw [e1 c h0 h7 h2]
      exact a1 c h1 h3 h4 h5 h6
    have l : ∀ c, c ≠ 9 → c ≠ 146 → c ≠ 158 → M'.2 c = M.2 c := fun c h1 h2 h3 => by rw [y2 c h2, sl_c h3]; exact eL c h1
    have o0 : M'.1 0 = E.1 0 := y1 0 (by decide) (by decide)
    have o7 : M'.1 7 = E.1 7 := y1 7 (by decide) (by decide)
    have w : ∀ k, k < 562 → k ≠ 4 → M'.1 141 k = M.1 141 k := fun k hk h4 => by
      rw [y4 k hk h4]
      show E.1 141 k = _
      rw [e1 141 (by decide) (by decide) (by decide), a1 141 (by decide) (by decide) (by decide) (by decide) (by decide)]
    have k9 : M'.2 9 = E.2 9 := by rw [y2 9 (by decide), sl_c (by decide)]
    have cv : ∀ w, w < 3 → ∀ t, t < 6 → ∀ c, c < 6 → M'.1 7 (36 * w + 6 * t + c) = lsV ls' w t c := fun w hw t ht c hc => by
      rw [o7, e7 _ (by omega), show 36 * w + 6 * t + c = 36 * w + (6 * t + c) by omega, aR w hw _ (by omega), show (6 * t + c) / 6 = t by omega, show (6 * t + c) % 6 = c by omega]
    refine ⟨y30, ?_, h.txt ⟨⟨nv, np, nc, tx, dy, ch, lg, nr, op, hN, ?_, ?_, ?_, fun v hv => ?_, fun c hc => ?_, fun a ha k hk => ?_, ⟨fun p hp v hv k hk => ?_, fun p hp v hv hh k hk => ?_⟩, fun p hp v hv => ?_⟩, ⟨fun i hi => ?_, ?_, Or.inr ⟨y5, ?_⟩⟩⟩ (fun c h0 h1 h2 _ h3 h4 h5 h6 h8 h9 _ => o c (by omega) (by omega) h1 h2 h3 h4 h5 h6 h8 h9) (fun c h0 h1 _ h3 => l c (by omega) h1 h3) ?_ y314 ?_ ?_ (MemR.none (ns := ns) ?_ ?_ hns y312)⟩
    · rw [y2 158 (by decide), rd_sl, if_pos ⟨rfl, rfl⟩]
    · rw [o0]
      exact ⟨by rw [e0k 0 (by decide)]; exact f0, by rw [e0k 1 (by decide)]; exact f1, by rw [e0k 2 (by decide)]; exact f2, by rw [e0k 3 (by decide)]; exact f3, by rw [e0k 5 (by decide)]; exact f5, by rw [e0k 6 (by decide)]; exact f6, by rw [e0k 10 (by decide)]; exact f10, by rw [e0k 11 (by decide)]; exact f11, by rw [e0k 9 (by decide)]; exact f9⟩
    · unfold RlW
      rw [w 0 (by omega) (by omega), w 1 (by omega) (by omega), w 2 (by omega) (by omega), w 3 (by omega) (by omega), w 5 (by omega) (by omega), w 6 (by omega) (by omega), w 8 (by omega) (by omega)]
      exact hW
    · unfold RlS
      rw [o0, e0k 7 (by decide), e0k 8 (by decide), w 9 (by omega) (by omega), w 7 (by omega) (by omega)]
      exact hS
    · rw [o 1 (by decide) (by decide) (by decide) (by decide) (by decide) (by decide) (by decide) (by decide) (by decide) (by decide), o 2 (by decide) (by decide) (by decide) (by decide) (by decide) (by decide) (by decide) (by decide) (by decide) (by decide), o 3 (by decide) (by decide) (by decide) (by decide) (by decide) (by decide) (by decide) (by decide) (by decide) (by decide), w _ (by omega) (by omega), w _ (by omega) (by omega), w _ (by omega) (by omega), w _ (by omega) (by omega)]
      exact hV v hv
    · rw [o 4 (by decide) (by decide) (by decide) (by decide) (by decide) (by decide) (by decide) (by decide) (by decide) (by decide), o 5 (by decide) (by decide) (by decide) (by decide) (by decide) (by decide) (by decide) (by decide) (by decide) (by decide), o 6 (by decide) (by decide) (by decide) (by decide) (by decide) (by decide) (by decide) (by decide) (by decide) (by decide), w _ (by omega) (by omega), w _ (by omega) (by omega), w _ (by omega) (by omega), w _ (by omega) (by omega)]
      exact hC c hc
    · rw [o 8 (by decide) (by decide) (by decide) (by decide) (by decide) (by decide) (by decide) (by decide) (by decide) (by decide), w _ (by omega) (by omega)]
      exact hL a ha k hk
    · rw [k9, e9, if_pos (by omega), y8 _ (by omega)]
    · rw [k9, e9]
      by_cases u : (4 * (6 * p + v) + k) / 24 < np ∧ (4 * (6 * p + v) + k) / 4 % 6 < nv
      · omega
      · rw [if_neg u]
        exact hK.2 p hp v hv hh k hk
    · obtain ⟨⟨c, hc, _, ec⟩, _⟩ := hV v hv
      rw [w _ (by omega) (by omega), ec, nI_clamp (by omega)]
      refine ⟨?_, ?_⟩
      · rw [y8 _ (by omega), show (4 * (6 * p + v) + 3) % 4 = 3 by omega]
        exact msk_full
      · rw [kbit_iff]
        unfold kb
        rw [y8 _ (by omega), show (4 * (6 * p + v) + c / 64) % 4 = c / 64 by omega]
        exact kMask_bit hc
    · have q := cv (i / 36) (by omega) (i % 36 / 6) (by omega) (i % 6) (by omega)
      rw [show 36 * (i / 36) + 6 * (i % 36 / 6) + i % 6 = i by omega] at q
      rw [q]
      have b := lsV_b ls' (i / 36) (i % 36 / 6) (i % 6) lb1 lb2
      omega
    · exact clk_law hS9 y5 y6 lb2 y7 cv
    · rw [o0, e04, y6]
    · rw [y1 121 (by decide) (by decide)]
      show E.1 121 1 = 0
      rw [e1 121 (by decide) (by decide) (by decide)]; exact t1
    · rw [y1 121 (by decide) (by decide), y319]
      show E.1 121 5 = -1
      rw [e1 121 (by decide) (by decide) (by decide)]; exact t5
    · rw [y311]
      show E.1 140 11 = _
      rw [e1 140 (by decide) (by decide) (by decide), a1 140 (by decide) (by decide) (by decide) (by decide) (by decide)]
    · rw [y1 123 (by decide) (by decide)]; exact q1
    · rw [y1 123 (by decide) (by decide)]; exact q2
  · refine i_t rfl ⟨0, rfl, ?_⟩
    obtain ⟨r1, r2, r3⟩ := fr
    generalize hA : sk_si M4 121 1 0 = A
    have a1 : ∀ c, c ≠ 121 → c ≠ 126 → c ≠ 127 → c ≠ 128 → c ≠ 129 → A.1 c = M.1 c := fun c x1 x2 x3 x4 x5 => by rw [← hA, si_c x1]; exact r1 c x1 x2 x3 x4 x5
    have a2 : A.2 = M.2 := by rw [← hA, si_2, r2]
    have t1 : A.1 121 1 = 0 := by rw [← hA, rd_si, if_pos ⟨rfl, rfl⟩]
    have t5 : A.1 121 5 = nI a := by rw [← hA, rd_si, if_neg (by omega)]; exact ew
    refine s8_law (N := A) (y := y) (n := n) hn (by rw [a1 140 (by decide) (by decide) (by decide) (by decide) (by decide)]; exact tr) (fun j hj => by rw [a1 151 (by decide) (by decide) (by decide) (by decide) (by decide)]; exact ⟨(hy j hj).2.2, (hy j hj).1⟩) (fun a' ea M' hX e0 e19 => ⟨e0, ?_⟩) (fun ls' eq' => ?_)
    rotate_left
    · rw [eq] at eq'; exact absurd eq' (by simp)
    have eaa : a' = a := by rw [eq] at ea; exact (Sum.inl.inj ea).symm
    obtain ⟨x1, x2, x3, x4, x5, x6⟩ := hX
    have o : ∀ c, c ≠ 121 → c ≠ 126 → c ≠ 127 → c ≠ 128 → c ≠ 129 → c ≠ 140 → c ≠ 141 → M'.1 c = M.1 c := fun c h1 h2 h3 h4 h5 h6 h7 => by rw [x1 c h6 h7]; exact a1 c h1 h2 h3 h4 h5
    have l : M'.2 = M.2 := x2.trans a2
    have w : ∀ k, k < 1411 → M'.1 141 k = M.1 141 k := fun k hk => by rw [x3 k hk, a1 141 (by decide) (by decide) (by decide) (by decide) (by decide)]
    have oc : ∀ c, c < 10 → M'.1 c = M.1 c := fun c hc => o c (by omega) (by omega) (by omega) (by omega) (by omega) (by omega) (by omega)
    refine h.txt ⟨⟨nv, np, nc, tx, dy, ch, lg, nr, op, ?_⟩, ?_⟩ (fun c _ h1 _ _ h3 h4 h5 h6 h8 h9 _ => o c h1 h3 h4 h5 h6 h8 h9) (fun c _ _ _ _ => by rw [l]) ?_ x4 ?_ ?_ ?_
    · exact hR.cg (fun k _ => by rw [oc 0 (by omega)]) (fun k _ => by rw [oc 1 (by omega)]) (fun k _ => by rw [oc 2 (by omega)]) (fun k _ => by rw [oc 3 (by omega)]) (fun k _ => by rw [oc 4 (by omega)]) (fun k _ => by rw [oc 5 (by omega)]) (fun k _ => by rw [oc 6 (by omega)]) (fun k _ => by rw [oc 8 (by omega)]) (fun i _ => by rw [l]) (fun k hk => w k (by omega)) (fun i _ => by rw [l])
    · rw [oc 0 (by omega)]
      exact h.1.2.cg (fun i _ => by rw [oc 7 (by omega)]) (w 4 (by omega)) (fun k _ k2 => w k k2)
    · rw [x1 121 (by decide) (by decide)]; exact t1
    · rw [x1 121 (by decide) (by decide), t5, e19, eaa]
    · rw [x5, a1 140 (by decide) (by decide) (by decide) (by decide) (by decide)]
    · exact h.2.2.2.1.cg (fun c g1 g2 => o c (by omega) (by omega) (by omega) (by omega) (by omega) (by omega) (by omega)) (fun c _ _ => by rw [l]) (o 123 (by decide) (by decide) (by decide) (by decide) (by decide) (by decide) (by decide)) (by rw [x6, a1 140 (by decide) (by decide) (by decide) (by decide) (by decide)]) (o 145 (by decide) (by decide) (by decide) (by decide) (by decide) (by decide) (by decide)) (by rw [l]) (fun i _ => by rw [oc 7 (by omega)]) (by rw [oc 0 (by omega)]) (w 4 (by omega))
