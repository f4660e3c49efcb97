/-! bank: both sides -/
theorem st_bank {M : sk_M} (h : Inv M) : StI Inv (fun Q X => w_X7_bank M Q X) w_X8_bank ["java/lang/IllegalArgumentException", "java/lang/UnsupportedOperationException"] := by
  unfold StI w_X7_bank
  obtain ⟨nv, np, nc, tx, dy, ch, lg, nr, op, hR⟩ := h.1.1
  obtain ⟨hN, hF, hW, hS, hV, hC, hL, hK, hT⟩ := id hR
  obtain ⟨n1, n2, n3, n4, n5, n6, n7, n8, n9⟩ := id hN
  obtain ⟨f0, f1, f2, f3, f5, f6, f10, f11, f9⟩ := id hF
  obtain ⟨w0, w1, w2, w3, w5, w6, w8⟩ := id hW
  obtain ⟨⟨n, hn, tl, tr, tb⟩, te⟩ := h.2.1
  obtain ⟨sz, ns, hsz, hns, m1, m2, m3⟩ := h.2.2.2.1.get
  obtain ⟨y, hy⟩ : ∃ y : Nat → Nat, ∀ j, j < n → y j < 256 ∧ M.1 122 j = nI (y j) ∧ M.1 151 j = sgn8 (y j) := by
    refine ⟨fun j => (M.1 122 j).toNatClampNeg, fun j hj => ?_⟩
    obtain ⟨b, hb, e1, e2⟩ := tb j hj
    have : (M.1 122 j).toNatClampNeg = b := by rw [e1]; exact nI_clamp (by omega)
    show (M.1 122 j).toNatClampNeg < 256 ∧ M.1 122 j = nI (M.1 122 j).toNatClampNeg ∧ M.1 151 j = sgn8 (M.1 122 j).toNatClampNeg
    rw [this]
    exact ⟨hb, e1, e2⟩
  obtain ⟨V, hVV⟩ : ∃ V : Nat → Nat × Nat × Nat, ∀ v, v < nv → ((V v).1 < 216 ∧ (V v).2.1 ≤ 999 ∧ (V v).2.2 < 128) ∧ (M.1 1 v = nI (V v).1 ∧ M.1 3 v = nI (V v).2.1 ∧ M.1 2 v = nI (V v).2.2) ∧ M.1 141 (10 + 4 * v) = nI (V v).1 ∧ M.1 141 (11 + 4 * v) = nI (V v).2.2 ∧ M.1 141 (12 + 4 * v) = nI (V v).2.1 := by
    refine ⟨fun v => ((M.1 1 v).toNatClampNeg, (M.1 3 v).toNatClampNeg, (M.1 2 v).toNatClampNeg), fun v hv => ?_⟩
    obtain ⟨⟨c, hc, c1, c2⟩, ⟨g, hg, g1, g2⟩, ⟨w, hw, w1, w2⟩, _⟩ := hV v hv
    have q1 : (M.1 1 v).toNatClampNeg = c := by rw [c1]; exact nI_clamp (by omega)
    have q2 : (M.1 2 v).toNatClampNeg = g := by rw [g1]; exact nI_clamp (by omega)
    have q3 : (M.1 3 v).toNatClampNeg = w := by rw [w1]; exact nI_clamp (by omega)
    dsimp only
    rw [q1, q2, q3]
    exact ⟨⟨hc, hw, hg⟩, ⟨c1, w1, g1⟩, c2, g2, w2⟩
  obtain ⟨B, eB⟩ : ∃ B : BS, B = ((nv, np, nc, ch), V, fun c => (M.1 4 c, M.1 5 c, M.1 6 c)) := ⟨_, rfl⟩
  have B1 : B.1.1 = nv := by rw [eB]
  have B2 : B.1.2.1 = np := by rw [eB]
  have B3 : B.1.2.2.1 = nc := by rw [eB]
  have B4 : B.1.2.2.2 = ch := by rw [eB]
  have B5 : B.2.1 = V := by rw [eB]
  have B6 : B.2.2 = fun c => (M.1 4 c, M.1 5 c, M.1 6 c) := by rw [eB]
  clear eB
  have hB : bsB B := by
    unfold bsB
    rw [B1, B2, B3, B4, B5, B6]
    exact ⟨n1, n2, n3, n6, fun v hv => (hVV v hv).1, fun c hc => (hC c hc).2.2.2.2⟩
  have cC : ∀ c, c < B.1.2.2.1 → M.1 4 c = (B.2.2 c).1 ∧ M.1 5 c = (B.2.2 c).2.1 ∧ M.1 6 c = (B.2.2 c).2.2 := fun c _ => by rw [B6]; exact ⟨rfl, rfl, rfl⟩
  have cV : ∀ v, v < B.1.1 → M.1 1 v = nI (B.2.1 v).1 ∧ M.1 3 v = nI (B.2.1 v).2.1 ∧ M.1 2 v = nI (B.2.1 v).2.2 := fun v hv => by rw [B5]; exact (hVV v (by rw [← B1]; exact hv)).2.1
  have rV : ∀ v, v < B.1.1 → M.1 141 (10 + 4 * v) = nI (B.2.1 v).1 ∧ M.1 141 (11 + 4 * v) = nI (B.2.1 v).2.2 ∧ M.1 141 (12 + 4 * v) = nI (B.2.1 v).2.1 := fun v hv => by rw [B5]; exact (hVV v (by rw [← B1]; exact hv)).2.2
  have rC : ∀ c, c < B.1.2.2.1 → M.1 141 (35 + 4 * c) = (B.2.2 c).1 ∧ M.1 141 (36 + 4 * c) = (B.2.2 c).2.1 ∧ M.1 141 (37 + 4 * c) = (B.2.2 c).2.2 ∧ M.1 141 (34 + 4 * c) = bI (¬ (B.2.2 c).2.2 = -1) := fun c hc => by
    rw [B6]
    obtain ⟨q1, q2, q3, q4, _⟩ := hC c (by rw [← B3]; exact hc)
    exact ⟨q1.symm, q2.symm, q3.symm, q4⟩
  -- the reference, from a memory with its own cells as they were
  have ref : ∀ (N : sk_M) (Q : Int32 → sk_M → Prop), (∀ c, 140 ≤ c → N.1 c = M.1 c) → (∀ c, 140 ≤ c → c ≠ 158 → N.2 c = M.2 c) → (∀ a, pBank y n B = .inl a → ∀ M', bkX N M' → M'.1 140 0 = 1 → M'.1 140 19 = nI a → Q 0 M') → (∀ B', pBank y n B = .inr B' → tx = 12 → ∀ M', bkX N M' → M'.1 140 0 = 2 → M'.1 140 19 = -1 → Q 0 M') → (∀ B', pBank y n B = .inr B' → tx ≠ 12 → bsB B' → bsX B B' → ∀ M', bkY N M' B.1.1 B.1.2.1 tx B' → Q (nI (tx + 1)) M') → w_X8_bank N Q := by
    intro N Q c1 c2 q1 q2 q3
    have w : N.1 141 = M.1 141 := c1 141 (by omega)
    refine s8_bank (B := B) (y := y) (n := n) (tx := tx) hn hB (by rw [c1 140 (by omega)]; exact tr) (fun j hj => by rw [c1 151 (by omega)]; exact ⟨(hy j hj).2.2, (hy j hj).1⟩) (by rw [w, B1]; exact w0) (by rw [w, B2]; exact w1) (by rw [w, B3]; exact w2) (by rw [w, B4]; exact w6) (by rw [w]; exact w3) n4 (by rw [w]; exact rV) (by rw [w]; exact rC) q1 q2 q3
  -- a wrong text, or too many: nothing stays
  have stay : ∀ (M4 M' : sk_M) (B' : BS), bsX B B' → bkA M M4 B' → bkX (sk_si M4 121 1 0) M' → M4.1 121 5 = M'.1 140 19 → Inv M' := by
    intro M4 M' B' hX hA hx ht
    obtain ⟨a1, a2, a3, a4, a5, a6, a7, a8⟩ := hA
    obtain ⟨x1, x2, x3, x4, x5, x6, x7⟩ := hx
    have o : ∀ c, c = 0 ∨ 7 ≤ c → c ≠ 121 → c ≠ 125 → c ≠ 140 → c ≠ 141 → c ≠ 143 → M'.1 c = M.1 c := fun c h0 h1 h2 h3 h4 h5 => by rw [x1 c h3 h4 h5, si_c h1]; exact a1 c h0 h1 h2
    have l : ∀ c, c ≠ 146 → c ≠ 148 → M'.2 c = M.2 c := fun c h1 h2 => by rw [x2 c h1 h2, si_2, a2]
    have w : ∀ k, k < 1411 → M'.1 141 k = M.1 141 k := fun k hk => by rw [x3 k hk, si_c (by decide), a1 141 (by omega) (by decide) (by decide)]
    have kk : ∀ k, k < 144 → M'.2 146 k = M.2 146 k := fun k hk => by rw [x4 k hk, si_2, a2]
    have rv : ∀ v, v < nv → M'.1 1 v = M.1 1 v ∧ M'.1 3 v = M.1 3 v ∧ M'.1 2 v = M.1 2 v := fun v hv => by
      have h1 := a7 v (by have := hX.1; omega)
      have h2 := cV v (by omega)
      rw [hX.2.2.2.1 v (by omega)] at h1
      rw [x1 1 (by decide) (by decide) (by decide), x1 3 (by decide) (by decide) (by decide), x1 2 (by decide) (by decide) (by decide), si_c (by decide), si_c (by decide), si_c (by decide)]
      exact ⟨h1.1.trans h2.1.symm, h1.2.1.trans h2.2.1.symm, h1.2.2.trans h2.2.2.symm⟩
    have rc : ∀ c, c < nc → M'.1 4 c = M.1 4 c ∧ M'.1 5 c = M.1 5 c ∧ M'.1 6 c = M.1 6 c := fun c hc => by
      have h1 := a8 c (by have := hX.2.2.1; omega)
      have h2 := cC c (by omega)
      rw [hX.2.2.2.2 c (by omega)] at h1
      rw [x1 4 (by decide) (by decide) (by decide), x1 5 (by decide) (by decide) (by decide), x1 6 (by decide) (by decide) (by decide), si_c (by decide), si_c (by decide), si_c (by decide)]
      exact ⟨h1.1.trans h2.1.symm, h1.2.1.trans h2.2.1.symm, h1.2.2.trans h2.2.2.symm⟩
    have o0 : M'.1 0 = M.1 0 := o 0 (by omega) (by decide) (by decide) (by decide) (by decide) (by decide)
    refine h.txt ⟨⟨nv, np, nc, tx, dy, ch, lg, nr, op, hN, ?_, ?_, ?_, fun v hv => ?_, fun c hc => ?_, fun a ha k hk => ?_, ⟨fun p hp v hv k hk => ?_, fun p hp v hv hh k hk => ?_⟩, fun p hp v hv => ?_⟩, ?_⟩ (fun c h0 h1 _ h2 _ _ _ _ h3 h4 h5 => o c (by omega) h1 h2 h3 h4 h5) (fun c _ h1 h2 _ => l c h1 h2) ?_ x5 ?_ ?_ ?_
    · rw [o0]; exact hF
    · unfold RlW
      rw [w 0 (by omega), w 1 (by omega), w 2 (by omega), w 3 (by omega), w 5 (by omega), w 6 (by omega), w 8 (by omega)]
      exact hW
    · unfold RlS
      rw [o0, w 9 (by omega), w 7 (by omega)]
      exact hS
    · rw [(rv v hv).1, (rv v hv).2.1, (rv v hv).2.2, w _ (by omega), w _ (by omega), w _ (by omega), w _ (by omega)]
      exact hV v hv
    · rw [(rc c hc).1, (rc c hc).2.1, (rc c hc).2.2, w _ (by omega), w _ (by omega), w _ (by omega), w _ (by omega)]
      exact hC c hc
    · rw [o 8 (by omega) (by decide) (by decide) (by decide) (by decide) (by decide), w _ (by omega)]
      exact hL a ha k hk
    · rw [l 9 (by decide) (by decide), kk _ (by omega)]
      exact hK.1 p hp v hv k hk
    · rw [l 9 (by decide) (by decide)]
      exact hK.2 p hp v hv hh k hk
    · have q := hT p hp v hv
      rw [w _ (by omega), kk _ (by omega)]
      refine ⟨q.1, ?_⟩
      have qc : (M.1 141 (10 + 4 * v)).toNatClampNeg < 216 := by
        obtain ⟨⟨c, hc, _, e⟩, _⟩ := hV v hv
        rw [e, nI_clamp (by omega)]
        exact hc
      have q2 := q.2
      unfold kbit at q2 ⊢
      rw [kk _ (by omega)]
      exact q2
    · rw [o0]
      exact h.1.2.cg (fun i _ => by rw [o 7 (by omega) (by decide) (by decide) (by decide) (by decide) (by decide)]) (w 4 (by omega)) (fun k _ k2 => w k k2)
    · rw [x1 121 (by decide) (by decide) (by decide), rd_si, if_pos ⟨rfl, rfl⟩]
    · rw [x1 121 (by decide) (by decide) (by decide), rd_si, if_neg (by omega)]; exact ht
    · rw [x6, si_c (by decide), a1 140 (by omega) (by decide) (by decide)]
    · exact h.2.2.2.1.cg (fun c g1 g2 => o c (by omega) (by omega) (by omega) (by omega) (by omega) (by omega)) (fun c _ _ => l c (by omega) (by omega)) (o 123 (by omega) (by decide) (by decide) (by decide) (by decide) (by decide)) (by rw [x7, si_c (by decide), a1 140 (by omega) (by decide) (by decide)]) (o 145 (by omega) (by decide) (by decide) (by decide) (by decide) (by decide)) (l 150 (by decide) (by decide)) (fun i _ => by rw [o 7 (by omega) (by decide) (by decide) (by decide) (by decide) (by decide)]) (by rw [o0]) (w 4 (by omega))
  have cell : ∀ (M4 : sk_M) (B' : BS), bkA M M4 B' → (∀ c, 140 ≤ c → (sk_si M4 121 1 0).1 c = M.1 c) ∧ (∀ c, 140 ≤ c → c ≠ 158 → (sk_si M4 121 1 0).2 c = M.2 c) := fun M4 B' hA => ⟨fun c hc => by rw [si_c (by omega)]; exact hA.1 c (by omega) (by omega) (by omega), fun c _ _ => by rw [si_2, hA.2.1]⟩
  refine c0_read (B := B) (y := y) (n := n) ⟨tl, hn, fun j hj => ⟨(hy j hj).2.1, (hy j hj).1⟩⟩ hB (by rw [B1]; exact f0) (by rw [B2]; exact f1) (by rw [B3]; exact f2) (by rw [B4]; exact f6) cV cC (fun B' eq M4 hA e5 ew hB' hX => sLet_i ?_) (fun a eq M4 hW4 => sLet_i ?_)
  · refine i_f (by decide) ?_
    have t3 : (sk_si M4 121 1 0).1 0 3 = nI tx := by rw [si_c (by decide), hA.1 0 (by omega) (by decide) (by decide)]; exact f3
    rw [t3]
    obtain ⟨k1, k2⟩ := cell M4 B' hA
    by_cases z : tx < 12
    rotate_left
    · refine i_t (nI_nlt (b := 12) (by omega) (by omega)) ⟨1, rfl, ?_⟩
      refine ref _ _ k1 k2 (fun a ea => ?_) (fun Bz _ _ M' x1 x2 x3 => ⟨x2, stay M4 M' B' hX hA x1 (by rw [x3]; exact ew)⟩) (fun Bz _ z2 => absurd (by omega) z2)
      rw [eq] at ea; exact absurd ea (by simp)
    refine i_f (fun u => u (nI_lt (b := 12) z (by decide))) ?_
    obtain ⟨a1, a2, a3, a4, a5, a6, a7, a8⟩ := hA
    unfold w_X0_settle w_X3_clear
    refine sLet_i (sLet_i (sLet_i (sLet_i (sLet_i ?_))))
    have g2 : ∀ (A : sk_M) (k : Nat) (x : Int32), (sk_si A 0 k x).1 125 = A.1 125 := fun A k x => si_c (by decide)
    simp only [g2]
    rw [si_c (show (125 : Nat) ≠ 121 by decide), a4, a5, a6, e5]
    generalize hD : sk_si (sk_si (sk_si (sk_si (sk_si M4 121 1 0) 0 0 (nI B'.1.1)) 0 1 (nI B'.1.2.1)) 0 2 (nI B'.1.2.2.1)) 0 6 (nI B'.1.2.2.2) = D
    have d3 : D.1 0 3 = nI tx := by rw [← hD, rd_si, if_neg (by omega), rd_si, if_neg (by omega), rd_si, if_neg (by omega), rd_si, if_neg (by omega)]; exact t3
    rw [d3, nI_1]
    generalize hE : sk_si (sk_si D 0 3 (nI (tx + 1))) 123 1 0 = E
    have d1 : ∀ c, c ≠ 0 → c ≠ 121 → D.1 c = M4.1 c := fun c h1 h2 => by rw [← hD, si_c h1, si_c h1, si_c h1, si_c h1, si_c h2]
    have d2 : D.2 = M4.2 := by rw [← hD]; rfl
    have e1 : ∀ c, c ≠ 0 → c ≠ 121 → c ≠ 123 → E.1 c = M4.1 c := fun c h1 h2 h3 => by rw [← hE, si_c h3, si_c h1, d1 c h1 h2]
    have e2 : E.2 = M.2 := by rw [← hE, si_2, si_2, d2, a2]
    have z0 : E.1 0 0 = nI B'.1.1 := by rw [← hE, si_c (by decide), rd_si, if_neg (by omega), ← hD, rd_si, if_neg (by omega), rd_si, if_neg (by omega), rd_si, if_neg (by omega), rd_si, if_pos ⟨rfl, rfl⟩]
    have z1 : E.1 0 1 = nI B'.1.2.1 := by rw [← hE, si_c (by decide), rd_si, if_neg (by omega), ← hD, rd_si, if_neg (by omega), rd_si, if_neg (by omega), rd_si, if_pos ⟨rfl, rfl⟩]
    have z2 : E.1 0 2 = nI B'.1.2.2.1 := by rw [← hE, si_c (by decide), rd_si, if_neg (by omega), ← hD, rd_si, if_neg (by omega), rd_si, if_pos ⟨rfl, rfl⟩]
    have z6 : E.1 0 6 = nI B'.1.2.2.2 := by rw [← hE, si_c (by decide), rd_si, if_neg (by omega), ← hD, rd_si, if_pos ⟨rfl, rfl⟩]
    have z3 : E.1 0 3 = nI (tx + 1) := by rw [← hE, si_c (by decide), rd_si, if_pos ⟨rfl, rfl⟩]
    have zk : ∀ k, k ≠ 0 → k ≠ 1 → k ≠ 2 → k ≠ 3 → k ≠ 6 → E.1 0 k = M.1 0 k := fun k h0 h1 h2 h3 h6 => by
      rw [← hE, si_c (by decide), rd_si, if_neg (fun u => h3 u.2), ← hD, rd_si, if_neg (fun u => h6 u.2), rd_si, if_neg (fun u => h2 u.2), rd_si, if_neg (fun u => h1 u.2), rd_si, if_neg (fun u => h0 u.2), si_c (by decide), a1 0 (by omega) (by decide) (by decide)]
    have t1 : E.1 121 1 = 0 := by rw [← hE, si_c (by decide), si_c (by decide), ← hD, si_c (by decide), si_c (by decide), si_c (by decide), si_c (by decide), rd_si, if_pos ⟨rfl, rfl⟩]
    have t5 : E.1 121 5 = -1 := by rw [← hE, si_c (by decide), si_c (by decide), ← hD, si_c (by decide), si_c (by decide), si_c (by decide), si_c (by decide), rd_si, if_neg (by omega)]; exact ew
    have q1 : E.1 123 1 = 0 := by rw [← hE, rd_si, if_pos ⟨rfl, rfl⟩]
    have q2 : E.1 123 2 = nI ns := by rw [← hE, rd_si, if_neg (by omega), si_c (by decide), d1 123 (by decide) (by decide), a1 123 (by omega) (by decide) (by decide)]; exact m2
    rw [z3]
    refine ref (sk_sl E 158 0 (nI (tx + 1)).toInt64) _ (fun c hc => ?_) (fun c hc h8 => by rw [sl_c h8, e2]) (fun a ea => ?_) (fun Bz _ z2 => by omega) (fun Bz eq2 _ hB2 hX2 M' hY => ?_)
    · show E.1 c = M.1 c
      rw [e1 c (by omega) (by omega) (by omega)]
      exact a1 c (by omega) (by omega) (by omega)
    · rw [eq] at ea; exact absurd ea (by simp)
    rw [eq] at eq2
    have eB2 : Bz = B' := (Sum.inr.inj eq2).symm
    subst eB2
    obtain ⟨y1, y2, ⟨y30, y314, y319, y311, y312⟩, ⟨y40, y41, y42, y46, y43⟩, y5, y6, y7, y8⟩ := hY
    obtain ⟨bb1, bb2, bb3, bb4, bb5, bb6⟩ := id hB'
    have o : ∀ c, c ≠ 0 → 7 ≤ c → c ≠ 121 → c ≠ 123 → c ≠ 125 → c ≠ 140 → c ≠ 141 → c ≠ 143 → M'.1 c = M.1 c := fun c h0 h7 h1 h2 h3 h4 h5 h6 => by
      rw [y1 c h4 h5 h6]
      show E.1 c = _
      rw [e1 c h0 h1 h2]
      exact a1 c (by omega) h1 h3
    have l : ∀ c, c ≠ 146 → c ≠ 148 → c ≠ 158 → M'.2 c = M.2 c := fun c h1 h2 h3 => by rw [y2 c h1 h2, sl_c h3, e2]
    have oE : ∀ c, c ≠ 140 → c ≠ 141 → c ≠ 143 → M'.1 c = E.1 c := fun c h1 h2 h3 => y1 c h1 h2 h3
    have yk : ∀ k, k = 4 ∨ k = 5 ∨ k = 7 ∨ k = 8 ∨ k = 9 ∨ 82 ≤ k → M'.1 141 k = M.1 141 k := fun k hk => by
      rw [y7 k hk]
      show E.1 141 k = _
      rw [e1 141 (by decide) (by decide) (by decide), a1 141 (by omega) (by decide) (by decide)]
    have le1 := hX.1
    have le2 := hX.2.1
    rw [B1] at le1
    rw [B2] at le2
    have opb : op < 2 ^ Bz.1.1 := Nat.lt_of_lt_of_le n9 (Nat.pow_le_pow_right (by decide) le1)
    refine ⟨y30, ?_, h.txt ⟨⟨Bz.1.1, Bz.1.2.1, Bz.1.2.2.1, tx + 1, dy, Bz.1.2.2.2, lg, nr, op, ⟨bb1, bb2, bb3, by omega, n5, bb4, n7, n8, opb⟩, ?_, ?_, ?_, fun v hv => ?_, fun c hc => ?_, fun a ha k hk => ?_, ⟨fun p hp v hv k hk => ?_, fun p hp v hv hh k hk => ?_⟩, fun p hp v hv => ?_⟩, ?_⟩ (fun c h0 h1 h2 h3 _ _ _ _ h4 h5 h6 => o c (by omega) (by omega) h1 h2 h3 h4 h5 h6) (fun c _ h1 h2 h3 => l c h1 h2 h3) ?_ y314 ?_ ?_ (MemR.none (ns := ns) ?_ ?_ hns y312)⟩
    · rw [y2 158 (by decide) (by decide), rd_sl, if_pos ⟨rfl, rfl⟩]
    · rw [oE 0 (by decide) (by decide) (by decide)]
      exact ⟨z0, z1, z2, z3, by rw [zk 5 (by decide) (by decide) (by decide) (by decide) (by decide)]; exact f5, z6, by rw [zk 10 (by decide) (by decide) (by decide) (by decide) (by decide)]; exact f10, by rw [zk 11 (by decide) (by decide) (by decide) (by decide) (by decide)]; exact f11, by rw [zk 9 (by decide) (by decide) (by decide) (by decide) (by decide)]; exact f9⟩
    · exact ⟨y40, y41, y42, y43, by rw [yk 5 (by omega)]; exact w5, y46, by rw [yk 8 (by omega)]; exact w8⟩
    · unfold RlS
      rw [oE 0 (by decide) (by decide) (by decide), zk 7 (by decide) (by decide) (by decide) (by decide) (by decide), zk 8 (by decide) (by decide) (by decide) (by decide) (by decide), yk 9 (by omega), yk 7 (by omega)]
      exact hS
    · obtain ⟨v1, v2, v3⟩ := a7 v hv
      obtain ⟨u1, u2, u3, u4⟩ := y5 v hv
      obtain ⟨s1, s2, s3⟩ := bb5 v hv
      rw [oE 1 (by decide) (by decide) (by decide), oE 2 (by decide) (by decide) (by decide), oE 3 (by decide) (by decide) (by decide), e1 1 (by decide) (by decide) (by decide), e1 2 (by decide) (by decide) (by decide), e1 3 (by decide) (by decide) (by decide)]
      refine ⟨⟨_, s1, v1, u1⟩, ⟨_, s3, v3, u2⟩, ⟨_, s2, v2, u3⟩, ?_⟩
      rw [u4, B1]
      by_cases q : v < nv
      · rw [if_pos q]
        show E.1 141 _ = _
        rw [e1 141 (by decide) (by decide) (by decide), a1 141 (by omega) (by decide) (by decide)]
        exact (hV v q).2.2.2
      · rw [if_neg q, bI_f (fun u => absurd (tb_lt n9 u) q)]
    · obtain ⟨v1, v2, v3⟩ := a8 c hc
      obtain ⟨u1, u2, u3, u4⟩ := y6 c hc
      rw [oE 4 (by decide) (by decide) (by decide), oE 5 (by decide) (by decide) (by decide), oE 6 (by decide) (by decide) (by decide), e1 4 (by decide) (by decide) (by decide), e1 5 (by decide) (by decide) (by decide), e1 6 (by decide) (by decide) (by decide), v1, v2, v3, u1, u2, u3, u4]
      exact ⟨rfl, rfl, rfl, rfl, bb6 c hc⟩
    · rw [o 8 (by decide) (by decide) (by decide) (by decide) (by decide) (by decide) (by decide) (by decide), yk _ (by omega)]
      exact hL a ha k hk
    · rw [l 9 (by decide) (by decide) (by decide), y8 p hp v hv k hk, B1, B2]
      by_cases q : p < np ∧ v < nv
      · rw [if_pos q, sl_c (by decide), e2]
        exact hK.1 p q.1 v q.2 k hk
      · rw [if_neg q]
        exact hK.2 p (by omega) v (by omega) (by omega) k hk
    · rw [l 9 (by decide) (by decide) (by decide)]
      exact hK.2 p hp v hv (by omega) k hk
    · obtain ⟨u1, u2, u3, u4⟩ := y5 v hv
      obtain ⟨s1, s2, s3⟩ := bb5 v hv
      have row := fun k hk => y8 p hp v hv k hk
      rw [B1, B2] at row
      rw [u1, nI_clamp (by omega)]
      by_cases q : p < np ∧ v < nv
      · have row' : ∀ k, k < 4 → M'.2 146 (4 * (6 * p + v) + k) = M.2 146 (4 * (6 * p + v) + k) := fun k hk => by rw [row k hk, if_pos q, sl_c (by decide), e2]
        have old := hT p q.1 v q.2
        have ec : (M.1 141 (10 + 4 * v)).toNatClampNeg = (Bz.2.1 v).1 := by
          rw [(rV v (by omega)).1, hX.2.2.2.1 v (by omega), nI_clamp (by rw [← hX.2.2.2.1 v (by omega)]; omega)]
        rw [ec] at old
        refine ⟨by rw [row' 3 (by omega)]; exact old.1, ?_⟩
        have q2 := old.2
        unfold kbit at q2 ⊢
        rw [row' _ (by omega)]
        exact q2
      · have row' : ∀ k, k < 4 → M'.2 146 (4 * (6 * p + v) + k) = kMask k := fun k hk => by rw [row k hk, if_neg q]
        refine ⟨by rw [row' 3 (by omega)]; exact msk_full, ?_⟩
        rw [kbit_iff]
        unfold kb
        rw [row' _ (by omega)]
        exact kMask_bit s1
    · rw [oE 0 (by decide) (by decide) (by decide), zk 4 (by decide) (by decide) (by decide) (by decide) (by decide)]
      exact h.1.2.cg (fun i _ => by rw [o 7 (by decide) (by decide) (by decide) (by decide) (by decide) (by decide) (by decide) (by decide)]) (yk 4 (by omega)) (fun k k1 _ => yk k (by omega))
    · rw [oE 121 (by decide) (by decide) (by decide)]; exact t1
    · rw [oE 121 (by decide) (by decide) (by decide), y319]; exact t5
    · rw [y311]
      show E.1 140 11 = _
      rw [e1 140 (by decide) (by decide) (by decide), a1 140 (by omega) (by decide) (by decide)]
    · rw [oE 123 (by decide) (by decide) (by decide)]; exact q1
    · rw [oE 123 (by decide) (by decide) (by decide)]; exact q2
  · refine i_t rfl ⟨0, rfl, ?_⟩
    obtain ⟨B', hX, hA, hWr⟩ := hW4
    obtain ⟨k1, k2⟩ := cell M4 B' hA
    refine ref _ _ k1 k2 (fun a2 ea M' x1 x2 x3 => ⟨x2, stay M4 M' B' hX hA x1 ?_⟩) (fun Bz eq2 => ?_) (fun Bz eq2 => ?_)
    · rw [eq] at ea
      rw [x3, ← Sum.inl.inj ea]
      exact hWr.2
    · rw [eq] at eq2; exact absurd eq2 (by simp)
    · rw [eq] at eq2; exact absurd eq2 (by simp)
