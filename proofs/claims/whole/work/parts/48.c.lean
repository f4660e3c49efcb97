/-! the reference reads all of a text of the bank -/
theorem bkQ_w {M0 : sk_M} {nv0 np0 : Nat} {y : Nat → Nat} {n : Nat} {r : PR BS} {Q : Int32 → sk_M → Prop} (h : bkQ M0 nv0 np0 y n r Q) : bkQ M0 nv0 np0 y n r (fun r M => (r = 0 ∨ r = 1) ∧ Q r M) := ⟨fun x e M' b r => ⟨Or.inr rfl, h.1 x e M' b r⟩, fun a e M' b => ⟨Or.inl rfl, h.2 a e M' b⟩⟩
theorem wd_ne {y : Nat → Nat} {n i j k : Nat} (h : wdL j ≠ wdL k) (h1 : isWd y n i j) : ¬ isWd y n i k := fun h2 => h (h1.2.1.symm.trans h2.2.1)
theorem bkR_H {M0 M : sk_M} {nv0 np0 x : Nat} {B : BS} (h : bkR M0 M nv0 np0 B) (hB : bsB B) : bkR M0 (sk_si M 141 6 (nI x)) nv0 np0 (bH B x) := by
  obtain ⟨a1, a2, a3, ⟨a40, a41, a42, a46⟩, a5, a6, a7, a8⟩ := h
  have rk : ∀ k, k ≠ 6 → (sk_si M 141 6 (nI x)).1 141 k = M.1 141 k := fun k hk => by rw [rd_si, if_neg (fun u => hk u.2)]
  refine ⟨fun x h1 h2 => by rw [si_c h2]; exact a1 x h1 h2, a2, fun k h1 h2 => by rw [si_c (by decide)]; exact a3 k h1 h2, ⟨by rw [rk 0 (by decide)]; exact a40, by rw [rk 1 (by decide)]; exact a41, by rw [rk 2 (by decide)]; exact a42, by rw [rd_si, if_pos ⟨rfl, rfl⟩]; rfl⟩, fun v hv => ?_, fun c hc => ?_, fun k hk => ?_, a8⟩
  · rw [rk _ (by omega), rk _ (by omega), rk _ (by omega), rk _ (by omega)]; exact a5 v hv
  · rw [rk _ (by omega), rk _ (by omega), rk _ (by omega), rk _ (by omega)]; exact a6 c hc
  · rw [rk _ (by omega)]; exact a7 k hk
theorem r8_bankLine {M0 M : sk_M} {Q : Int32 → sk_M → Prop} {nv0 np0 : Nat} {B : BS} {y : Nat → Nat} {n i : Nat} (h : bkR M0 M nv0 np0 B) (hB : bsB B) (n0 : nv0 ≤ B.1.1) (m0 : np0 ≤ B.1.2.1) (hw : RW M y n i) (hQ : bkQ M0 nv0 np0 y n (pLine y n i B) Q) : w_X8_readBankLine M Q := by
  unfold w_X8_readBankLine
  refine r8_isWord (by decide) hw (i_b (fun z => ?_) (fun z => ?_))
  · have k0 := bI_n.mp z
    refine r8_readVault h hB n0 hw k0 ?_
    have e : pLine y n i B = pVault y n i B := by unfold pLine; rw [iF_t k0]
    rw [← e]
    exact bkQ_w hQ
  have k0 : ¬ isWd y n i 0 := fun w => z (bI_n.mpr w)
  refine r8_isWord (by decide) hw (i_b (fun z => ?_) (fun z => ?_))
  · have k3 := bI_n.mp z
    refine r8_readPerson h hB m0 hw k3 ?_
    have e : pLine y n i B = iF (B.1.2.1 < 6) (.inr (tkE y n i, bP B)) (.inl (tkA y n i)) := by unfold pLine; rw [iF_f k0, iF_t k3]
    rw [← e]
    exact bkQ_w hQ
  have k3 : ¬ isWd y n i 3 := fun w => z (bI_n.mpr w)
  refine r8_isWord (by decide) hw (i_b (fun z => ?_) (fun z => ?_))
  · have k4 := bI_z.mp z
    refine r8_isWord (by decide) hw (i_b (fun z5 => ?_) (fun z5 => ?_))
    · have k5 := bI_n.mp z5
      refine r8_readContract (o := False) ⟨fun w => w z, False.elim⟩ h hB hw k5 ?_
      have e : pLine y n i B = pCon y n i False B := by unfold pLine; rw [iF_f k0, iF_f k3, iF_t k5]
      rw [← e]
      exact bkQ_w hQ
    have k5 : ¬ isWd y n i 5 := fun w => z5 (bI_n.mpr w)
    refine r8_isWord (by decide) hw (i_b (fun z7 => ?_) (fun z7 => ?_))
    · have k7 := bI_z.mp z7
      exact hQ.2 _ (by unfold pLine; rw [iF_f k0, iF_f k3, iF_f k5, iF_f k4, iF_f k7]) M (h.Z rtF.refl hw.2.2)
    have k7 := bI_n.mp z7
    have h1n := (wd_gt hw.1 k7).2
    refine r8_number (hi := 100) (hw.E k7) (fun f1 M1 g1 r1 _ => sLet_i ?_) (fun f1 M1 g1 _ e1 => sLet_i ?_)
    · have v1 := nuV_lt h1n f1.1
      have f1' : isNu y n (tkE y n i) ∧ nuV y n (tkE y n i) ≤ 100 := ⟨f1.1, (le_N v1 (by decide)).mp f1.2⟩
      have nn0 : ¬ (nI (nuV y n (tkE y n i)) < 0) := nI_nlt (b := 0) (Nat.zero_le _) (by omega)
      refine i_t nn0 (sLet_i (i_t nn0 ?_))
      exact hQ.1 (tkE y n (tkE y n i), bH B (nuV y n (tkE y n i))) (by unfold pLine; rw [iF_f k0, iF_f k3, iF_f k5, iF_f k4, iF_t k7, iF_t f1']) _ (bkR_H (h.rt g1) hB) r1.st
    · have f1' : ¬ (isNu y n (tkE y n i) ∧ nuV y n (tkE y n i) ≤ 100) := fun u => f1 ⟨u.1, (le_N (nuV_lt h1n u.1) (by decide)).mpr u.2⟩
      refine i_f (fun w => w (by decide)) (i_f (fun w => w (by decide)) ?_)
      exact hQ.2 _ (by unfold pLine; rw [iF_f k0, iF_f k3, iF_f k5, iF_f k4, iF_t k7, iF_f f1']) M1 (h.Z g1 e1)
  · have k4 := bI_n.mp z
    have k5 : ¬ isWd y n i 5 := wd_ne (by decide) k4
    refine r8_readContract (o := True) ⟨fun _ => trivial, fun _ => z⟩ h hB hw k4 ?_
    have e : pLine y n i B = pCon y n i True B := by unfold pLine; rw [iF_f k0, iF_f k3, iF_f k5, iF_t k4]
    rw [← e]
    exact bkQ_w hQ
/-- at the end there is no more -/
theorem tk_end {y : Nat → Nat} {n i : Nat} (hi : i ≤ n) : tkA y n i = n ↔ tkK y n i = 0 := by
  have h1 := (tk_le (y := y) hi).2.2.2.1
  have h2 := (tkA_le (y := y) hi).2
  rw [h1]
  omega
theorem r8_bank {M : sk_M} {Q : Int32 → sk_M → Prop} {B : BS} {y : Nat → Nat} {n : Nat} (hn : n ≤ 400) (hB : bsB B) (e14 : M.1 140 14 = nI n) (e151 : ∀ j, j < n → M.1 151 j = sgn8 (y j) ∧ y j < 256) (e0 : M.1 141 0 = nI B.1.1) (e1 : M.1 141 1 = nI B.1.2.1) (e2 : M.1 141 2 = nI B.1.2.2.1) (e6 : M.1 141 6 = nI B.1.2.2.2) (eV : ∀ v, v < B.1.1 → M.1 141 (10 + 4 * v) = nI (B.2.1 v).1 ∧ M.1 141 (11 + 4 * v) = nI (B.2.1 v).2.2 ∧ M.1 141 (12 + 4 * v) = nI (B.2.1 v).2.1) (eC : ∀ c, c < B.1.2.2.1 → M.1 141 (35 + 4 * c) = (B.2.2 c).1 ∧ M.1 141 (36 + 4 * c) = (B.2.2 c).2.1 ∧ M.1 141 (37 + 4 * c) = (B.2.2 c).2.2 ∧ M.1 141 (34 + 4 * c) = bI (¬ (B.2.2 c).2.2 = -1))
    (h1 : ∀ B', pBank y n B = .inr B' → ∀ r M', 0 ≤ r → bkR (sk_si (sk_si (sk_si (sk_si (sk_si M 140 0 0) 140 16 (nI n)) 140 14 0) 140 15 0) 140 21 0) M' B.1.1 B.1.2.1 B' → bsB B' → bsX B B' → Q r M') (h0 : ∀ a, pBank y n B = .inl a → ∀ M', bkZ (sk_si (sk_si (sk_si (sk_si (sk_si M 140 0 0) 140 16 (nI n)) 140 14 0) 140 15 0) 140 21 0) M' a → Q (-1) M') : w_X8_readAll (1 : Int32) M Q := by
  unfold w_X8_readAll w_X8_uses
  refine sLet_i (sLet_i (sLet_i (sLet_i (sLet_i ?_))))
  have e14' : (sk_si M 140 0 0).1 140 14 = nI n := by rw [rd_si, if_neg (by omega)]; exact e14
  rw [e14']
  generalize hN : sk_si (sk_si (sk_si (sk_si (sk_si M 140 0 0) 140 16 (nI n)) 140 14 0) 140 15 0) 140 21 0 = N at h1 h0 ⊢
  have c1 : ∀ c, c ≠ 140 → N.1 c = M.1 c := fun c hc => by rw [← hN, si_c hc, si_c hc, si_c hc, si_c hc, si_c hc]
  have c2 : N.2 = M.2 := by rw [← hN]; rfl
  have r0 : RT N y n 0 := ⟨by rw [← hN, rd_si, if_neg (by omega), rd_si, if_neg (by omega), rd_si, if_neg (by omega), rd_si, if_pos ⟨rfl, rfl⟩], hn, fun j hj => by rw [c1 151 (by decide)]; exact e151 j hj, by rw [← hN, rd_si, if_neg (by omega), rd_si, if_pos ⟨rfl, rfl⟩]; rfl, Nat.zero_le _⟩
  have w : N.1 141 = M.1 141 := c1 141 (by decide)
  have b0 : bkR N N B.1.1 B.1.2.1 B := by
    refine ⟨fun _ _ _ => rfl, fun _ _ => rfl, fun _ _ _ => rfl, ?_, fun v hv => ?_, ?_, fun _ _ => rfl, fun p hp v hv k hk => by rw [if_pos ⟨hp, hv⟩]⟩
    · rw [w]; exact ⟨e0, e1, e2, e6⟩
    · rw [if_pos hv, w]
      obtain ⟨q1, q2, q3⟩ := eV v hv
      exact ⟨q1, q2, q3, rfl⟩
    · rw [w]; exact eC
  refine r8_blanks (RI.of r0) (fun M1 g1 r1 b1 => ?_)
  have hB1 := b0.rt g1
  rw [r1.2.2.2.1, r1.1]
  have a1 := (tkA_le (y := y) (n := n) (Nat.zero_le n)).2
  by_cases z : tkK y n 0 = 0
  · have e := (tk_end (Nat.zero_le n)).mpr z
    refine i_t (by rw [e]) ?_
    exact h1 B (by unfold pBank; rw [iF_t z]) 0 M1 (by decide) hB1 hB bsX.refl
  have z2 : tkA y n 0 ≠ n := fun u => z ((tk_end (Nat.zero_le n)).mp u)
  refine i_f (fun u => z2 ((nI_eq (by omega) (by omega)).mp u)) ?_
  have ep : pBank y n B = pLines y n 14 0 B := by unfold pBank; rw [iF_f z]
  rw [ep] at h1 h0
  obtain ⟨L, hL⟩ : ∃ L, L = 14 := ⟨14, rfl⟩
  rw [← hL] at h1 h0
  have ri1 : RI M1 y n 0 := ⟨_, r1, tkA_id (Nat.zero_le n), Nat.zero_le n⟩
  refine lp_inx (fun j s => s.1 = nI j ∧ ∃ i B', bkR N s.2 B.1.1 B.1.2.1 B' ∧ RI s.2 y n i ∧ bsB B' ∧ bsX B B' ∧ pLines y n L 0 B = pLines y n (L - j) i B') L (by rw [hL]; decide) ⟨rfl, 0, B, hB1, ri1, hB, bsX.refl, rfl⟩ (fun j hj s c hI hc => ?_)
  obtain ⟨s1, sM⟩ := s
  obtain ⟨rfl, i, B', q1, q2, q3, q4, q5⟩ := hI
  dsimp only at q1 q2
  unfold w_X8_readAll_L28 w_X8_readLine
  refine r8_letters q2 (fun M2 g2 w2 => sLet_i ?_)
  rw [if_pos (show ¬ ((1 : Int32) = 0) by decide)]
  dsimp only
  have q1' := q1.rt g2
  by_cases q : j < L
  · refine i_t (nI_ge (b := 14) (by omega) (by decide)) (i_t (by decide) ?_)
    rw [show L - j = (L - (j + 1)) + 1 by omega] at q5
    refine r8_bankLine q1' q3 q4.1 q4.2.1 w2 ⟨fun x ex M' b' r' => ?_, fun a ea M' b' => ?_⟩
    · obtain ⟨p1, p2, p3⟩ := pLine_ok w2.1 q3 ex
      rw [pLines_r ex] at q5
      refine i_t (by decide) (i_f (by decide) (r8_blanks r' (fun M3 g3 r3 b3 => ?_)))
      have b4 := b'.rt g3
      have al := (tkA_le (y := y) p3).2
      rw [r3.2.2.2.1, r3.1]
      by_cases u : tkK y n x.1 = 0
      · rw [iF_t u] at q5
        have e := (tk_end p3).mpr u
        refine i_t (by rw [e]) ?_
        rw [nI_1]
        exact h1 x.2 q5 _ M3 (p0 (by omega)) b4 p1 (q4.trans p2)
      rw [iF_f u] at q5
      have u2 : tkA y n x.1 ≠ n := fun v => u ((tk_end p3).mp v)
      refine i_f (fun v => u2 ((nI_eq (by omega) (by omega)).mp v)) ?_
      refine s8_isAt (lo := 59) (hi := 59) r3 (by decide) (by decide) ?_
      rw [bI_cg (sg_iff (c := 59) ⟨by decide, by decide, by decide, by decide⟩)]
      by_cases v : tkK y n x.1 = 3 ∧ y (tkA y n x.1) = 59
      · rw [iF_t v] at q5
        refine i_f (by rw [bI_t v]; decide) (sLet_i ?_)
        have ee := (tk_le (y := y) p3).2.2.2.2.2 v.1
        have el := (tk_le (y := y) p3).2.2.1
        rw [nI_1, nI_1, ← ee]
        refine hc _ q ⟨rfl, tkE y n x.1, x.2, b4.rt rtF.p, RI.of (r3.mv el), p1, q4.trans p2, q5⟩
      · rw [iF_f v] at q5
        refine i_t (bI_f v) ?_
        exact h0 _ q5 M3 (b'.Z g3 b3)
    · rw [pLines_l ea] at q5
      refine i_f (fun v => v rfl) (i_t rfl ?_)
      exact h0 a q5 M' b'
  · have e : j = L := by omega
    subst e
    rw [Nat.sub_self] at q5
    refine i_f (fun v => v (nI_le (a := 14) (by omega) (by omega))) (i_t rfl ?_)
    exact h0 _ q5 M2 (q1.Z g2 w2.2.2)
