/-! contracts, lines and the whole text, by the class -/
theorem c0_contractLine {M0 M : sk_M} {Q : Int32 → sk_M → Prop} {B : BS} {y : Nat → Nat} {n i : Nat} {o : Prop} {a1 : Int32} (ho : ¬ (a1 = 0) ↔ o) (h : bkC M0 M B y n i) (hB : bsB B) (hQ : bkP M0 B y n (pCon y n i o B) Q) : w_X0_contractLine a1 M Q := by
  have hT := h.2.2.1
  obtain ⟨b6, b7, b8, _⟩ := hB
  unfold w_X0_contractLine
  rw [h.1.2.2.2.2.2.1]
  by_cases h6 : B.1.2.2.1 < 12
  rotate_left
  · refine i_t (nI_nlt (b := 12) (by omega) (by omega)) (c6_refuse ⟨Or.inl rfl, ?_⟩)
    exact hQ.2 _ (by unfold pCon; rw [iF_f h6]) _ (h.W (rf_ok hT).1 (rf_Wr hT h.2.2.2))
  refine i_f (fun z => z (nI_lt (b := 12) h6 (by decide))) (c6_step hT (fun M1 g1 t1 e1 => ?_))
  have b1 := h.tg g1 t1 (e1.trans h.2.2.2)
  rw [b1.1.2.2.2.2.1]
  refine c6_num t1 b1.2.2.2 (fun f1 M2 g2 t2 e2 => sLet_i ?_) (fun f1 M2 g2 w2 => sLet_i ?_)
  rotate_left
  · have f1' : ¬ (isNu y n (tkE y n i) ∧ nuV y n (tkE y n i) < B.1.2.1) := fun u => f1 ⟨u.1, (le_p1 (nuV_lt t1.2.1 u.1) (by omega)).mpr u.2⟩
    refine i_t rfl (i_t rfl ?_)
    exact hQ.2 _ (by unfold pCon; rw [iF_t h6, iF_f f1']) _ (b1.W g2 w2)
  have v1 := nuV_lt t1.2.1 f1.1
  have f1' : isNu y n (tkE y n i) ∧ nuV y n (tkE y n i) < B.1.2.1 := ⟨f1.1, (le_p1 v1 (by omega)).mp f1.2⟩
  have b2 := b1.tg g2 t2 e2
  refine i_f (m1_ne (by omega)) ?_
  rw [b2.1.2.2.2.1]
  refine c6_num t2 b2.2.2.2 (fun f2 M3 g3 t3 e3 => ?_) (fun f2 M3 g3 w3 => ?_)
  rotate_left
  · have f2' : ¬ (isNu y n (tkE y n (tkE y n i)) ∧ nuV y n (tkE y n (tkE y n i)) < B.1.1) := fun u => f2 ⟨u.1, (le_p1 (nuV_lt t2.2.1 u.1) (by omega)).mpr u.2⟩
    refine i_t rfl ?_
    exact hQ.2 _ (by unfold pCon; rw [iF_t h6, iF_t f1', iF_f f2']) _ (b2.W g3 w3)
  have v2 := nuV_lt t2.2.1 f2.1
  have f2' : isNu y n (tkE y n (tkE y n i)) ∧ nuV y n (tkE y n (tkE y n i)) < B.1.1 := ⟨f2.1, (le_p1 v2 (by omega)).mp f2.2⟩
  have b3 := b2.tg g3 t3 e3
  refine i_f (m1_ne (by omega)) (sLet_i ?_)
  have fin : ∀ (M5 : sk_M) (j : Nat) (d : Int32), bkC M0 M5 B y n j → pCon y n i o B = .inr (j, bC B (nI (nuV y n (tkE y n i)), nI (nuV y n (tkE y n (tkE y n i))), d)) → vp_in (M5.1 125 4) 12 ∧ sLet (sk_si M5 (0 + 4) (M5.1 125 4).toNatClampNeg (nI (nuV y n (tkE y n i)))) fun M123 => vp_in (M123.1 125 4) 12 ∧ sLet (sk_si M123 (0 + 5) (M123.1 125 4).toNatClampNeg (nI (nuV y n (tkE y n (tkE y n i))))) fun M136 => vp_in (M136.1 125 4) 12 ∧ sLet (sk_si M136 (0 + 6) (M136.1 125 4).toNatClampNeg d) fun M150 => sLet (sk_si M150 125 4 ((M150.1 125 4) + (1 : Int32))) fun M158 => Q (1 : Int32) M158 := by
    intro M5 j d b5 eq
    have ev : M5.1 125 4 = nI B.1.2.2.1 := b5.1.2.2.2.2.2.1
    have ec : (M5.1 125 4).toNatClampNeg = B.1.2.2.1 := by rw [ev]; exact nI_clamp (by omega)
    have vi : vp_in (nI B.1.2.2.1) 12 := vp_in_nI h6 (by decide)
    refine ⟨by rw [ev]; exact vi, sLet_i ?_⟩
    rw [ec]
    have e1 : ∀ (N : sk_M) (c : Nat) (x : Int32), c ≠ 125 → N.1 125 4 = nI B.1.2.2.1 → (sk_si N c B.1.2.2.1 x).1 125 4 = nI B.1.2.2.1 := fun N c x hc hN => by rw [si_c (fun z => hc z.symm)]; exact hN
    have q1 := e1 M5 (0 + 4) (nI (nuV y n (tkE y n i))) (by decide) ev
    refine ⟨by rw [q1]; exact vi, sLet_i ?_⟩
    rw [q1, nI_clamp (by omega)]
    have q2 := e1 _ (0 + 5) (nI (nuV y n (tkE y n (tkE y n i)))) (by decide) q1
    refine ⟨by rw [q2]; exact vi, sLet_i (sLet_i ?_)⟩
    rw [q2, nI_clamp (by omega)]
    have q3 := e1 _ (0 + 6) d (by decide) q2
    rw [q3, nI_1]
    exact hQ.1 _ eq _ (bkC_C (x := (nI (nuV y n (tkE y n i)), nI (nuV y n (tkE y n (tkE y n i))), d)) b5)
  by_cases z : a1 = 0
  · have no : ¬ o := fun w => ho.mpr w z
    refine i_f (fun w => w z) ?_
    exact fin M3 _ _ b3 (by unfold pCon; rw [iF_t h6, iF_t f1', iF_t f2', iF_f no])
  · have yo : o := ho.mp z
    refine i_t z ?_
    refine c6_pass t3 e3 (fun p1 M4 g4 t4 e4 => sLet_i ?_) (fun p1 M4 g4 w4 => sLet_i ?_)
    rotate_left
    · refine i_f (fun w => w rfl) (i_t rfl ?_)
      exact hQ.2 _ (by unfold pCon; rw [iF_t h6, iF_t f1', iF_t f2', iF_t yo, iF_f p1]) _ (b3.W g4 w4)
    have b4 := b3.tg g4 t4 e4
    refine i_t (by decide) ?_
    refine c6_num (mo := 999) t4 e4 (fun f4 M5 g5 t5 e5 => ?_) (fun f4 M5 g5 w5 => ?_)
    rotate_left
    · have f4' : ¬ (isNu y n (tkE y n (tkE y n (tkE y n (tkE y n i)))) ∧ nuV y n (tkE y n (tkE y n (tkE y n (tkE y n i)))) ≤ 999) := fun u => f4 ⟨u.1, (le_N (nuV_lt t4.2.1 u.1) (by decide)).mpr u.2⟩
      refine i_t rfl ?_
      exact hQ.2 _ (by unfold pCon; rw [iF_t h6, iF_t f1', iF_t f2', iF_t yo, iF_t p1, iF_f f4']) _ (b4.W g5 w5)
    have v4 := nuV_lt t4.2.1 f4.1
    have f4' : isNu y n (tkE y n (tkE y n (tkE y n (tkE y n i)))) ∧ nuV y n (tkE y n (tkE y n (tkE y n (tkE y n i)))) ≤ 999 := ⟨f4.1, (le_N v4 (by decide)).mp f4.2⟩
    refine i_f (m1_ne (by omega)) ?_
    exact fin M5 _ _ (b4.tg g5 t5 e5) (by unfold pCon; rw [iF_t h6, iF_t f1', iF_t f2', iF_t yo, iF_t p1, iF_t f4'])
theorem bkP_w {M0 : sk_M} {B : BS} {y : Nat → Nat} {n : Nat} {r : PR BS} {Q : Int32 → sk_M → Prop} (h : bkP M0 B y n r Q) : bkP M0 B y n r (fun r M => (r = 0 ∨ r = 1) ∧ Q r M) := ⟨fun x e M' b => ⟨Or.inr rfl, h.1 x e M' b⟩, fun a e M' b => ⟨Or.inl rfl, h.2 a e M' b⟩⟩
theorem c0_line {M0 M : sk_M} {Q : Int32 → sk_M → Prop} {B : BS} {y : Nat → Nat} {n i : Nat} (h : bkC M0 M B y n i) (hB : bsB B) (hQ : bkP M0 B y n (pLine y n i B) Q) : w_X0_line M Q := by
  have hT := h.2.2.1
  unfold w_X0_line
  refine c6_is hT (i_b (fun z => ?_) (fun z => ?_))
  · have k0 := bI_n.mp z
    refine c0_vaultLine h hB ?_
    have e : pLine y n i B = pVault y n i B := by unfold pLine; rw [iF_t k0]
    rw [← e]
    exact bkP_w hQ
  have k0 : ¬ isWd y n i 0 := fun w => z (bI_n.mpr w)
  refine c6_is hT (i_b (fun z => ?_) (fun z => ?_))
  · have k3 := bI_n.mp z
    unfold w_X0_personLine
    rw [h.1.2.2.2.2.1]
    have b7 := hB.2.1
    by_cases h6 : B.1.2.1 < 6
    · refine i_f (fun z => z (nI_lt (b := 6) h6 (by decide))) (c6_step hT (fun M1 g1 t1 e1 => sLet_i ⟨Or.inr rfl, ?_⟩))
      have b1 := h.tg g1 t1 (e1.trans h.2.2.2)
      rw [b1.1.2.2.2.2.1, nI_1]
      exact hQ.1 (tkE y n i, bP B) (by unfold pLine; rw [iF_f k0, iF_t k3, iF_t h6]) _ (bkC_P b1)
    · refine i_t (nI_nlt (b := 6) (by omega) (by omega)) (c6_refuse ⟨Or.inl rfl, Or.inl rfl, ?_⟩)
      exact hQ.2 _ (by unfold pLine; rw [iF_f k0, iF_t k3, iF_f h6]) _ (h.W (rf_ok hT).1 (rf_Wr hT h.2.2.2))
  have k3 : ¬ isWd y n i 3 := fun w => z (bI_n.mpr w)
  refine c6_is hT (i_b (fun z => ?_) (fun z => ?_))
  · have k5 := bI_n.mp z
    refine c0_contractLine (o := False) ⟨fun w => w rfl, False.elim⟩ h hB ?_
    have e : pLine y n i B = pCon y n i False B := by unfold pLine; rw [iF_f k0, iF_f k3, iF_t k5]
    rw [← e]
    exact bkP_w hQ
  have k5 : ¬ isWd y n i 5 := fun w => z (bI_n.mpr w)
  refine c6_is hT (i_b (fun z => ?_) (fun z => ?_))
  · have k4 := bI_n.mp z
    refine c0_contractLine (o := True) ⟨fun _ => trivial, fun _ => by decide⟩ h hB ?_
    have e : pLine y n i B = pCon y n i True B := by unfold pLine; rw [iF_f k0, iF_f k3, iF_f k5, iF_t k4]
    rw [← e]
    exact bkP_w hQ
  have k4 : ¬ isWd y n i 4 := fun w => z (bI_n.mpr w)
  refine c6_is hT (i_b (fun z => ?_) (fun z => ?_))
  · have k7 := bI_n.mp z
    refine c6_step hT (fun M1 g1 t1 e1 => ?_)
    have b1 := h.tg g1 t1 (e1.trans h.2.2.2)
    refine c6_num (mo := 100) t1 b1.2.2.2 (fun f1 M2 g2 t2 e2 => sLet_i ?_) (fun f1 M2 g2 w2 => sLet_i ?_)
    · have v1 := nuV_lt t1.2.1 f1.1
      have f1' : isNu y n (tkE y n i) ∧ nuV y n (tkE y n i) ≤ 100 := ⟨f1.1, (le_N v1 (by decide)).mp f1.2⟩
      have b2 := b1.tg g2 t2 e2
      have e5 : (sk_si M2 125 5 (nI (nuV y n (tkE y n i)))).1 121 5 = -1 := by rw [si_c (by decide)]; exact e2
      refine i_t (isW_0 e5) ?_
      refine hQ.1 (tkE y n (tkE y n i), bH B (nuV y n (tkE y n i))) (by unfold pLine; rw [iF_f k0, iF_f k3, iF_f k5, iF_f k4, iF_t k7, iF_t f1']) _ ⟨bkA_H b2.1, ?_, TS_cg t2 (si_c (by decide)) (si_c (by decide)), e5⟩
      rw [rd_si, if_pos ⟨rfl, rfl⟩]; rfl
    · have f1' : ¬ (isNu y n (tkE y n i) ∧ nuV y n (tkE y n i) ≤ 100) := fun u => f1 ⟨u.1, (le_N (nuV_lt t1.2.1 u.1) (by decide)).mpr u.2⟩
      have e5 : (sk_si M2 125 5 (-1)).1 121 = M2.1 121 := si_c (by decide)
      refine i_f (fun w => ?_) ?_
      · rw [isW_1 (by rw [e5]; exact Wr_ne w2 (tkA4 t1))] at w
        exact absurd w (by decide)
      · obtain ⟨⟨j, w3⟩, w4⟩ := w2
        exact hQ.2 _ (by unfold pLine; rw [iF_f k0, iF_f k3, iF_f k5, iF_f k4, iF_t k7, iF_f f1']) _ ⟨B, bsX.refl, bkA_H (b1.1.tg g2), ⟨j, TS_cg w3 e5 (si_c (by decide))⟩, by rw [e5]; exact w4⟩
  have k7 : ¬ isWd y n i 7 := fun w => z (bI_n.mpr w)
  refine c6_refuse ⟨Or.inl rfl, ?_⟩
  exact hQ.2 _ (by unfold pLine; rw [iF_f k0, iF_f k3, iF_f k5, iF_f k4, iF_f k7]) _ (h.W (rf_ok hT).1 (rf_Wr hT h.2.2.2))
/-- a line's ends and bounds -/
theorem pLine_ok {y : Nat → Nat} {n i : Nat} {B : BS} {x : Nat × BS} (hi : i ≤ n) (hB : bsB B) (h : pLine y n i B = .inr x) : bsB x.2 ∧ bsX B x.2 ∧ x.1 ≤ n := by
  have vault : pVault y n i B = .inr x → tkE y n i ≤ n → bsB x.2 ∧ bsX B x.2 ∧ x.1 ≤ n := fun h h1 => by
    unfold pVault at h
    by_cases h6 : B.1.1 < 6
    rotate_left
    · rw [iF_f h6] at h; exact absurd h (by simp)
    by_cases f1 : isFg y n (tkE y n i)
    rotate_left
    · rw [iF_t h6, iF_f f1] at h; exact absurd h (by simp)
    have g1 := fg_gt h1 f1
    by_cases p1 : isWd y n (tkE y n (tkE y n i)) 1
    rotate_left
    · rw [iF_t h6, iF_t f1, iF_f p1] at h; exact absurd h (by simp)
    have g2 := wd_gt g1.2 p1
    by_cases w1 : isNu y n (tkE y n (tkE y n (tkE y n i))) ∧ nuV y n (tkE y n (tkE y n (tkE y n i))) ≤ 999
    rotate_left
    · rw [iF_t h6, iF_t f1, iF_t p1, iF_f w1] at h; exact absurd h (by simp)
    have g3 := nu_gt g2.2 w1.1
    by_cases w : isWd y n (tkE y n (tkE y n (tkE y n (tkE y n i)))) 2
    · rw [iF_t h6, iF_t f1, iF_t p1, iF_t w1, iF_t w] at h
      have g4 := wd_gt g3.2 w
      cases e : pG y n (n + 1) (tkE y n (tkE y n (tkE y n (tkE y n (tkE y n i))))) 0 with
      | inl a => rw [e] at h; simp only [gdR] at h; exact absurd h (by simp)
      | inr z =>
        rw [e] at h
        simp only [gdR] at h
        have q := pG_lt _ _ _ (by decide) g4.2 z e
        have ex := (Sum.inr.inj h).symm
        rw [ex]
        exact ⟨bV_B hB h6 (fgV_lt f1) w1.2 q.1, bV_X, q.2.2⟩
    · rw [iF_t h6, iF_t f1, iF_t p1, iF_t w1, iF_f w] at h
      have ex := (Sum.inr.inj h).symm
      rw [ex]
      exact ⟨bV_B hB h6 (fgV_lt f1) w1.2 (by decide), bV_X, g3.2⟩
  have con : ∀ o, pCon y n i o B = .inr x → tkE y n i ≤ n → bsB x.2 ∧ bsX B x.2 ∧ x.1 ≤ n := fun o h h1 => by
    unfold pCon at h
    by_cases h6 : B.1.2.2.1 < 12
    rotate_left
    · rw [iF_f h6] at h; exact absurd h (by simp)
    by_cases f1 : isNu y n (tkE y n i) ∧ nuV y n (tkE y n i) < B.1.2.1
    rotate_left
    · rw [iF_t h6, iF_f f1] at h; exact absurd h (by simp)
    have g1 := nu_gt h1 f1.1
    by_cases f2 : isNu y n (tkE y n (tkE y n i)) ∧ nuV y n (tkE y n (tkE y n i)) < B.1.1
    rotate_left
    · rw [iF_t h6, iF_t f1, iF_f f2] at h; exact absurd h (by simp)
    have g2 := nu_gt g1.2 f2.1
    by_cases ho : o
    · by_cases p1 : isWd y n (tkE y n (tkE y n (tkE y n i))) 6
      rotate_left
      · rw [iF_t h6, iF_t f1, iF_t f2, iF_t ho, iF_f p1] at h; exact absurd h (by simp)
      have g3 := wd_gt g2.2 p1
      by_cases f4 : isNu y n (tkE y n (tkE y n (tkE y n (tkE y n i)))) ∧ nuV y n (tkE y n (tkE y n (tkE y n (tkE y n i)))) ≤ 999
      rotate_left
      · rw [iF_t h6, iF_t f1, iF_t f2, iF_t ho, iF_t p1, iF_f f4] at h; exact absurd h (by simp)
      have g4 := nu_gt g3.2 f4.1
      rw [iF_t h6, iF_t f1, iF_t f2, iF_t ho, iF_t p1, iF_t f4] at h
      have ex := (Sum.inr.inj h).symm
      rw [ex]
      exact ⟨bC_B hB h6 (Or.inr ⟨_, f4.2, rfl⟩), bC_X, g4.2⟩
    · rw [iF_t h6, iF_t f1, iF_t f2, iF_f ho] at h
      have ex := (Sum.inr.inj h).symm
      rw [ex]
      exact ⟨bC_B hB h6 (Or.inl rfl), bC_X, g2.2⟩
  unfold pLine at h
  by_cases k0 : isWd y n i 0
  · rw [iF_t k0] at h
    exact vault h (wd_gt hi k0).2
  by_cases k3 : isWd y n i 3
  · rw [iF_f k0, iF_t k3] at h
    by_cases h6 : B.1.2.1 < 6
    · rw [iF_t h6] at h
      have ex := (Sum.inr.inj h).symm
      rw [ex]
      exact ⟨bP_B hB h6, bP_X, (wd_gt hi k3).2⟩
    · rw [iF_f h6] at h; exact absurd h (by simp)
  by_cases k5 : isWd y n i 5
  · rw [iF_f k0, iF_f k3, iF_t k5] at h
    exact con _ h (wd_gt hi k5).2
  by_cases k4 : isWd y n i 4
  · rw [iF_f k0, iF_f k3, iF_f k5, iF_t k4] at h
    exact con _ h (wd_gt hi k4).2
  by_cases k7 : isWd y n i 7
  · rw [iF_f k0, iF_f k3, iF_f k5, iF_f k4, iF_t k7] at h
    have g1 := wd_gt hi k7
    by_cases f1 : isNu y n (tkE y n i) ∧ nuV y n (tkE y n i) ≤ 100
    · rw [iF_t f1] at h
      have ex := (Sum.inr.inj h).symm
      rw [ex]
      exact ⟨bH_B hB f1.2, bH_X, (nu_gt g1.2 f1.1).2⟩
    · rw [iF_f f1] at h; exact absurd h (by simp)
  · rw [iF_f k0, iF_f k3, iF_f k5, iF_f k4, iF_f k7] at h; exact absurd h (by simp)
