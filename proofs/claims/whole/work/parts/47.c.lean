/-! the class's lines of the bank -/
theorem TS_cg {M M' : sk_M} {y : Nat → Nat} {n i : Nat} (h : TS M y n i) (h1 : M'.1 121 = M.1 121) (h2 : M'.1 122 = M.1 122) : TS M' y n i := by
  obtain ⟨⟨a1, a2, a3⟩, a4, a5, a6, a7⟩ := h
  exact ⟨⟨by rw [h1]; exact a1, a2, fun j hj => by rw [h2]; exact a3 j hj⟩, a4, by rw [h1]; exact a5, by rw [h1]; exact a6, by rw [h1]; exact a7⟩
theorem pG_a {y : Nat → Nat} {n a : Nat} : ∀ k i g, i ≤ n → pG y n k i g = .inl a → a ≤ n
  | 0, i, g, hi, h => by
    have e : tkA y n i = a := by simpa [pG] using h
    rw [← e]; exact (tkA_le hi).2
  | k + 1, i, g, hi, h => by
    by_cases z : isNu y n i ∧ nuV y n i ≤ 6
    · have gt := nu_gt hi z.1
      by_cases w : tkK y n (tkE y n i) = 2
      · rw [pG_m z w] at h
        exact pG_a k _ _ gt.2 h
      · rw [pG_e z w] at h; exact absurd h (by simp)
    · rw [pG_f z] at h
      have e : tkA y n i = a := Sum.inl.inj h
      rw [← e]; exact (tkA_le hi).2
theorem bkC_V {M0 M : sk_M} {B : BS} {y : Nat → Nat} {n i c w g : Nat} (h : bkC M0 M B y n i) : bkC M0 (sk_si (sk_si (sk_si (sk_si M (0 + 1) B.1.1 (nI c)) (0 + 3) B.1.1 (nI w)) (0 + 2) B.1.1 (nI g)) 125 2 (nI (B.1.1 + 1))) (bV B c w g) y n i := by
  obtain ⟨⟨a1, a2, a3, a4, a5, a6, a7, a8⟩, b1, b2, b3⟩ := h
  have ra : ∀ k, (sk_si (sk_si (sk_si (sk_si M (0 + 1) B.1.1 (nI c)) (0 + 3) B.1.1 (nI w)) (0 + 2) B.1.1 (nI g)) 125 2 (nI (B.1.1 + 1))).1 1 k = if k = B.1.1 then (nI c) else M.1 1 k := fun k => by
    rw [si_c (show (1 : Nat) ≠ 125 by decide), si_c (show (1 : Nat) ≠ 0 + 2 by decide), si_c (show (1 : Nat) ≠ 0 + 3 by decide), rd_si]
    by_cases z : k = B.1.1
    · rw [if_pos ⟨rfl, z⟩, if_pos z]
    · rw [if_neg (fun u => z u.2), if_neg z]
  have rb : ∀ k, (sk_si (sk_si (sk_si (sk_si M (0 + 1) B.1.1 (nI c)) (0 + 3) B.1.1 (nI w)) (0 + 2) B.1.1 (nI g)) 125 2 (nI (B.1.1 + 1))).1 3 k = if k = B.1.1 then (nI w) else M.1 3 k := fun k => by
    rw [si_c (show (3 : Nat) ≠ 125 by decide), si_c (show (3 : Nat) ≠ 0 + 2 by decide), rd_si]
    by_cases z : k = B.1.1
    · rw [if_pos ⟨rfl, z⟩, if_pos z]
    · rw [if_neg (fun u => z u.2), if_neg z, si_c (show (3 : Nat) ≠ 0 + 1 by decide)]
  have rc : ∀ k, (sk_si (sk_si (sk_si (sk_si M (0 + 1) B.1.1 (nI c)) (0 + 3) B.1.1 (nI w)) (0 + 2) B.1.1 (nI g)) 125 2 (nI (B.1.1 + 1))).1 2 k = if k = B.1.1 then (nI g) else M.1 2 k := fun k => by
    rw [si_c (show (2 : Nat) ≠ 125 by decide), rd_si]
    by_cases z : k = B.1.1
    · rw [if_pos ⟨rfl, z⟩, if_pos z]
    · rw [if_neg (fun u => z u.2), if_neg z, si_c (show (2 : Nat) ≠ 0 + 3 by decide), si_c (show (2 : Nat) ≠ 0 + 1 by decide)]
  refine ⟨⟨fun x h1 h2 h3 => ?_, a2, ?_, ?_, ?_, ?_, fun v hv => ?_, fun x hx => ?_⟩, ?_, TS_cg b2 ?_ ?_, ?_⟩
  · rw [si_c h3, si_c (by omega), si_c (by omega), si_c (by omega)]; exact a1 x h1 h2 h3
  · rw [si_c (by decide), si_c (by decide), si_c (by decide), si_c (by decide)]; exact a3
  · rw [rd_si, if_pos ⟨rfl, rfl⟩]; rfl
  · rw [rd_si, if_neg (by omega), si_c (by decide), si_c (by decide), si_c (by decide)]; exact a5
  · rw [rd_si, if_neg (by omega), si_c (by decide), si_c (by decide), si_c (by decide)]; exact a6
  · have hv' : v < B.1.1 + 1 := hv
    show _ = nI (if v = B.1.1 then (c, w, g) else B.2.1 v).1 ∧ _ = nI (if v = B.1.1 then (c, w, g) else B.2.1 v).2.1 ∧ _ = nI (if v = B.1.1 then (c, w, g) else B.2.1 v).2.2
    rw [ra, rb, rc]
    by_cases z : v = B.1.1
    · rw [if_pos z, if_pos z, if_pos z, if_pos z]; exact ⟨rfl, rfl, rfl⟩
    · rw [if_neg z, if_neg z, if_neg z, if_neg z]; exact a7 v (by omega)
  · rw [si_c (by decide), si_c (by decide), si_c (by decide), si_c (by decide), si_c (by decide), si_c (by decide), si_c (by decide), si_c (by decide), si_c (by decide), si_c (by decide), si_c (by decide), si_c (by decide)]
    exact a8 x hx
  · rw [rd_si, if_neg (by omega), si_c (by decide), si_c (by decide), si_c (by decide)]; exact b1
  · rw [si_c (by decide), si_c (by decide), si_c (by decide), si_c (by decide)]
  · rw [si_c (by decide), si_c (by decide), si_c (by decide), si_c (by decide)]
  · rw [si_c (by decide), si_c (by decide), si_c (by decide), si_c (by decide)]; exact b3
theorem bkC_C {M0 M : sk_M} {B : BS} {y : Nat → Nat} {n i : Nat} {x : Int32 × Int32 × Int32} (h : bkC M0 M B y n i) : bkC M0 (sk_si (sk_si (sk_si (sk_si M (0 + 4) B.1.2.2.1 x.1) (0 + 5) B.1.2.2.1 x.2.1) (0 + 6) B.1.2.2.1 x.2.2) 125 4 (nI (B.1.2.2.1 + 1))) (bC B x) y n i := by
  obtain ⟨⟨a1, a2, a3, a4, a5, a6, a7, a8⟩, b1, b2, b3⟩ := h
  have ra : ∀ k, (sk_si (sk_si (sk_si (sk_si M (0 + 4) B.1.2.2.1 x.1) (0 + 5) B.1.2.2.1 x.2.1) (0 + 6) B.1.2.2.1 x.2.2) 125 4 (nI (B.1.2.2.1 + 1))).1 4 k = if k = B.1.2.2.1 then x.1 else M.1 4 k := fun k => by
    rw [si_c (show (4 : Nat) ≠ 125 by decide), si_c (show (4 : Nat) ≠ 0 + 6 by decide), si_c (show (4 : Nat) ≠ 0 + 5 by decide), rd_si]
    by_cases z : k = B.1.2.2.1
    · rw [if_pos ⟨rfl, z⟩, if_pos z]
    · rw [if_neg (fun u => z u.2), if_neg z]
  have rb : ∀ k, (sk_si (sk_si (sk_si (sk_si M (0 + 4) B.1.2.2.1 x.1) (0 + 5) B.1.2.2.1 x.2.1) (0 + 6) B.1.2.2.1 x.2.2) 125 4 (nI (B.1.2.2.1 + 1))).1 5 k = if k = B.1.2.2.1 then x.2.1 else M.1 5 k := fun k => by
    rw [si_c (show (5 : Nat) ≠ 125 by decide), si_c (show (5 : Nat) ≠ 0 + 6 by decide), rd_si]
    by_cases z : k = B.1.2.2.1
    · rw [if_pos ⟨rfl, z⟩, if_pos z]
    · rw [if_neg (fun u => z u.2), if_neg z, si_c (show (5 : Nat) ≠ 0 + 4 by decide)]
  have rc : ∀ k, (sk_si (sk_si (sk_si (sk_si M (0 + 4) B.1.2.2.1 x.1) (0 + 5) B.1.2.2.1 x.2.1) (0 + 6) B.1.2.2.1 x.2.2) 125 4 (nI (B.1.2.2.1 + 1))).1 6 k = if k = B.1.2.2.1 then x.2.2 else M.1 6 k := fun k => by
    rw [si_c (show (6 : Nat) ≠ 125 by decide), rd_si]
    by_cases z : k = B.1.2.2.1
    · rw [if_pos ⟨rfl, z⟩, if_pos z]
    · rw [if_neg (fun u => z u.2), if_neg z, si_c (show (6 : Nat) ≠ 0 + 5 by decide), si_c (show (6 : Nat) ≠ 0 + 4 by decide)]
  refine ⟨⟨fun x h1 h2 h3 => ?_, a2, ?_, ?_, ?_, ?_, fun v hv => ?_, fun c hc => ?_⟩, ?_, TS_cg b2 ?_ ?_, ?_⟩
  · rw [si_c h3, si_c (by omega), si_c (by omega), si_c (by omega)]; exact a1 x h1 h2 h3
  · rw [si_c (by decide), si_c (by decide), si_c (by decide), si_c (by decide)]; exact a3
  · rw [rd_si, if_neg (by omega), si_c (by decide), si_c (by decide), si_c (by decide)]; exact a4
  · rw [rd_si, if_neg (by omega), si_c (by decide), si_c (by decide), si_c (by decide)]; exact a5
  · rw [rd_si, if_pos ⟨rfl, rfl⟩]; rfl
  · rw [si_c (by decide), si_c (by decide), si_c (by decide), si_c (by decide), si_c (by decide), si_c (by decide), si_c (by decide), si_c (by decide), si_c (by decide), si_c (by decide), si_c (by decide), si_c (by decide)]
    exact a7 v hv
  · have hv' : c < B.1.2.2.1 + 1 := hc
    show _ = (if c = B.1.2.2.1 then x else B.2.2 c).1 ∧ _ = (if c = B.1.2.2.1 then x else B.2.2 c).2.1 ∧ _ = (if c = B.1.2.2.1 then x else B.2.2 c).2.2
    rw [ra, rb, rc]
    by_cases z : c = B.1.2.2.1
    · rw [if_pos z, if_pos z, if_pos z, if_pos z]; exact ⟨rfl, rfl, rfl⟩
    · rw [if_neg z, if_neg z, if_neg z, if_neg z]; exact a8 c (by omega)
  · rw [rd_si, if_neg (by omega), si_c (by decide), si_c (by decide), si_c (by decide)]; exact b1
  · rw [si_c (by decide), si_c (by decide), si_c (by decide), si_c (by decide)]
  · rw [si_c (by decide), si_c (by decide), si_c (by decide), si_c (by decide)]
  · rw [si_c (by decide), si_c (by decide), si_c (by decide), si_c (by decide)]; exact b3
theorem bkC_P {M0 M : sk_M} {B : BS} {y : Nat → Nat} {n i : Nat} (h : bkC M0 M B y n i) : bkC M0 (sk_si M 125 3 (nI (B.1.2.1 + 1))) (bP B) y n i := by
  obtain ⟨⟨a1, a2, a3, a4, a5, a6, a7, a8⟩, b1, b2, b3⟩ := h
  refine ⟨⟨fun x h1 h2 h3 => by rw [si_c h3]; exact a1 x h1 h2 h3, a2, by rw [si_c (by decide)]; exact a3, by rw [rd_si, if_neg (by omega)]; exact a4, by rw [rd_si, if_pos ⟨rfl, rfl⟩]; rfl, by rw [rd_si, if_neg (by omega)]; exact a6, fun v hv => by rw [si_c (by decide), si_c (by decide), si_c (by decide)]; exact a7 v hv, fun c hc => by rw [si_c (by decide), si_c (by decide), si_c (by decide)]; exact a8 c hc⟩, by rw [rd_si, if_neg (by omega)]; exact b1, TS_cg b2 (si_c (by decide)) (si_c (by decide)), by rw [si_c (by decide)]; exact b3⟩
theorem bkA_H {M0 M : sk_M} {B : BS} {x : Int32} (h : bkA M0 M B) : bkA M0 (sk_si M 125 5 x) B := by
  obtain ⟨a1, a2, a3, a4, a5, a6, a7, a8⟩ := h
  exact ⟨fun x h1 h2 h3 => by rw [si_c h3]; exact a1 x h1 h2 h3, a2, by rw [si_c (by decide)]; exact a3, by rw [rd_si, if_neg (by omega)]; exact a4, by rw [rd_si, if_neg (by omega)]; exact a5, by rw [rd_si, if_neg (by omega)]; exact a6, fun v hv => by rw [si_c (by decide), si_c (by decide), si_c (by decide)]; exact a7 v hv, fun c hc => by rw [si_c (by decide), si_c (by decide), si_c (by decide)]; exact a8 c hc⟩
/-- what a line of the bank owes -/
def bkP (M0 : sk_M) (B : BS) (y : Nat → Nat) (n : Nat) (r : PR BS) (Q : Int32 → sk_M → Prop) : Prop := (∀ x, r = .inr x → ∀ M', bkC M0 M' x.2 y n x.1 → Q 1 M') ∧ ∀ a, r = .inl a → ∀ M', bkW M0 M' B y n a → Q 0 M'
theorem c0_vaultLine {M0 M : sk_M} {Q : Int32 → sk_M → Prop} {B : BS} {y : Nat → Nat} {n i : Nat} (h : bkC M0 M B y n i) (hB : bsB B) (hQ : bkP M0 B y n (pVault y n i B) Q) : w_X0_vaultLine M Q := by
  have hT := h.2.2.1
  have b6 := hB.1
  unfold w_X0_vaultLine
  rw [h.1.2.2.2.1]
  by_cases h6 : B.1.1 < 6
  rotate_left
  · refine i_t (nI_nlt (b := 6) (by omega) (by omega)) (c6_refuse ⟨Or.inl rfl, ?_⟩)
    exact hQ.2 _ (by unfold pVault; rw [iF_f h6]) _ (h.W (rf_ok hT).1 (rf_Wr hT h.2.2.2))
  refine i_f (fun z => z (nI_lt (b := 6) h6 (by decide))) (c6_step hT (fun M1 g1 t1 e1 => ?_))
  have b1 := h.tg g1 t1 (e1.trans h.2.2.2)
  refine c6_fig t1 b1.2.2.2 (fun f1 M2 g2 t2 e2 => ?_) (fun f1 M2 g2 w2 => ?_)
  rotate_left
  · refine i_f (fun z => z rfl) ?_
    exact hQ.2 _ (by unfold pVault; rw [iF_t h6, iF_f f1]) _ (b1.W g2 w2)
  have b2 := b1.tg g2 t2 e2
  have fv := fgV_lt f1
  refine i_t (m1_ne (by omega)) (c6_pass t2 e2 (fun p1 M3 g3 t3 e3 => ?_) (fun p1 M3 g3 w3 => ?_))
  rotate_left
  · refine i_t rfl ?_
    exact hQ.2 _ (by unfold pVault; rw [iF_t h6, iF_t f1, iF_f p1]) _ (b2.W g3 w3)
  have b3 := b2.tg g3 t3 e3
  refine i_f (by decide) ?_
  refine c6_num (mo := 999) t3 e3 (fun w1 M4 g4 t4 e4 => sLet_i ?_) (fun w1 M4 g4 w4 => sLet_i ?_)
  rotate_left
  · have w1' : ¬ (isNu y n (tkE y n (tkE y n (tkE y n i))) ∧ nuV y n (tkE y n (tkE y n (tkE y n i))) ≤ 999) := fun u => w1 ⟨u.1, (le_N (nuV_lt t3.2.1 u.1) (by decide)).mpr u.2⟩
    refine i_t rfl (i_t ?_ ?_)
    · rw [isW_1 (Wr_ne w4 (tkA4 t3))]; decide
    · exact hQ.2 _ (by unfold pVault; rw [iF_t h6, iF_t f1, iF_t p1, iF_f w1']) _ (b3.W g4 w4)
  have b4 := b3.tg g4 t4 e4
  have wv := nuV_lt t3.2.1 w1.1
  have w1' : isNu y n (tkE y n (tkE y n (tkE y n i))) ∧ nuV y n (tkE y n (tkE y n (tkE y n i))) ≤ 999 := ⟨w1.1, (le_N wv (by decide)).mp w1.2⟩
  refine i_f (m1_ne (by omega)) ?_
  have fin : ∀ (M5 : sk_M) (j g : Nat), bkC M0 M5 B y n j → pVault y n i B = .inr (j, bV B (fgV y n (tkE y n i)) (nuV y n (tkE y n (tkE y n (tkE y n i)))) g) → if (¬ ((f_X6_isWrong M5) = 0)) then Q (0 : Int32) M5 else (vp_in (M5.1 125 2) 6 ∧ sLet (sk_si M5 (0 + 1) (M5.1 125 2).toNatClampNeg (nI (fgV y n (tkE y n i)))) fun M100 => vp_in (M100.1 125 2) 6 ∧ sLet (sk_si M100 (0 + 3) (M100.1 125 2).toNatClampNeg (nI (nuV y n (tkE y n (tkE y n (tkE y n i)))))) fun M113 => vp_in (M113.1 125 2) 6 ∧ sLet (sk_si M113 (0 + 2) (M113.1 125 2).toNatClampNeg (nI g)) fun M126 => sLet (sk_si M126 125 2 ((M126.1 125 2) + (1 : Int32))) fun M134 => Q (1 : Int32) M134) := by
    intro M5 j g b5 eq
    refine i_f (fun z => z (isW_0 b5.2.2.2)) ?_
    have ev : M5.1 125 2 = nI B.1.1 := b5.1.2.2.2.1
    have ec : (M5.1 125 2).toNatClampNeg = B.1.1 := by rw [ev]; exact nI_clamp (by omega)
    have vi : vp_in (nI B.1.1) 6 := vp_in_nI h6 (by decide)
    refine ⟨by rw [ev]; exact vi, sLet_i ?_⟩
    rw [ec]
    have e1 : ∀ (N : sk_M) (c : Nat) (x : Int32), c ≠ 125 → N.1 125 2 = nI B.1.1 → (sk_si N c B.1.1 x).1 125 2 = nI B.1.1 := fun N c x hc hN => by rw [si_c (fun z => hc z.symm)]; exact hN
    have q1 := e1 M5 (0 + 1) (nI (fgV y n (tkE y n i))) (by decide) ev
    refine ⟨by rw [q1]; exact vi, sLet_i ?_⟩
    rw [q1, nI_clamp (by omega)]
    have q2 := e1 _ (0 + 3) (nI (nuV y n (tkE y n (tkE y n (tkE y n i))))) (by decide) q1
    refine ⟨by rw [q2]; exact vi, sLet_i (sLet_i ?_)⟩
    rw [q2, nI_clamp (by omega)]
    have q3 := e1 _ (0 + 2) (nI g) (by decide) q2
    rw [q3, nI_1]
    exact hQ.1 _ eq _ (bkC_V b5)
  refine c0_guardDays b4 (fun w => ?_) (fun w x ex M5 b5 => ?_) (fun w a ea M5 b5 => ?_)
  · exact fin M4 _ 0 b4 (by unfold pVault; rw [iF_t h6, iF_t f1, iF_t p1, iF_t w1', iF_f w])
  · exact fin M5 _ x.2 b5 (by unfold pVault; rw [iF_t h6, iF_t f1, iF_t p1, iF_t w1', iF_t w, ex]; rfl)
  · obtain ⟨B', x1, x2, x3⟩ := b5
    have a4 : a ≤ 400 := Nat.le_trans (pG_a _ _ _ (wd_gt t4.2.1 w).2 ea) hT.1.2.1
    refine i_t ?_ ?_
    · rw [isW_1 (Wr_ne x3 a4)]; decide
    · exact hQ.2 a (by unfold pVault; rw [iF_t h6, iF_t f1, iF_t p1, iF_t w1', iF_t w, ea]; rfl) _ ⟨B', x1, x2, x3⟩
