/-! the class's Tape, thing by thing -/
theorem lp_ix {σ : Type} {B : (σ → Prop) → σ → Prop} {I : Nat → σ → Prop} (H : ∀ k s (c : σ → Prop), I k s → (∀ k' s', k' < k → I k' s' → c s') → B c s) : ∀ (F k : Nat) (s : σ), I k s → k < F → lp B F s := by
  intro F
  induction F with
  | zero => intro k s _ h; omega
  | succ F ih => intro k s hI h; exact H k s (lp B F) hI (fun k' s' hk h' => ih k' s' h' (by omega))
def tgF (M M' : sk_M) : Prop := (∀ c, c ≠ 121 → M'.1 c = M.1 c) ∧ M'.2 = M.2 ∧ M'.1 121 1 = M.1 121 1
theorem tgF.refl {M : sk_M} : tgF M M := ⟨fun _ _ => rfl, rfl, rfl⟩
theorem tgF.trans {A B C : sk_M} (h : tgF A B) (g : tgF B C) : tgF A C := ⟨fun c hc => (g.1 c hc).trans (h.1 c hc), g.2.1.trans h.2.1, g.2.2.trans h.2.2⟩
theorem tpF.g {M M' : sk_M} (h : tpF M M') : tgF M M' := ⟨h.1, h.2.1, h.2.2 1 (by decide) (by decide) (by decide)⟩
def Wr (M : sk_M) (y : Nat → Nat) (n a : Nat) : Prop := (∃ i, TS M y n i) ∧ M.1 121 5 = nI a
theorem TP_tp {M M' : sk_M} {y : Nat → Nat} {n : Nat} (h : TP M y n) (g : tpF M M') : TP M' y n := ⟨by rw [g.2.2 1 (by decide) (by decide) (by decide)]; exact h.1, h.2.1, fun j hj => by rw [g.1 122 (by decide)]; exact h.2.2 j hj⟩
theorem TS_st {M M' : sk_M} {y : Nat → Nat} {n i : Nat} (h : TP M y n) (hi : i ≤ n) (g : stpI M M' y n i) : TS M' y n i := ⟨TP_tp h g.1, hi, g.2⟩
theorem c6_is {M : sk_M} {Q : Int32 → Prop} {y : Nat → Nat} {n i j : Nat} (h : TS M y n i) (hq : Q (bI (isWd y n i j))) : w_X6_is j M Q := ⟨y, n, i, h, hq⟩
theorem c6_isSign {M : sk_M} {Q : Int32 → Prop} {y : Nat → Nat} {n i c : Nat} (hc : c < 1000) (h : TS M y n i) (hq : Q (bI (tkK y n i = 3 ∧ y (tkA y n i) = c))) : w_X6_isSign (nI c) M Q := ⟨vp_in_nI hc (by decide), y, n, i, h, by rw [nI_clamp (by omega)]; exact hq⟩
theorem c6_step {M : sk_M} {Q : sk_M → Prop} {y : Nat → Nat} {n i : Nat} (h : TS M y n i) (hq : ∀ M', tgF M M' → TS M' y n (tkE y n i) → M'.1 121 5 = M.1 121 5 → Q M') : w_X6_step M Q := by
  have el := (tk_le (y := y) h.2.1).2.2.1
  refine ⟨y, n, tkE y n i, ⟨h.1, h.2.2.2.2, el⟩, fun M' g => hq M' g.1.g (TS_st h.1 el g) (g.1.2.2 5 (by decide) (by decide) (by decide))⟩
theorem rf_ok {M : sk_M} {y : Nat → Nat} {n i : Nat} (h : TS M y n i) : tgF M (rfM M) ∧ TS (rfM M) y n i := by
  unfold rfM
  by_cases z : M.1 121 5 = -1
  · rw [if_pos z]
    refine ⟨⟨fun c hc => si_c hc, rfl, by rw [rd_si, if_neg (by omega)]⟩, ⟨by rw [rd_si, if_neg (by omega)]; exact h.1.1, h.1.2.1, fun j hj => by rw [si_c (by decide)]; exact h.1.2.2 j hj⟩, h.2.1, by rw [rd_si, if_neg (by omega)]; exact h.2.2.1, by rw [rd_si, if_neg (by omega)]; exact h.2.2.2.1, by rw [rd_si, if_neg (by omega)]; exact h.2.2.2.2⟩
  · rw [if_neg z]
    exact ⟨tgF.refl, h⟩
theorem rf_Wr {M : sk_M} {y : Nat → Nat} {n i : Nat} (h : TS M y n i) (h5 : M.1 121 5 = -1) : Wr (rfM M) y n (tkA y n i) := by
  refine ⟨⟨i, (rf_ok h).2⟩, ?_⟩
  unfold rfM
  rw [if_pos h5, rd_si, if_pos ⟨rfl, rfl⟩]
  exact h.2.2.1
theorem Wr_ne {M : sk_M} {y : Nat → Nat} {n a : Nat} (h : Wr M y n a) (ha : a ≤ 400) : ¬ M.1 121 5 = -1 := by
  rw [h.2]
  exact nI_m1 (by omega)
theorem rf_Wr2 {M : sk_M} {y : Nat → Nat} {n a : Nat} (h : Wr M y n a) (ha : a ≤ 400) : rfM M = M := by
  unfold rfM
  rw [if_neg (Wr_ne h ha)]
theorem c6_refuse {M : sk_M} {Q : Int32 → sk_M → Prop} (h : Q 0 (rfM M)) : w_X6_refuse M Q := by
  unfold w_X6_refuse
  unfold rfM at h
  by_cases z : M.1 121 5 = -1
  · rw [if_pos z] at h ⊢
    exact h
  · rw [if_neg z] at h ⊢
    exact h
theorem c6_num {M : sk_M} {Q : Int32 → sk_M → Prop} {y : Nat → Nat} {n i : Nat} {mo : Int32} (h : TS M y n i) (h5 : M.1 121 5 = -1) (h1 : (isNu y n i ∧ nI (nuV y n i) ≤ mo) → ∀ M', tgF M M' → TS M' y n (tkE y n i) → M'.1 121 5 = -1 → Q (nI (nuV y n i)) M') (h0 : ¬ (isNu y n i ∧ nI (nuV y n i) ≤ mo) → ∀ M', tgF M M' → Wr M' y n (tkA y n i) → Q (-1) M') : w_X6_numberUpTo mo M Q := by
  have el := (tk_le (y := y) h.2.1).2.2.1
  exact ⟨y, n, i, h, fun z M' g => h1 z M' g.1.g (TS_st h.1 el g) ((g.1.2.2 5 (by decide) (by decide) (by decide)).trans h5), fun z => h0 z _ (rf_ok h).1 (rf_Wr h h5)⟩
theorem c6_fig {M : sk_M} {Q : Int32 → sk_M → Prop} {y : Nat → Nat} {n i : Nat} (h : TS M y n i) (h5 : M.1 121 5 = -1) (h1 : isFg y n i → ∀ M', tgF M M' → TS M' y n (tkE y n i) → M'.1 121 5 = -1 → Q (nI (fgV y n i)) M') (h0 : ¬ isFg y n i → ∀ M', tgF M M' → Wr M' y n (tkA y n i) → Q (-1) M') : w_X6_figures M Q := by
  have el := (tk_le (y := y) h.2.1).2.2.1
  exact ⟨y, n, i, h, fun z M' g => h1 z M' g.1.g (TS_st h.1 el g) ((g.1.2.2 5 (by decide) (by decide) (by decide)).trans h5), fun z => h0 z _ (rf_ok h).1 (rf_Wr h h5)⟩
theorem c6_pass {M : sk_M} {Q : Int32 → sk_M → Prop} {y : Nat → Nat} {n i j : Nat} (h : TS M y n i) (h5 : M.1 121 5 = -1) (h1 : isWd y n i j → ∀ M', tgF M M' → TS M' y n (tkE y n i) → M'.1 121 5 = -1 → Q 1 M') (h0 : ¬ isWd y n i j → ∀ M', tgF M M' → Wr M' y n (tkA y n i) → Q 0 M') : w_X6_pass j M Q := by
  have el := (tk_le (y := y) h.2.1).2.2.1
  exact ⟨y, n, i, h, fun z M' g => h1 z M' g.1.g (TS_st h.1 el g) ((g.1.2.2 5 (by decide) (by decide) (by decide)).trans h5), fun z => h0 z _ (rf_ok h).1 (rf_Wr h h5)⟩
theorem c6_sgn {M : sk_M} {Q : Int32 → sk_M → Prop} {y : Nat → Nat} {n i c : Nat} (hc : c < 1000) (h : TS M y n i) (h5 : M.1 121 5 = -1) (h1 : (tkK y n i = 3 ∧ y (tkA y n i) = c) → ∀ M', tgF M M' → TS M' y n (tkE y n i) → M'.1 121 5 = -1 → Q 1 M') (h0 : ¬ (tkK y n i = 3 ∧ y (tkA y n i) = c) → ∀ M', tgF M M' → Wr M' y n (tkA y n i) → Q 0 M') : w_X6_passSign (nI c) M Q := by
  have el := (tk_le (y := y) h.2.1).2.2.1
  refine ⟨vp_in_nI hc (by decide), y, n, i, h, ?_, ?_⟩
  · rw [nI_clamp (by omega)]
    exact fun z M' g => h1 z M' g.1.g (TS_st h.1 el g) ((g.1.2.2 5 (by decide) (by decide) (by decide)).trans h5)
  · rw [nI_clamp (by omega)]
    exact fun z => h0 z _ (rf_ok h).1 (rf_Wr h h5)
theorem isW_0 {M : sk_M} (h : M.1 121 5 = -1) : f_X6_isWrong M = 0 := by
  unfold f_X6_isWrong
  rw [if_neg (fun z => z h)]
theorem isW_1 {M : sk_M} (h : ¬ M.1 121 5 = -1) : f_X6_isWrong M = 1 := by
  unfold f_X6_isWrong
  rw [if_pos h]
theorem tkA4 {y : Nat → Nat} {n i : Nat} {M : sk_M} (h : TS M y n i) : tkA y n i ≤ 400 := Nat.le_trans (tkA_le h.2.1).2 h.1.2.1
theorem le_p1 {v k : Nat} (hv : v < 1000) (hk : k ≤ 12) : nI v ≤ nI k - 1 ↔ v < k := by
  rw [Int32.le_iff_toInt_le, nI_s1 (by omega), nI_toInt (by omega)]
  omega
theorem le_N {v k : Nat} (hv : v < 1000) (hk : k < 2000) : nI v ≤ nI k ↔ v ≤ k := nI_leI (by omega) (by omega)
/-! the class reads the text of the bank -/
def bkA (M0 M : sk_M) (B : BS) : Prop := (∀ c, c = 0 ∨ 7 ≤ c → c ≠ 121 → c ≠ 125 → M.1 c = M0.1 c) ∧ M.2 = M0.2 ∧ M.1 121 1 = M0.1 121 1 ∧ M.1 125 2 = nI B.1.1 ∧ M.1 125 3 = nI B.1.2.1 ∧ M.1 125 4 = nI B.1.2.2.1 ∧ (∀ v, v < B.1.1 → M.1 1 v = nI (B.2.1 v).1 ∧ M.1 3 v = nI (B.2.1 v).2.1 ∧ M.1 2 v = nI (B.2.1 v).2.2) ∧ ∀ c, c < B.1.2.2.1 → M.1 4 c = (B.2.2 c).1 ∧ M.1 5 c = (B.2.2 c).2.1 ∧ M.1 6 c = (B.2.2 c).2.2
theorem bkA.tg {M0 M M' : sk_M} {B : BS} (h : bkA M0 M B) (g : tgF M M') : bkA M0 M' B := by
  obtain ⟨a1, a2, a3, a4, a5, a6, a7, a8⟩ := h
  refine ⟨fun c h1 h2 h3 => (g.1 c h2).trans (a1 c h1 h2 h3), g.2.1.trans a2, g.2.2.trans a3, ?_, ?_, ?_, fun v hv => ?_, fun c hc => ?_⟩
  · rw [g.1 125 (by decide)]; exact a4
  · rw [g.1 125 (by decide)]; exact a5
  · rw [g.1 125 (by decide)]; exact a6
  · rw [g.1 1 (by decide), g.1 3 (by decide), g.1 2 (by decide)]; exact a7 v hv
  · rw [g.1 4 (by decide), g.1 5 (by decide), g.1 6 (by decide)]; exact a8 c hc
/-- read so far, and nothing wrong -/
def bkC (M0 M : sk_M) (B : BS) (y : Nat → Nat) (n i : Nat) : Prop := bkA M0 M B ∧ M.1 125 5 = nI B.1.2.2.2 ∧ TS M y n i ∧ M.1 121 5 = -1
/-- wrong at a -/
def bkW (M0 M : sk_M) (B : BS) (y : Nat → Nat) (n a : Nat) : Prop := ∃ B', bsX B B' ∧ bkA M0 M B' ∧ Wr M y n a
theorem bkC.tg {M0 M M' : sk_M} {B : BS} {y : Nat → Nat} {n i j : Nat} (h : bkC M0 M B y n i) (g : tgF M M') (t : TS M' y n j) (h5 : M'.1 121 5 = -1) : bkC M0 M' B y n j := ⟨h.1.tg g, by rw [g.1 125 (by decide)]; exact h.2.1, t, h5⟩
theorem bkC.W {M0 M M' : sk_M} {B : BS} {y : Nat → Nat} {n i a : Nat} (h : bkC M0 M B y n i) (g : tgF M M') (w : Wr M' y n a) : bkW M0 M' B y n a := ⟨B, bsX.refl, h.1.tg g, w⟩
theorem c0_guardDays {M0 M : sk_M} {Q : Int32 → sk_M → Prop} {B : BS} {y : Nat → Nat} {n i : Nat} (h : bkC M0 M B y n i)
    (h0 : ¬ isWd y n i 2 → Q 0 M) (h1 : isWd y n i 2 → ∀ x, pG y n (n + 1) (tkE y n i) 0 = .inr x → ∀ M', bkC M0 M' B y n x.1 → Q (nI x.2) M') (h2 : isWd y n i 2 → ∀ a, pG y n (n + 1) (tkE y n i) 0 = .inl a → ∀ M', bkW M0 M' B y n a → Q 0 M') : w_X0_guardDays M Q := by
  unfold w_X0_guardDays
  have hT := h.2.2.1
  refine c6_is hT ?_
  refine i_b (fun z => h0 (bI_z.mp z)) (fun z => ?_)
  have hw := bI_n.mp z
  have h1 := h1 hw
  have h2 := h2 hw
  have gt := wd_gt hT.2.1 hw
  have n4 := hT.1.2.1
  refine c6_step hT (fun M1 g1 t1 e1 => ?_)
  have b1 := h.tg g1 t1 (e1.trans h.2.2.2)
  refine lp_ix (I := fun q s => (∃ k j g cnt, s.1 = nI g ∧ s.2.1 = nI cnt ∧ g < 128 ∧ pG y n (n + 1) (tkE y n i) 0 = pG y n (k + 1) j g ∧ n < j + k + 1 ∧ j ≤ n ∧ q = n - j + 1 ∧ cnt < j ∧ (cnt = 0 ∨ tkK y n j = 2) ∧ bkC M0 s.2.2 B y n j) ∨ (q = 0 ∧ ∀ c', w_X0_guardDays_L25 Q c' s)) (fun q s c hI hc => ?_) sk_F (n - tkE y n i + 1) _ (Or.inl ⟨n, tkE y n i, 0, 0, rfl, rfl, by decide, rfl, by omega, gt.2, rfl, by omega, Or.inl rfl, b1⟩) (Nat.lt_of_le_of_lt (Nat.succ_le_succ (Nat.sub_le _ _)) (Nat.lt_of_le_of_lt (Nat.succ_le_succ n4) (by decide)))
  rcases hI with hI | hI
  rotate_left
  · exact hI.2 c
  obtain ⟨s1, s2, sM⟩ := s
  obtain ⟨k, j, g, cnt, rfl, rfl, hg, eq, hk, hj, rfl, hcn, hor, hb⟩ := hI
  dsimp only at hb
  have hTj := hb.2.2.1
  unfold w_X0_guardDays_L25
  dsimp only
  rw [hTj.1.1, hTj.2.2.2.1]
  refine i_t ⟨nI_ge (by omega) (by omega), hor.imp (fun w => by rw [w]; rfl) (fun w => by rw [w]; rfl)⟩ ?_
  refine c6_num (mo := 6) hTj hb.2.2.2 (fun w M2 g2 t2 e2 => ?_) (fun w M2 g2 w2 => ?_)
  · have v6 := nuV_lt hj w.1
    have w6 : nuV y n j ≤ 6 := (le_N v6 (by decide)).mp w.2
    refine i_f (m1_ne (by omega)) (sLet_i ?_)
    rw [set_N (by omega), nI_1]
    have b2 := hb.tg g2 t2 e2
    have gt2 := nu_gt hj w.1
    by_cases v : tkK y n (tkE y n j) = 2
    · rw [pG_m ⟨w.1, w6⟩ v] at eq
      cases k with
      | zero => omega
      | succ k =>
        exact hc (n - tkE y n j + 1) _ (by omega) (Or.inl ⟨k, tkE y n j, g ||| 2 ^ nuV y n j, cnt + 1, rfl, rfl, bit7 hg w6, eq, by omega, gt2.2, rfl, by omega, Or.inr v, b2⟩)
    · rw [pG_e ⟨w.1, w6⟩ v] at eq
      -- the next round ends
      have fin := h1 _ eq M2 b2
      have : ∀ c' : (Int32 × Int32 × sk_M) → Prop, w_X0_guardDays_L25 Q c' (nI (g ||| 2 ^ nuV y n j), nI (cnt + 1), M2) := fun c' => by
        unfold w_X0_guardDays_L25
        dsimp only
        rw [t2.1.1, t2.2.2.2.1]
        refine i_f (fun u => ?_) fin
        rcases u.2 with u | u
        · have := (nI_eq (b := 0) (by omega) (by decide)).mp u
          omega
        · have k4 := tk_K y n (tkE y n j)
          exact v ((nI_eq (b := 2) (by omega) (by decide)).mp u)
      exact hc 0 _ (by omega) (Or.inr ⟨rfl, this⟩)
  · refine i_t rfl ?_
    have nn2 : ¬ (isNu y n j ∧ nuV y n j ≤ 6) := fun u => w ⟨u.1, (le_N (nuV_lt hj u.1) (by decide)).mpr u.2⟩
    rw [pG_f nn2] at eq
    exact h2 _ eq M2 (hb.W g2 w2)
