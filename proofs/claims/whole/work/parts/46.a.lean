/-! the reference's tape -/
theorem sgn_lo : ∀ b, b < 128 → sgn8 b = nI b := by decide +kernel
theorem sgn_hi : ∀ b, b < 256 → ¬ b < 128 → sgn8 b < 0 := by decide +kernel
theorem sgn_ge {b lo : Nat} (hb : b < 256) (hl : lo < 128) : ¬ (sgn8 b < nI lo) ↔ (b < 128 ∧ lo ≤ b) := by
  by_cases z : b < 128
  · rw [sgn_lo b z, nI_ltI (by omega) (by omega)]
    omega
  · refine ⟨fun y => absurd ?_ y, fun y => absurd y.1 z⟩
    have h := sgn_hi b hb z
    rw [Int32.lt_iff_toInt_lt, Int32.toInt_zero] at h
    rw [Int32.lt_iff_toInt_lt, nI_toInt (by omega)]
    omega
theorem sgn_le {b hi : Nat} (hl : hi < 128) (z : b < 128) : ¬ (nI hi < sgn8 b) ↔ b ≤ hi := by
  rw [sgn_lo b z, nI_ltI (by omega) (by omega)]
  omega
theorem sgn_eq {b w : Nat} (hb : b < 256) (hw : w < 128) : sgn8 b = nI w ↔ b = w := by
  by_cases z : b < 128
  · rw [sgn_lo b z, nI_eq (by omega) (by omega)]
  · refine ⟨fun y => ?_, fun y => absurd (by omega) z⟩
    have h := sgn_hi b hb z
    rw [y, Int32.lt_iff_toInt_lt, Int32.toInt_zero, nI_toInt (by omega)] at h
    omega
def RT (M : sk_M) (y : Nat → Nat) (n p : Nat) : Prop := M.1 140 16 = nI n ∧ n ≤ 400 ∧ (∀ j, j < n → M.1 151 j = sgn8 (y j) ∧ y j < 256) ∧ M.1 140 15 = nI p ∧ p ≤ n
def rtF (M M' : sk_M) : Prop := (∀ c, c ≠ 140 → M'.1 c = M.1 c) ∧ M'.2 = M.2 ∧ ∀ k, k ≠ 15 → k ≠ 17 → M'.1 140 k = M.1 140 k
theorem rtF.refl {M : sk_M} : rtF M M := ⟨fun _ _ => rfl, rfl, fun _ _ _ => rfl⟩
theorem rtF.trans {A B C : sk_M} (h : rtF A B) (g : rtF B C) : rtF A C := ⟨fun c hc => (g.1 c hc).trans (h.1 c hc), g.2.1.trans h.2.1, fun k a b => (g.2.2 k a b).trans (h.2.2 k a b)⟩
theorem rtF.p {M : sk_M} {x : Int32} : rtF M (sk_si M 140 15 x) := ⟨fun c hc => si_c hc, rfl, fun k a _ => by rw [rd_si, if_neg (fun z => a z.2)]⟩
theorem rtF.b {M : sk_M} {x : Int32} : rtF M (sk_si M 140 17 x) := ⟨fun c hc => si_c hc, rfl, fun k _ a => by rw [rd_si, if_neg (fun z => a z.2)]⟩
theorem RT.mv {M : sk_M} {y : Nat → Nat} {n p q : Nat} (h : RT M y n p) (hq : q ≤ n) : RT (sk_si M 140 15 (nI q)) y n q := ⟨by rw [rd_si, if_neg (by omega)]; exact h.1, h.2.1, fun j hj => by rw [si_c (by decide)]; exact h.2.2.1 j hj, by rw [rd_si, if_pos ⟨rfl, rfl⟩], hq⟩
theorem RT.bg {M : sk_M} {y : Nat → Nat} {n p : Nat} {x : Int32} (h : RT M y n p) : RT (sk_si M 140 17 x) y n p := ⟨by rw [rd_si, if_neg (by omega)]; exact h.1, h.2.1, fun j hj => by rw [si_c (by decide)]; exact h.2.2.1 j hj, by rw [rd_si, if_neg (by omega)]; exact h.2.2.2.1, h.2.2.2.2⟩
theorem RT.cg {M M' : sk_M} {y : Nat → Nat} {n p : Nat} (h : RT M y n p) (h1 : M'.1 151 = M.1 151) (h2 : M'.1 140 16 = M.1 140 16) (h3 : M'.1 140 15 = M.1 140 15) : RT M' y n p := ⟨h2.trans h.1, h.2.1, fun j hj => by rw [h1]; exact h.2.2.1 j hj, h3.trans h.2.2.2.1, h.2.2.2.2⟩
theorem s8_isAt {M : sk_M} {Q : Int32 → Prop} {y : Nat → Nat} {n p lo hi : Nat} (h : RT M y n p) (hl : lo < 128) (hh : hi < 128) (hq : Q (bI (p < n ∧ lo ≤ y p ∧ y p ≤ hi))) : w_X8_isAt (nI lo) (nI hi) M Q := by
  obtain ⟨h1, h2, h3, h4, h5⟩ := h
  unfold w_X8_isAt
  rw [h1, h4]
  refine i_b (fun z => ?_) (fun z => ?_)
  · have pn : p < n := Classical.byContradiction fun w => z (nI_le (by omega) (by omega))
    obtain ⟨e1, e2⟩ := h3 p pn
    rw [nI_clamp (by omega), e1]
    refine ⟨vp_in_nI (by omega) (by decide), i_b (fun a => ⟨vp_in_nI (by omega) (by decide), ?_⟩) (fun a => ?_)⟩
    · have a1 := (sgn_ge e2 hl).mp a
      refine i_b (fun b => ?_) (fun b => ?_)
      · rw [bI_t ⟨pn, a1.2, (sgn_le hh a1.1).mp b⟩] at hq; exact hq
      · rw [bI_f (fun w => b ((sgn_le hh a1.1).mpr w.2.2))] at hq; exact hq
    · rw [bI_f (fun w => a ((sgn_ge e2 hl).mpr ⟨by omega, w.2.1⟩))] at hq; exact hq
  · have pn : ¬ p < n := fun w => z (nI_ge w (by omega))
    rw [bI_f (fun w => pn w.1)] at hq; exact hq
theorem tkA_le {y : Nat → Nat} {n p : Nat} (h : p ≤ n) : p ≤ tkA y n p ∧ tkA y n p ≤ n := sc_le (p := isBl y) (n := n) (n - p) p (by omega)
theorem tkA_id {y : Nat → Nat} {n p : Nat} (h : p ≤ n) : tkA y n (tkA y n p) = tkA y n p := by
  have h1 := tkA_le (y := y) h
  by_cases z : tkA y n p < n
  · exact sc_no (sc_stop (p := isBl y) (n := n) (n - p) p (by omega) z)
  · exact sc_end (by omega)
theorem s8_blanks {M : sk_M} {Q : sk_M → Prop} {y : Nat → Nat} {n p : Nat} (h : RT M y n p) (hq : ∀ M', rtF M M' → RT M' y n (tkA y n p) → M'.1 140 17 = nI (tkA y n p) → Q M') : w_X8_blanks M Q := by
  unfold w_X8_blanks
  have n4 := h.2.1
  have pn := h.2.2.2.2
  obtain ⟨a1, a2⟩ := tkA_le (y := y) pn
  have all := sc_all (p := isBl y) (n := n) (n - p) p (by omega)
  refine lp_inv (fun i s => rtF M s ∧ RT s y n (p + i)) (tkA y n p - p) (Nat.lt_of_le_of_lt (Nat.le_trans (Nat.sub_le _ _) (Nat.le_trans a2 n4)) (by decide)) ⟨rtF.refl, h⟩ (fun i hi s c hI hc => ?_) (fun s c hI => ?_)
  · obtain ⟨i1, i2⟩ := hI
    unfold w_X8_blanks_L0
    have bl : isBl y (p + i) := all (p + i) (by omega) (by show p + i < tkA y n p; omega)
    unfold isBl at bl
    refine s8_isAt (lo := 32) (hi := 32) i2 (by decide) (by decide) ?_
    rw [bI_t ⟨by omega, by omega, by omega⟩]
    refine i_t (by decide) (sLet_i ?_)
    rw [i2.2.2.2.1, nI_1]
    exact hc _ ⟨i1.trans rtF.p, i2.mv (by omega)⟩
  · obtain ⟨i1, i2⟩ := hI
    rw [show p + (tkA y n p - p) = tkA y n p by omega] at i2
    unfold w_X8_blanks_L0
    refine s8_isAt (lo := 32) (hi := 32) i2 (by decide) (by decide) ?_
    have no : ¬ (tkA y n p < n ∧ 32 ≤ y (tkA y n p) ∧ y (tkA y n p) ≤ 32) := fun z => sc_stop (p := isBl y) (n := n) (n - p) p (by omega) z.1 (show y (tkA y n p) = 32 by omega)
    rw [bI_f no]
    refine i_f (by decide) (sLet_i ?_)
    rw [i2.2.2.2.1]
    exact hq _ (i1.trans rtF.b) i2.bg (by rw [rd_si, if_pos ⟨rfl, rfl⟩])
/-- the end of the letters there -/
noncomputable def lE (y : Nat → Nat) (n p : Nat) : Nat := sc (isLe y) n (tkA y n p)
theorem lE_le {y : Nat → Nat} {n p : Nat} (h : p ≤ n) : tkA y n p ≤ lE y n p ∧ lE y n p ≤ n := by
  have := tkA_le (y := y) h
  exact sc_le (p := isLe y) (n := n) (n - tkA y n p) (tkA y n p) (by omega)
theorem s8_letters {M : sk_M} {Q : sk_M → Prop} {y : Nat → Nat} {n p : Nat} (h : RT M y n p) (hq : ∀ M', rtF M M' → RT M' y n (lE y n p) → M'.1 140 17 = nI (tkA y n p) → Q M') : w_X8_letters M Q := by
  unfold w_X8_letters
  refine s8_blanks h (fun M1 f1 r1 b1 => ?_)
  have n4 := h.2.1
  have pn := h.2.2.2.2
  obtain ⟨a1, a2⟩ := tkA_le (y := y) pn
  obtain ⟨a3, a4⟩ := lE_le (y := y) pn
  have all := sc_all (p := isLe y) (n := n) (n - tkA y n p) (tkA y n p) (by omega)
  refine lp_inv (fun i s => rtF M s ∧ RT s y n (tkA y n p + i) ∧ s.1 140 17 = nI (tkA y n p)) (lE y n p - tkA y n p) (Nat.lt_of_le_of_lt (Nat.le_trans (Nat.sub_le _ _) (Nat.le_trans a4 n4)) (by decide)) ⟨f1, r1, b1⟩ (fun i hi s c hI hc => ?_) (fun s c hI => ?_)
  · obtain ⟨i1, i2, i3⟩ := hI
    unfold w_X8_letters_L4
    have le : isLe y (tkA y n p + i) := all (tkA y n p + i) (by omega) (by show tkA y n p + i < lE y n p; omega)
    refine s8_isAt (lo := 97) (hi := 122) i2 (by decide) (by decide) ?_
    rw [bI_t ⟨by omega, le.1, le.2⟩]
    refine i_t (by decide) (sLet_i ?_)
    rw [i2.2.2.2.1, nI_1]
    exact hc _ ⟨i1.trans rtF.p, i2.mv (by omega), by rw [rd_si, if_neg (by omega)]; exact i3⟩
  · obtain ⟨i1, i2, i3⟩ := hI
    rw [show tkA y n p + (lE y n p - tkA y n p) = lE y n p by omega] at i2
    unfold w_X8_letters_L4
    refine s8_isAt (lo := 97) (hi := 122) i2 (by decide) (by decide) ?_
    have no : ¬ (lE y n p < n ∧ 97 ≤ y (lE y n p) ∧ y (lE y n p) ≤ 122) := fun z => sc_stop (p := isLe y) (n := n) (n - tkA y n p) (tkA y n p) (by omega) z.1 ⟨z.2.1, z.2.2⟩
    rw [bI_f no]
    refine i_f (by decide) ?_
    exact hq s i1 i2 i3
theorem lE_wd {y : Nat → Nat} {n p : Nat} (h : p ≤ n) : (tkK y n p = 1 ↔ tkA y n p < lE y n p) ∧ (tkK y n p = 1 → tkE y n p = lE y n p) := by
  obtain ⟨a3, a4⟩ := lE_le (y := y) h
  by_cases z0 : n ≤ tkA y n p
  · obtain ⟨e1, e2⟩ := tk0 z0
    rw [e1]
    exact ⟨⟨fun z => absurd z (by decide), fun z => by omega⟩, fun z => absurd z (by decide)⟩
  · by_cases z1 : isLe y (tkA y n p)
    · obtain ⟨e1, e2⟩ := tk1 z0 z1
      have : lE y n p = sc (isLe y) n (tkA y n p + 1) := sc_go (by omega) z1
      have h2 := sc_le (p := isLe y) (n := n) (n - (tkA y n p + 1)) (tkA y n p + 1) (by omega)
      exact ⟨⟨fun _ => by omega, fun _ => e1⟩, fun _ => e2⟩
    · have e : lE y n p = tkA y n p := sc_no z1
      have ne : tkK y n p ≠ 1 := by
        by_cases z2 : isDi y (tkA y n p)
        · rw [(tk2 z0 z1 z2).1]; decide
        · rw [(tk3 z0 z1 z2).1]; decide
      exact ⟨⟨fun z => absurd z ne, fun z => by omega⟩, fun z => absurd z ne⟩
theorem wd_ok : ∀ j, j < 20 → 0 < wdL j ∧ wdL j < 10 ∧ ∀ k, k < wdL j → wdN j k < 128 := by decide +kernel
theorem s8_isWord {M : sk_M} {Q : Int32 → Prop} {y : Nat → Nat} {n p j : Nat} (hj : j < 20) (h : RT M y n (lE y n p)) (hb : M.1 140 17 = nI (tkA y n p)) (hp : p ≤ n) (hq : Q (bI (isWd y n p j))) : w_X8_isWord j M Q := by
  obtain ⟨w1, w2, w3⟩ := wd_ok j hj
  obtain ⟨h1, h2, h3, h4, h5⟩ := h
  obtain ⟨a3, a4⟩ := lE_le (y := y) hp
  obtain ⟨l1, l2⟩ := lE_wd (y := y) hp
  unfold w_X8_isWord
  rw [h4, hb, pk_sub a3]
  refine sLet_i ?_
  refine lp_inx (fun k s => s.2 = nI k ∧ ((s.1 = 1 ∧ lE y n p - tkA y n p = wdL j ∧ ∀ q, q < k → y (tkA y n p + q) = wdN j q) ∨ (s.1 = 0 ∧ ¬ isWd y n p j))) (wdL j) (Nat.lt_trans w2 (by decide)) ⟨rfl, ?_⟩ (fun k hk s c hI hc => ?_)
  · by_cases z : lE y n p - tkA y n p = wdL j
    · exact Or.inl ⟨if_pos (by rw [z]), z, fun q hq => absurd hq (by omega)⟩
    · refine Or.inr ⟨if_neg (fun w => z ((nI_eq (by omega) (by omega)).mp w)), fun w => z ?_⟩
      rw [← l2 w.1]; exact w.2.1
  · obtain ⟨s1, s2⟩ := s
    obtain ⟨rfl, hI⟩ := hI
    dsimp only at hI
    unfold w_X8_isWord_L24
    dsimp only
    rcases hI with ⟨rfl, i1, i2⟩ | ⟨rfl, i1⟩
    · by_cases z : k < wdL j
      · refine i_t ⟨by decide, nI_ge z (by omega)⟩ ?_
        rw [hb, nI_add, nI_clamp (by omega), nI_clamp (by omega), (h3 _ (show tkA y n p + k < n by omega)).1, nI_1]
        refine ⟨vp_in_nI (by omega) (by decide), vp_in_nI z (by omega), i_b (fun w => ?_) (fun w => ?_)⟩
        · have w4 := (sgn_eq (h3 _ (show tkA y n p + k < n by omega)).2 (w3 k z)).mp w
          refine hc _ z ⟨rfl, Or.inl ⟨rfl, i1, fun q hq => ?_⟩⟩
          by_cases v : q = k
          · rw [v]; exact w4
          · exact i2 q (by omega)
        · refine hc _ z ⟨rfl, Or.inr ⟨rfl, fun v => w ?_⟩⟩
          exact (sgn_eq (h3 _ (show tkA y n p + k < n by omega)).2 (w3 k z)).mpr (v.2.2 k z)
      · have e : k = wdL j := by omega
        subst e
        refine i_f (fun w => w.2 (Int32.le_refl _)) ⟨Or.inr rfl, ?_⟩
        have k1 : tkK y n p = 1 := l1.mpr (by omega)
        rw [bI_t ⟨k1, by rw [l2 k1]; exact i1, i2⟩] at hq
        exact hq
    · refine i_f (fun w => w.1 rfl) ⟨Or.inl rfl, ?_⟩
      rw [bI_f i1] at hq
      exact hq
/-- the reference stands at the thing from i on -/
def RI (M : sk_M) (y : Nat → Nat) (n i : Nat) : Prop := ∃ p, RT M y n p ∧ tkA y n p = tkA y n i ∧ i ≤ n
theorem tk_sm {y : Nat → Nat} {n p i : Nat} (h : tkA y n p = tkA y n i) : tkK y n p = tkK y n i ∧ tkE y n p = tkE y n i ∧ lE y n p = lE y n i := by
  unfold tkK tkE lE
  rw [h]
  exact ⟨rfl, rfl, rfl⟩
theorem wd_sm {y : Nat → Nat} {n p i j : Nat} (h : tkA y n p = tkA y n i) : isWd y n p j ↔ isWd y n i j := by
  obtain ⟨a, b, _⟩ := tk_sm h
  unfold isWd
  rw [h, a, b]
theorem nu_sm {y : Nat → Nat} {n p i : Nat} (h : tkA y n p = tkA y n i) : (isNu y n p ↔ isNu y n i) ∧ nuV y n p = nuV y n i ∧ (isFg y n p ↔ isFg y n i) ∧ fgV y n p = fgV y n i := by
  obtain ⟨a, b, _⟩ := tk_sm h
  unfold isNu nuV isFg fgV
  rw [h, a, b]
  exact ⟨Iff.rfl, rfl, Iff.rfl, rfl⟩
theorem RI.cg {M M' : sk_M} {y : Nat → Nat} {n i : Nat} (h : RI M y n i) (h1 : M'.1 151 = M.1 151) (h2 : M'.1 140 16 = M.1 140 16) (h3 : M'.1 140 15 = M.1 140 15) : RI M' y n i := by
  obtain ⟨p, a, b⟩ := h
  exact ⟨p, a.cg h1 h2 h3, b⟩
/-- after letters: the words can be asked -/
def RW (M : sk_M) (y : Nat → Nat) (n i : Nat) : Prop := i ≤ n ∧ RT M y n (lE y n i) ∧ M.1 140 17 = nI (tkA y n i)
theorem r8_letters {M : sk_M} {Q : sk_M → Prop} {y : Nat → Nat} {n i : Nat} (h : RI M y n i) (hq : ∀ M', rtF M M' → RW M' y n i → Q M') : w_X8_letters M Q := by
  obtain ⟨p, r, e, hi⟩ := h
  refine s8_letters r (fun M' f r' b' => hq M' f ⟨hi, ?_, ?_⟩)
  · rw [← (tk_sm e).2.2]; exact r'
  · rw [← e]; exact b'
theorem r8_isWord {M : sk_M} {Q : Int32 → Prop} {y : Nat → Nat} {n i j : Nat} (hj : j < 20) (h : RW M y n i) (hq : Q (bI (isWd y n i j))) : w_X8_isWord j M Q := s8_isWord hj h.2.1 h.2.2 h.1 hq
theorem RI.of {M : sk_M} {y : Nat → Nat} {n p : Nat} (h : RT M y n p) : RI M y n p := ⟨p, h, rfl, h.2.2.2.2⟩
theorem RW.E {M : sk_M} {y : Nat → Nat} {n i j : Nat} (h : RW M y n i) (hw : isWd y n i j) : RI M y n (tkE y n i) := by
  have := (lE_wd (y := y) h.1).2 hw.1
  rw [this]
  exact RI.of h.2.1
theorem r8_passes {M : sk_M} {Q : Int32 → sk_M → Prop} {y : Nat → Nat} {n i j : Nat} (hj : j < 20) (h : RI M y n i) (h1 : isWd y n i j → ∀ M', rtF M M' → RI M' y n (tkE y n i) → M'.1 140 17 = nI (tkA y n i) → Q 1 M') (h0 : ¬ isWd y n i j → ∀ M', rtF M M' → RI M' y n i → M'.1 140 17 = nI (tkA y n i) → Q 0 M') : w_X8_passes j M Q := by
  have hi : i ≤ n := by
    obtain ⟨_, _, _, hi⟩ := h
    exact hi
  unfold w_X8_passes
  refine r8_letters h (fun M1 f1 w1 => r8_isWord hj w1 ?_)
  refine i_b (fun z => ?_) (fun z => sLet_i ?_)
  · have z1 := bI_n.mp z
    exact h1 z1 M1 f1 (w1.E z1) w1.2.2
  · have z1 : ¬ isWd y n i j := fun w => z (bI_n.mpr w)
    have al := tkA_le (y := y) hi
    rw [w1.2.2]
    refine h0 z1 _ (f1.trans rtF.p) ⟨tkA y n i, w1.2.1.mv al.2, tkA_id hi, hi⟩ (by rw [rd_si, if_neg (by omega)]; exact w1.2.2)
theorem r8_blanks {M : sk_M} {Q : sk_M → Prop} {y : Nat → Nat} {n i : Nat} (h : RI M y n i) (hq : ∀ M', rtF M M' → RT M' y n (tkA y n i) → M'.1 140 17 = nI (tkA y n i) → Q M') : w_X8_blanks M Q := by
  obtain ⟨p, r, e, hi⟩ := h
  refine s8_blanks r (fun M' f r' b' => ?_)
  rw [e] at r' b'
  exact hq M' f r' b'
/-- a sign: no blank, letter or digit -/
def sgn9 (c : Nat) : Prop := c < 128 ∧ c ≠ 32 ∧ ¬ (97 ≤ c ∧ c ≤ 122) ∧ ¬ (48 ≤ c ∧ c ≤ 57)
theorem sg_iff {y : Nat → Nat} {n i c : Nat} (hc : sgn9 c) : (tkA y n i < n ∧ c ≤ y (tkA y n i) ∧ y (tkA y n i) ≤ c) ↔ (tkK y n i = 3 ∧ y (tkA y n i) = c) := by
  obtain ⟨c1, c2, c3, c4⟩ := hc
  constructor
  · rintro ⟨a, b, d⟩
    have e : y (tkA y n i) = c := by omega
    refine ⟨(tk3 (by omega) ?_ ?_).1, e⟩
    · unfold isLe; rw [e]; exact c3
    · unfold isDi; rw [e]; exact c4
  · rintro ⟨a, b⟩
    refine ⟨?_, by omega, by omega⟩
    refine Classical.byContradiction fun z => ?_
    rw [(tk0 (by omega)).1] at a
    exact absurd a (by decide)
theorem r8_sign {M : sk_M} {Q : Int32 → sk_M → Prop} {y : Nat → Nat} {n i c : Nat} (hc : sgn9 c) (h : RI M y n i) (h1 : (tkK y n i = 3 ∧ y (tkA y n i) = c) → ∀ M', rtF M M' → RI M' y n (tkE y n i) → M'.1 140 17 = nI (tkA y n i) → Q 1 M') (h0 : ¬ (tkK y n i = 3 ∧ y (tkA y n i) = c) → ∀ M', rtF M M' → RI M' y n i → M'.1 140 17 = nI (tkA y n i) → Q 0 M') : w_X8_sign (nI c) M Q := by
  have hi : i ≤ n := by
    obtain ⟨_, _, _, hi⟩ := h
    exact hi
  unfold w_X8_sign
  refine r8_blanks h (fun M1 f1 r1 b1 => ?_)
  refine s8_isAt (lo := c) (hi := c) r1 hc.1 hc.1 ?_
  rw [bI_cg (sg_iff hc)]
  refine i_b (fun z => ?_) (fun z => sLet_i ?_)
  · exact h0 (bI_z.mp z) M1 f1 ⟨_, r1, tkA_id hi, hi⟩ b1
  · have z1 := bI_n.mp z
    have ee := (tk_le (y := y) hi).2.2.2.2.2 z1.1
    have el := (tk_le (y := y) hi).2.2.1
    rw [r1.2.2.2.1, nI_1, ← ee]
    exact h1 z1 _ (f1.trans rtF.p) (RI.of (r1.mv el)) (by rw [rd_si, if_neg (by omega)]; exact b1)
/-- the end of the digits there -/
noncomputable def dE (y : Nat → Nat) (n p : Nat) : Nat := sc (isDi y) n (tkA y n p)
theorem dE_le {y : Nat → Nat} {n p : Nat} (h : p ≤ n) : tkA y n p ≤ dE y n p ∧ dE y n p ≤ n := by
  have := tkA_le (y := y) h
  exact sc_le (p := isDi y) (n := n) (n - tkA y n p) (tkA y n p) (by omega)
theorem dE_di {y : Nat → Nat} {n p : Nat} (h : p ≤ n) : (tkK y n p = 2 ↔ tkA y n p < dE y n p) ∧ (tkK y n p = 2 → tkE y n p = dE y n p) := by
  obtain ⟨a3, a4⟩ := dE_le (y := y) h
  by_cases z0 : n ≤ tkA y n p
  · obtain ⟨e1, e2⟩ := tk0 z0
    rw [e1]
    exact ⟨⟨fun z => absurd z (by decide), fun z => by omega⟩, fun z => absurd z (by decide)⟩
  · by_cases z2 : isDi y (tkA y n p)
    · have z1 : ¬ isLe y (tkA y n p) := fun w => by unfold isLe at w; unfold isDi at z2; omega
      obtain ⟨e1, e2⟩ := tk2 z0 z1 z2
      have : dE y n p = sc (isDi y) n (tkA y n p + 1) := sc_go (by omega) z2
      have h2 := sc_le (p := isDi y) (n := n) (n - (tkA y n p + 1)) (tkA y n p + 1) (by omega)
      exact ⟨⟨fun _ => by omega, fun _ => e1⟩, fun _ => e2⟩
    · have e : dE y n p = tkA y n p := sc_no z2
      have ne : tkK y n p ≠ 2 := by
        by_cases z1 : isLe y (tkA y n p)
        · rw [(tk1 z0 z1).1]; decide
        · rw [(tk3 z0 z1 z2).1]; decide
      exact ⟨⟨fun z => absurd z ne, fun z => by omega⟩, fun z => absurd z ne⟩
