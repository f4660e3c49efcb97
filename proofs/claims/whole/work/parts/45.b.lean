/-! breaks -/
theorem ib_m1 : ∀ i, i < 32 → ib (-1) i = true := by decide +kernel
theorem ib_xor (x y : Int32) (i : Nat) : ib (x ^^^ y) i = (ib x i ^^ ib y i) := by unfold ib; rw [Int32.toBitVec_xor, BitVec.getLsbD_xor]
theorem ib_0 (i : Nat) : ib 0 i = false := BitVec.getLsbD_zero
theorem ib_e {x y : Int32} (h : ∀ i, i < 32 → ib x i = ib y i) : x = y := Int32.toBitVec_inj.mp (BitVec.eq_of_getLsbD_eq (fun i hi => h i hi))
theorem sub_0 {P : Nat → Prop} {n X : Nat} (hn : n ≤ 12) : (nI (bitsN P n) &&& (nI X ^^^ (-1 : Int32)) = 0) ↔ ∀ d, d < n → P d → X.testBit d = true := by
  constructor
  · intro h d hd hP
    have h1 : ib (nI (bitsN P n) &&& (nI X ^^^ (-1 : Int32))) d = ib 0 d := by rw [h]
    rw [ib_0, ib_and, ib_xor, ib_m1 d (by omega), ib_N (by omega), ib_N (by omega), (bitsN_tb n).mpr ⟨hd, hP⟩] at h1
    cases z : X.testBit d
    · rw [z] at h1; exact absurd h1 (by decide)
    · rfl
  · intro h
    refine ib_e (fun i hi => ?_)
    rw [ib_0, ib_and, ib_xor, ib_m1 i hi, ib_N hi, ib_N hi]
    cases z : (bitsN P n).testBit i
    · rfl
    · have := (bitsN_tb n).mp z
      rw [h i this.1 this.2]
      rfl
theorem bI_inj {p q : Prop} : bI p = bI q ↔ (p ↔ q) := by
  constructor
  · intro h
    constructor
    · intro a; rw [bI_t a] at h; exact bI_1.mp h.symm
    · intro a; rw [bI_t a] at h; exact bI_1.mp h
  · exact bI_cg
theorem fw_N {X Y : Nat} (hX : X < 4096) (hY : Y < 4096) : f_X7_fewerOf (nI X) (nI Y) = nI (if wt X 12 < wt Y 12 then X else Y) := by
  obtain ⟨a1, a2, a3⟩ := bc_12 X hX
  obtain ⟨b1, b2, b3⟩ := bc_12 Y hY
  unfold f_X7_fewerOf sLeT
  rw [a1, b1, a2, b2]
  have ti := pk_sub_toInt (a := pcN X 12) (b := pcN Y 12) (by omega) (by omega)
  have e1 : (nI (pcN X 12) - nI (pcN Y 12) < 0) ↔ pcN X 12 < pcN Y 12 := by
    rw [Int32.lt_iff_toInt_lt, ti, Int32.toInt_zero]
    omega
  have e2 : (nI (pcN X 12) - nI (pcN Y 12) = 0) ↔ pcN X 12 = pcN Y 12 := by
    constructor
    · intro z
      rw [z, Int32.toInt_zero] at ti
      omega
    · intro z
      rw [z, Int32.sub_self]
  have e3 : (¬ (nI Y ≤ nI X)) ↔ X < Y := by
    rw [nI_leI (by omega) (by omega)]
    omega
  show (if ((nI (pcN X 12) - nI (pcN Y 12) < 0) ∨ ((nI (pcN X 12) - nI (pcN Y 12) = 0) ∧ (¬ (nI Y ≤ nI X)))) then nI X else nI Y) = _
  by_cases z : 4096 * pcN X 12 + X < 4096 * pcN Y 12 + Y
  · rw [if_pos z, if_pos (by rw [e1, e2, e3]; omega)]
  · rw [if_neg z, if_neg (by rw [e1, e2, e3]; omega)]
noncomputable def fwN (g : Nat → Int32 × Int32) (o : Nat → Prop) (n c : Nat) : Nat := if wt (nq g o n c) 12 < wt (no9 g o n c) 12 then nq g o n c else no9 g o n c
theorem fwN_iff {g : Nat → Int32 × Int32} {o : Nat → Prop} {n e : Nat} (he : e < n) : (∃ c, c < n ∧ nq g o n c ≠ 0 ∧ (fwN g o n c).testBit e = true) ↔ brkS g o n e := by
  constructor
  · rintro ⟨c, hc, h1, h2⟩
    unfold fwN at h2
    by_cases z : wt (nq g o n c) 12 < wt (no9 g o n c) 12
    · rw [if_pos z] at h2
      have q := ((bitsN_tb n).mp h2).2
      obtain ⟨q1, q2⟩ := nq_of (n := n) q
      refine ⟨?_, ?_⟩
      · rw [q1]; exact bN_ne hc ⟨rfl, Iff.rfl⟩
      · rw [q1, q2]; omega
    · rw [if_neg z] at h2
      have q := ((bitsN_tb n).mp h2).2
      obtain ⟨q1, q2⟩ := nq_own (n := n) q
      refine ⟨by rw [q1]; exact h1, ?_⟩
      rw [q1, q2]; omega
  · rintro ⟨h1, h2⟩
    refine ⟨e, he, h1, ?_⟩
    unfold fwN
    rw [if_neg (by omega)]
    exact (bitsN_tb n).mpr ⟨he, rfl, Iff.rfl⟩
theorem s8_isPeace {M : sk_M} {Q : Int32 → Prop} {g : Nat → Int32 × Int32} {o : Nat → Prop} {n X : Nat} (hn : n ≤ 12) (hX : X < 2 ^ n) (e : M.1 141 2 = nI n) (hq : ∀ c, c < n → bitsP (qr8 (M.1 141) c) n = nI (nq g o n c)) (h : Q (bI (peace g o n X))) : w_X8_isPeace (nI X) M Q := by
  have x12 : X < 4096 := Nat.lt_of_lt_of_le hX (Nat.pow_le_pow_right (n := 2) (by decide) hn)
  unfold w_X8_isPeace
  refine lp_inx (fun i s => s.2 = nI i ∧ ((s.1 = 1 ∧ ∀ c, c < i → (X.testBit c = true ∨ ∀ d, d < n → grp g o c d → X.testBit d = true)) ∨ (s.1 = 0 ∧ ¬ peace g o n X))) n (Nat.lt_of_le_of_lt hn (by decide)) ⟨rfl, Or.inl ⟨rfl, fun c hc => absurd hc (by omega)⟩⟩ (fun i hi s c hI hc => ?_)
  obtain ⟨s1, s2⟩ := s
  obtain ⟨rfl, hI⟩ := hI
  dsimp only at hI
  unfold w_X8_isPeace_L4
  have ec : f_X8_contracts M = nI n := e
  rw [ec]
  dsimp only
  rcases hI with ⟨rfl, hI⟩ | ⟨rfl, hI⟩
  · by_cases q : i < n
    · refine i_t ⟨nI_ge q (by omega), by decide⟩ ?_
      rw [has_N, bI_cg (hasB_tb (by omega) (by omega)), nI_1]
      have yes : (X.testBit i = true ∨ ∀ d, d < n → grp g o i d → X.testBit d = true) → c ((1 : Int32), nI (i + 1)) := fun y => by
        refine hc _ q ⟨rfl, Or.inl ⟨rfl, fun x hx => ?_⟩⟩
        by_cases w : x = i
        · rw [w]; exact y
        · exact hI x (by omega)
      refine i_b (fun z => s8_quarrelsOf (nc := n) (by omega) e hn ?_) (fun z => yes (Or.inl (bI_n.mp z)))
      rw [hq i q]
      unfold nq
      refine i_b (fun y => yes (Or.inr ((sub_0 hn).mp y))) (fun y => ?_)
      refine hc _ q ⟨rfl, Or.inr ⟨rfl, fun w => y ((sub_0 hn).mpr ?_)⟩⟩
      exact (w i q).resolve_left (fun v => absurd v (bI_z.mp z))
    · have en : i = n := by omega
      subst en
      refine i_f (fun z => z.1 (Int32.le_refl _)) ⟨Or.inr rfl, ?_⟩
      rw [bI_t (show peace g o i X from hI)] at h
      exact h
  · refine i_f (fun z => z.2 rfl) ⟨Or.inl rfl, ?_⟩
    rw [bI_f hI] at h
    exact h
theorem s8_breaks {M : sk_M} {Q : Int32 → sk_M → Prop} {g : Nat → Int32 × Int32} {o : Nat → Prop} {nc : Nat} (n3 : nc ≤ 12) (e2 : M.1 141 2 = nI nc) (hq : ∀ c, c < nc → bitsP (qr8 (M.1 141) c) nc = nI (nq g o nc c)) (h : Q (nI (bitsN (brkS g o nc) nc)) (sk_si M 140 0 0)) : w_X8_breaks M Q := by
  obtain ⟨N, eN⟩ : ∃ N, N = 2 ^ nc := ⟨_, rfl⟩
  have pm : 1 ≤ N := by rw [eN]; exact Nat.one_le_two_pow
  have pm6 : N ≤ 4096 := by
    have p9 : 2 ^ nc ≤ 2 ^ 12 := Nat.pow_le_pow_right (n := 2) (by decide) n3
    rw [show 2 ^ 12 = 4096 from by decide, ← eN] at p9
    exact p9
  have b12 : bitsN (brkS g o nc) nc < N := by rw [eN]; exact bitsN_lt _ _
  unfold w_X8_breaks
  refine sLet_i ?_
  have ec : f_X8_contracts (sk_si M 140 0 0) = nI nc := e2
  rw [ec, all_N (by omega), ← eN]
  refine sLet_i ?_
  have st0 : nI (N - 1) = nI (N - 0) + (-1 : Int32) := by
    rw [← Int32.sub_eq_add_neg, show (1 : Int32) = nI 1 from rfl, pk_sub (by omega), Nat.sub_zero]
  have hF9 : N < sk_F := by unfold sk_F; omega
  refine lp_inv (σ := Int32 × Int32) (fun (i : Nat) (s : Int32 × Int32) => s.2 = nI (N - i) + (-1 : Int32) ∧ ∃ b, s.1 = nI b ∧ b < N ∧ peace g o nc b ∧ (N - i ≤ b ∨ b = N - 1) ∧ ∀ X, peace g o nc X → N - i ≤ X → X < N → wt b 12 ≤ wt X 12) (N) hF9 ?_ (fun i hi s c hI hc => ?_) (fun s c hI => ?_)
  · refine ⟨st0, N - 1, rfl, by omega, fun c hc => Or.inl ?_, Or.inr rfl, fun X _ h1 h2 => ?_⟩
    · rw [eN, Nat.testBit_two_pow_sub_one, decide_eq_true hc]
    · exact absurd h1 (by omega)
  · obtain ⟨s1, s2⟩ := s
    obtain ⟨es2, b, es1, hb, pb, lo, mn⟩ := hI
    dsimp only at es2 es1
    have es : nI (N - i) + (-1 : Int32) = nI (N - (i + 1)) := by
      rw [← Int32.sub_eq_add_neg, show (1 : Int32) = nI 1 from rfl, pk_sub (by omega), Nat.sub_sub]
    unfold w_X8_breaks_L16
    dsimp only
    rw [es2, es, es1]
    have hs : N - (i + 1) < N := by omega
    have lo' : N - (i + 1) ≤ b := by omega
    have more : ∀ X, N - (i + 1) ≤ X → X = N - (i + 1) ∨ N - i ≤ X := fun X hX => by omega
    generalize N - (i + 1) = s at hs lo' more hc ⊢
    obtain ⟨a1, a2, a3⟩ := bc_12 s (by omega)
    obtain ⟨c1, c2, c3⟩ := bc_12 b (by omega)
    refine i_t (fun z => ?_) ?_
    · rw [Int32.lt_iff_toInt_lt, nI_toInt (by omega), Int32.toInt_zero] at z
      omega
    rw [a1, c1]
    refine i_b (fun z => ?_) (fun z => ?_)
    · have z1 : pcN s 12 ≤ pcN b 12 := Classical.byContradiction fun y => z (nI_lt (by omega) (by omega))
      refine s8_isPeace (g := g) (o := o) n3 (by rw [← eN]; exact hs) e2 hq ?_
      refine i_b (fun y => ?_) (fun y => ?_)
      · have ps := bI_n.mp y
        refine hc _ ⟨rfl, s, rfl, hs, ps, Or.inl (Nat.le_refl _), fun X hX h1 h2 => ?_⟩
        rcases more X h1 with w | w
        · rw [w]; exact Nat.le_refl _
        · have := mn X hX w h2
          rw [a2]
          rw [c2] at this
          omega
      · have ps : ¬ peace g o nc s := fun w => y (bI_n.mpr w)
        refine hc _ ⟨rfl, b, rfl, hb, pb, Or.inl lo', fun X hX h1 h2 => ?_⟩
        rcases more X h1 with w | w
        · exact absurd (by rw [← w]; exact hX) ps
        · exact mn X hX w h2
    · have z1 : pcN b 12 < pcN s 12 := (nI_ltI (by omega) (by omega)).mp (Classical.not_not.mp z)
      refine hc _ ⟨rfl, b, rfl, hb, pb, Or.inl lo', fun X hX h1 h2 => ?_⟩
      rcases more X h1 with w | w
      · rw [w, a2, c2]
        omega
      · exact mn X hX w h2
  · obtain ⟨s1, s2⟩ := s
    obtain ⟨es2, b, es1, hb, pb, lo, mn⟩ := hI
    dsimp only at es2 es1
    unfold w_X8_breaks_L16
    dsimp only
    rw [Nat.sub_self] at mn es2
    rw [es2, es1]
    refine i_f (fun z => z (by decide)) ?_
    have h1 := mn _ peace_B (Nat.zero_le _) b12
    have h2 := peace_min n3 pb
    have h3 := wt_inj (X := bitsN (brkS g o nc) nc) (Y := b) (by omega) (by omega) (by omega)
    rw [h3] at h
    exact h
theorem st_breaks {M : sk_M} (h : Inv M) : StN Inv (fun Q => w_X7_breaks M (fun r => Q r M)) w_X8_breaks := by
  unfold StN w_X7_breaks
  obtain ⟨nv, np, nc, tx, dy, ch, lg, nr, op, hR⟩ := h.1.1
  obtain ⟨hN, hF, hW, hS, hV, hC, hL, hK, hT⟩ := id hR
  have n3 := hN.2.2.1
  let g : Nat → Int32 × Int32 := fun c => (M.1 141 (35 + 4 * c), M.1 141 (36 + 4 * c))
  let o : Nat → Prop := fun c => ¬ M.1 6 c = -1
  have q8 : ∀ c, c < nc → ∀ d, d < nc → (qr8 (M.1 141) c d ↔ grp g o c d) := fun c hc d hd => by
    have a4 := (hC c hc).2.2.2.1
    have b4 := (hC d hd).2.2.2.1
    unfold qr8 grp
    rw [a4, b4, bI_inj]
    show _ ↔ ((M.1 141 (35 + 4 * c), M.1 141 (36 + 4 * c)) = (M.1 141 (35 + 4 * d), M.1 141 (36 + 4 * d))) ∧ _
    rw [Prod.mk.injEq, and_assoc]
  have hq : ∀ c, c < nc → bitsP (qr8 (M.1 141) c) nc = nI (nq g o nc c) := fun c hc => by
    rw [bitsP_bN nc (by omega)]
    unfold nq
    rw [bitsN_cg nc (fun d hd => q8 c hc d hd)]
  have hq7 : ∀ c, c < nc → bitsP (qrl M 0 c) nc = nI (nq g o nc c) := fun c hc => by
    rw [bitsP_cg nc (fun d hd => hR.qr rfl hc hd), hq c hc]
  clear_value g o
  have run : w_X8_breaks M (fun b M2 => nI (bitsN (brkS g o nc) nc) = b ∧ Inv M2) := s8_breaks (g := g) (o := o) n3 hW.2.2.1 hq ⟨rfl, h.scR scR_th⟩
  -- the class
  have e0 : ((0 : Int32), (0 : Int32)) = (nI (bitsN (fun e => ∃ c, c < 0 ∧ nq g o nc c ≠ 0 ∧ (fwN g o nc c).testBit e = true) nc), nI 0) := by
    have : bitsN (fun e => ∃ c, c < 0 ∧ nq g o nc c ≠ 0 ∧ (fwN g o nc c).testBit e = true) nc = 0 := by
      apply Nat.eq_of_testBit_eq
      intro j
      rw [Nat.zero_testBit]
      cases z : (bitsN (fun e => ∃ c, c < 0 ∧ nq g o nc c ≠ 0 ∧ (fwN g o nc c).testBit e = true) nc).testBit j
      · rfl
      · obtain ⟨_, c, hc, _⟩ := (bitsN_tb nc).mp z
        exact absurd hc (by omega)
    rw [this]
    rfl
  rw [e0]
  refine lp_to (fun i => (nI (bitsN (fun e => ∃ c, c < i ∧ nq g o nc c ≠ 0 ∧ (fwN g o nc c).testBit e = true) nc), nI i)) nc (Nat.lt_of_le_of_lt n3 (by decide)) (fun i hi c hc => ?_) (fun c => ?_)
  · unfold w_X7_breaks_L4
    dsimp only
    rw [hF.2.2.1]
    refine i_t (nI_ge hi (by omega)) (c5_quarrelsOf (nc := nc) (by omega) hF.2.2.1 n3 ?_)
    have x1 : nq g o nc i < 4096 := lt_12 n3
    have x2 : no9 g o nc i < 4096 := lt_12 n3
    rw [hq7 i hi, nI_1]
    refine i_b (fun z => ?_) (fun z => ?_)
    · have z1 : nq g o nc i ≠ 0 := fun y => z (by rw [y]; rfl)
      obtain ⟨t1, t2, t3⟩ := ntz_12 _ x1 z1
      rw [t1]
      have t4 := (bitsN_tb nc).mp t3
      refine c5_quarrelsOf (nc := nc) (by omega) hF.2.2.1 n3 ?_
      rw [hq7 _ t4.1, (nq_of (n := nc) t4.2).1, fw_N x1 x2, nI_or]
      refine sLet_i ?_
      have ea : bitsN (fun e => ∃ c, c < i ∧ nq g o nc c ≠ 0 ∧ (fwN g o nc c).testBit e = true) nc ||| (if wt (nq g o nc i) 12 < wt (no9 g o nc i) 12 then nq g o nc i else no9 g o nc i) = bitsN (fun e => ∃ c, c < i + 1 ∧ nq g o nc c ≠ 0 ∧ (fwN g o nc c).testBit e = true) nc := by
        apply Nat.eq_of_testBit_eq
        intro j
        refine Bool.eq_iff_iff.mpr ?_
        rw [Nat.testBit_or, Bool.or_eq_true, bitsN_tb, bitsN_tb]
        have fl : ∀ j, (fwN g o nc i).testBit j = true → j < nc := fun j hj => by
          unfold fwN at hj
          by_cases y : wt (nq g o nc i) 12 < wt (no9 g o nc i) 12
          · rw [if_pos y] at hj; exact ((bitsN_tb nc).mp hj).1
          · rw [if_neg y] at hj; exact ((bitsN_tb nc).mp hj).1
        constructor
        · rintro (⟨y1, x, y2, y3, y4⟩ | y)
          · exact ⟨y1, x, by omega, y3, y4⟩
          · exact ⟨fl j y, i, by omega, z1, y⟩
        · rintro ⟨y1, x, y2, y3, y4⟩
          by_cases w : x = i
          · rw [w] at y4; exact Or.inr y4
          · exact Or.inl ⟨y1, x, by omega, y3, y4⟩
      rw [ea]
      exact hc
    · have z1 : nq g o nc i = 0 := (nI_eq (b := 0) (by omega) (by decide)).mp (Classical.not_not.mp z)
      have ea : bitsN (fun e => ∃ c, c < i ∧ nq g o nc c ≠ 0 ∧ (fwN g o nc c).testBit e = true) nc = bitsN (fun e => ∃ c, c < i + 1 ∧ nq g o nc c ≠ 0 ∧ (fwN g o nc c).testBit e = true) nc := bitsN_cg nc (fun e _ => by
        constructor
        · rintro ⟨x, y2, y3⟩
          exact ⟨x, by omega, y3⟩
        · rintro ⟨x, y2, y3⟩
          by_cases w : x = i
          · rw [w] at y3; exact absurd z1 y3.1
          · exact ⟨x, by omega, y3⟩)
      rw [ea]
      exact hc
  · unfold w_X7_breaks_L4
    dsimp only
    rw [hF.2.2.1]
    refine i_f (nn (n := nc) (by omega)) ?_
    rw [bitsN_cg nc (fun e he => fwN_iff (g := g) (o := o) he)]
    exact run
