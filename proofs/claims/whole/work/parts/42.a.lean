/-! a day of changes, of the reference -/
theorem m15 : ∀ i, i < 32 → ¬ i < 15 → (32767 : Int32).toBitVec.getLsbD i = false := by decide +kernel
theorem sh_eq (x : Int32) : us32 x 16 &&& 32767 = (x >>> ((16 : Int32) &&& 31)) &&& 32767 := by
  have a : (us32 x 16).toBitVec = x.toBitVec >>> 16 := rfl
  have b : (x >>> ((16 : Int32) &&& 31)).toBitVec = x.toBitVec.sshiftRight 16 := by
    rw [Int32.toBitVec_shiftRight]
    rfl
  refine Int32.toBitVec_inj.mp ?_
  rw [Int32.toBitVec_and, Int32.toBitVec_and, a, b]
  refine BitVec.eq_of_getLsbD_eq (fun i hi => ?_)
  rw [BitVec.getLsbD_and, BitVec.getLsbD_and, BitVec.getLsbD_ushiftRight, BitVec.getLsbD_sshiftRight]
  by_cases z : i < 15
  · rw [if_pos (by omega), decide_eq_false (by omega), Bool.not_false, Bool.true_and]
  · rw [m15 i hi z, Bool.and_false, Bool.and_false]
theorem drw_N (s : Int32) : ∃ d, d < 32768 ∧ drw s = nI d := by
  unfold drw
  generalize us32 (nxt s) 16 = y
  obtain ⟨n, hn, e⟩ : ∃ n, n < 2 ^ 32 ∧ y = nI n := ⟨y.toBitVec.toNat, y.toBitVec.isLt, by
    refine Int32.toBitVec_inj.mp ?_
    refine BitVec.eq_of_toNat_eq ?_
    unfold nI
    simp⟩
  refine ⟨n &&& 32767, Nat.lt_of_le_of_lt Nat.and_le_right (by decide), ?_⟩
  rw [e, show (32767 : Int32) = nI 32767 from rfl, nI_and]
theorem jr_216 (s : Int32) : ∃ c, c < 216 ∧ jr (drw s) 216 = nI c := by
  obtain ⟨d, hd, e⟩ := drw_N s
  refine ⟨d % 216, Nat.mod_lt _ (by decide), ?_⟩
  rw [e]
  exact rmN (a := d) (d := 216) (by omega) (by decide) (by decide)
theorem s8_draw {M : sk_M} {Q : Int32 → sk_M → Prop} {a s : Int32} (ha : ¬ a = 0) (es : M.1 141 9 = s) (h : Q (jr (drw s) a) (sk_si M 141 9 (nxt s))) : w_X8_draw a M Q := by
  unfold w_X8_draw
  rw [es]
  refine sLet_i ⟨ha, ?_⟩
  rw [rd_si, if_pos ⟨rfl, rfl⟩, ← sh_eq]
  exact h
/-- the reference in the midst of its days: the seed, the codes, the changes and the vaults told anew in k -/
def dyI (M0 M : sk_M) (nv : Nat) (k : LK) (b : Nat) (dd : Int32) : Prop :=
  ((∀ c, c ≠ 141 → M.1 c = M0.1 c) ∧ (∀ c, c ≠ 146 → M.2 c = M0.2 c)) ∧ (M.1 141 9 = k.1 ∧ M.1 141 7 = M0.1 141 7 + k.2.2.1 ∧ M.1 141 5 = dd) ∧ (k.2.2.2 = nI b ∧ b < 64) ∧
  (∀ v, v < nv → M.1 141 (10 + 4 * v) = k.2.1 v ∧ M.1 141 (13 + 4 * v) = if b.testBit v = true then 0 else M0.1 141 (13 + 4 * v)) ∧
  (∀ j, j ≠ 5 → j ≠ 7 → j ≠ 9 → (∀ v, v < nv → j ≠ 10 + 4 * v ∧ j ≠ 13 + 4 * v) → M.1 141 j = M0.1 141 j) ∧
  (∀ i, i < 144 → M.2 146 i = if b.testBit (i / 4 % 6) = true then kMask (i % 4) else M0.2 146 i) ∧ ∀ i, 144 ≤ i → M.2 146 i = M0.2 146 i
theorem dyI.seed {M0 M : sk_M} {nv b : Nat} {k : LK} {dd s : Int32} (h : dyI M0 M nv k b dd) : dyI M0 (sk_si M 141 9 s) nv (s, k.2.1, k.2.2.1, k.2.2.2) b dd := by
  obtain ⟨⟨a1, a2⟩, ⟨b1, b2, b3⟩, c1, c2, c3, c4⟩ := h
  refine ⟨⟨fun c hc => by rw [si_c hc]; exact a1 c hc, fun c hc => a2 c hc⟩, ⟨by rw [rd_si, if_pos ⟨rfl, rfl⟩], by rw [rd_si, if_neg (by omega)]; exact b2, by rw [rd_si, if_neg (by omega)]; exact b3⟩, c1, fun v hv => ?_, fun j h5 h7 h9 hj => ?_, c4⟩
  · rw [rd_si, if_neg (by omega), rd_si, if_neg (by omega)]
    exact c2 v hv
  · rw [rd_si, if_neg (fun z => h9 z.2)]
    exact c3 j h5 h7 h9 hj
theorem dyI.anew {M0 M : sk_M} {nv b u : Nat} {k : LK} {dd c : Int32} (hn : nv ≤ 6) (hu : u < nv) (h : dyI M0 M nv k b dd) : dyI M0 (sk_si (knA (sk_si (sk_si M 141 (10 + 4 * u) c) 141 (13 + 4 * u) 0) 146 u 6) 141 7 (M.1 141 7 + 1)) nv (k.1, upd k.2.1 u c, k.2.2.1 + 1, k.2.2.2 ||| (1 <<< (nI u &&& 31))) (b ||| 2 ^ u) dd := by
  obtain ⟨⟨a1, a2⟩, ⟨b1, b2, b3⟩, ⟨c0, c1⟩, c2, c3, c4, c5⟩ := h
  generalize hN : knA (sk_si (sk_si M 141 (10 + 4 * u) c) 141 (13 + 4 * u) 0) 146 u 6 = N
  have g1 : N.1 = (sk_si (sk_si M 141 (10 + 4 * u) c) 141 (13 + 4 * u) 0).1 := by rw [← hN, knA_1]
  have g2 : ∀ c, c ≠ 146 → N.2 c = M.2 c := fun c hc => by rw [← hN, knA_ne hc 6]; rfl
  have g3 : ∀ i, N.2 146 i = if i / 4 % 6 = u ∧ i / 24 < 6 then kMask (i % 4) else M.2 146 i := fun i => by rw [← hN, knA_at (by omega) 6]; rfl
  have g4 : ∀ j, j ≠ 10 + 4 * u → j ≠ 13 + 4 * u → N.1 141 j = M.1 141 j := fun j h1 h2 => by rw [g1, rd_si, if_neg (fun z => h2 z.2), rd_si, if_neg (fun z => h1 z.2)]
  have g5 : N.1 141 (10 + 4 * u) = c := by rw [g1, rd_si, if_neg (by omega), rd_si, if_pos ⟨rfl, rfl⟩]
  have g6 : N.1 141 (13 + 4 * u) = 0 := by rw [g1, rd_si, if_pos ⟨rfl, rfl⟩]
  refine ⟨⟨fun c hc => by rw [si_c hc, g1, si_c hc, si_c hc]; exact a1 c hc, fun c hc => by rw [si_2, g2 c hc]; exact a2 c hc⟩, ⟨?_, ?_, ?_⟩, ⟨?_, ?_⟩, fun v hv => ?_, fun j h5 h7 h9 hj => ?_, fun i hi => ?_, fun i hi => by rw [si_2, g3 i, if_neg (by omega)]; exact c5 i hi⟩
  · rw [rd_si, if_neg (by omega), g4 9 (by omega) (by omega)]; exact b1
  · rw [rd_si, if_pos ⟨rfl, rfl⟩, b2, Int32.add_assoc]
  · rw [rd_si, if_neg (by omega), g4 5 (by omega) (by omega)]; exact b3
  · dsimp only
    rw [c0]
    exact set_N (by omega)
  · exact set_lt (k := 6) c1 (by omega)
  · rw [rd_si, if_neg (by omega), rd_si, if_neg (by omega)]
    by_cases z : v = u
    · subst z
      rw [g5, g6, if_pos (by rw [set_tb, decide_eq_true rfl, Bool.or_true])]
      exact ⟨by dsimp only; rw [upd, if_pos rfl], rfl⟩
    · rw [g4 _ (by omega) (by omega), g4 _ (by omega) (by omega)]
      obtain ⟨d1, d2⟩ := c2 v hv
      refine ⟨by dsimp only; rw [upd, if_neg z]; exact d1, ?_⟩
      rw [d2, set_tb, decide_eq_false z, Bool.or_false]
  · have := hj u hu
    rw [rd_si, if_neg (fun z => h7 z.2), g4 j this.1 this.2]
    exact c3 j h5 h7 h9 hj
  · rw [si_2, g3 i, c4 i hi, set_tb]
    by_cases z : i / 4 % 6 = u
    · rw [if_pos ⟨z, by omega⟩, decide_eq_true z, Bool.or_true, if_pos rfl]
    · rw [if_neg (fun y => z y.1), decide_eq_false z, Bool.or_false]
theorem s8_oneDay {M0 M : sk_M} {Q : sk_M → Prop} {nv b : Nat} {k : LK} {dd ch : Int32} (hn : nv ≤ 6) (e0 : M0.1 141 0 = nI nv) (e6 : M0.1 141 6 = ch) (hI : dyI M0 M nv k b dd)
    (h : ∀ M' b', dyI M0 M' nv (lkD ch k nv) b' (mnI 9999 (dd + 1)) → Q M') : w_X8_oneDay M Q := by
  unfold w_X8_oneDay
  have nj : ∀ j, j < 10 → ∀ v, v < nv → j ≠ 10 + 4 * v ∧ j ≠ 13 + 4 * v := fun j hj v hv => by omega
  refine lp_inv (fun i s => s.1 = nI i ∧ ∃ b', dyI M0 s.2 nv (lkD ch k i) b' dd) nv (Nat.lt_of_le_of_lt hn (by decide)) ⟨rfl, b, hI⟩ (fun i hi s c hJ hc => ?_) (fun s c hJ => ?_)
  · obtain ⟨s1, sM⟩ := s
    obtain ⟨rfl, b', hJ⟩ := hJ
    unfold w_X8_oneDay_L2
    have v0 : f_X8_vaults sM = nI nv := by
      have : f_X8_vaults sM = sM.1 141 0 := rfl
      rw [this, hJ.2.2.2.2.1 0 (by omega) (by omega) (by omega) (nj 0 (by omega))]
      exact e0
    dsimp only
    rw [v0]
    have hc2 : ∀ s' : Int32 × sk_M, (s'.1 = nI (i + 1) ∧ ∃ b', dyI M0 s'.2 nv (lkV ch (lkD ch k i) i) b' dd) → c s' := hc
    have hJ2 : dyI M0 sM nv (lkD ch k i) b' dd := hJ
    clear hc hJ
    generalize lkD ch k i = q at hc2 hJ2
    obtain ⟨q1, q2, q3, q4⟩ := q
    refine i_t (nI_ge hi (by omega)) (s8_draw (s := q1) (by decide) hJ2.2.1.1 ?_)
    have h1 : dyI M0 (sk_si sM 141 9 (nxt q1)) nv (nxt q1, q2, q3, q4) b' dd := hJ2.seed
    have e61 : (sk_si sM 141 9 (nxt q1)).1 141 6 = ch := by
      rw [h1.2.2.2.2.1 6 (by omega) (by omega) (by omega) (nj 6 (by omega))]
      exact e6
    rw [e61, nI_1]
    by_cases z : ch ≤ jr (drw q1) 100
    · refine i_f (fun y => y z) (hc2 _ ⟨rfl, b', ?_⟩)
      unfold lkV
      rw [if_pos z]
      exact h1
    · have h2 : dyI M0 (sk_si (sk_si sM 141 9 (nxt q1)) 141 9 (nxt (nxt q1))) nv (nxt (nxt q1), q2, q3, q4) b' dd := h1.seed
      have h3 := h2.anew (c := jr (drw (nxt q1)) 216) hn hi
      refine i_t z (s8_draw (s := nxt q1) (by decide) h1.2.1.1 (s8_anew (by omega) ?_))
      generalize hN : sk_si (knA (sk_si (sk_si (sk_si (sk_si sM 141 9 (nxt q1)) 141 9 (nxt (nxt q1))) 141 (10 + 4 * i) (jr (drw (nxt q1)) 216)) 141 (13 + 4 * i) 0) 146 i 6) 141 7 ((sk_si (sk_si sM 141 9 (nxt q1)) 141 9 (nxt (nxt q1))).1 141 7 + 1) = N at h3 ⊢
      refine hc2 _ ⟨rfl, b' ||| 2 ^ i, ?_⟩
      unfold lkV
      rw [if_neg z]
      exact h3
  · obtain ⟨s1, sM⟩ := s
    obtain ⟨rfl, b', hJ⟩ := hJ
    unfold w_X8_oneDay_L2
    have v0 : f_X8_vaults sM = nI nv := by
      have : f_X8_vaults sM = sM.1 141 0 := rfl
      rw [this, hJ.2.2.2.2.1 0 (by omega) (by omega) (by omega) (nj 0 (by omega))]
      exact e0
    dsimp only
    rw [v0]
    refine i_f (fun z => z (Int32.le_refl _)) (sLet_i (h _ b' ?_))
    obtain ⟨⟨a1, a2⟩, ⟨b1, b2, b3⟩, c1, c2, c3, c4⟩ := hJ
    refine ⟨⟨fun c hc => by rw [si_c hc]; exact a1 c hc, fun c hc => a2 c hc⟩, ⟨by rw [rd_si, if_neg (by omega)]; exact b1, by rw [rd_si, if_neg (by omega)]; exact b2, by rw [rd_si, if_pos ⟨rfl, rfl⟩, b3]⟩, c1, fun v hv => ?_, fun j h5 h7 h9 hj => ?_, c4⟩
    · rw [rd_si, if_neg (by omega), rd_si, if_neg (by omega)]
      exact c2 v hv
    · rw [rd_si, if_neg (fun z => h5 z.2)]
      exact c3 j h5 h7 h9 hj
