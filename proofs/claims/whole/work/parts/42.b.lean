/-! days of changes -/
theorem s8_many {M0 : sk_M} {K : sk_M → Prop} {B : ((Int32 × sk_M) → Prop) → (Int32 × sk_M) → Prop} {nv n dy : Nat} {ch : Int32} {k : LK} (hB : ∀ c s, (if ¬ (nI n ≤ s.1) then w_X8_oneDay s.2 (fun M => c (s.1 + (1 : Int32), M)) else K s.2) → B c s) (hn : nv ≤ 6) (h60 : n ≤ 60) (hd : dy ≤ 9999) (e0 : M0.1 141 0 = nI nv) (e6 : M0.1 141 6 = ch) {M : sk_M} {b : Nat} (hI : dyI M0 M nv k b (nI dy))
    (h : ∀ M' b', dyI M0 M' nv (lkN ch nv k n) b' (nI (min 9999 (dy + n))) → K M') : lp B sk_F ((0 : Int32), M) := by
  refine lp_inv (fun i s => s.1 = nI i ∧ ∃ b', dyI M0 s.2 nv (lkN ch nv k i) b' (nI (min 9999 (dy + i)))) n (Nat.lt_of_le_of_lt h60 (by decide)) ⟨rfl, b, ?_⟩ (fun i hi s c hJ hc => hB c s ?_) (fun s c hJ => hB c s ?_)
  · rw [Nat.add_zero, Nat.min_eq_right hd]
    exact hI
  · obtain ⟨s1, sM⟩ := s
    obtain ⟨rfl, b', hJ⟩ := hJ
    refine i_t (nI_ge hi (by omega)) (s8_oneDay hn e0 e6 hJ (fun M' b2 h2 => ?_))
    dsimp only
    rw [nI_1]
    refine hc _ ⟨rfl, b2, ?_⟩
    have e : mnI (9999 : Int32) (nI (min 9999 (dy + i)) + 1) = nI (min 9999 (dy + (i + 1))) := by
      rw [nI_1]
      refine (mnN (a := 9999) (by decide) (by omega)).trans ?_
      congr 1
      omega
    rw [e] at h2
    exact h2
  · obtain ⟨s1, sM⟩ := s
    obtain ⟨rfl, b', hJ⟩ := hJ
    exact i_f (fun z => z (Int32.le_refl _)) (h sM b' hJ)
/-- what the days have told: the vaults told anew have a code, the others theirs -/
def toldI (cd : Nat → Int32) (k : LK) (b : Nat) : Prop := k.2.2.2 = nI b ∧ b < 64 ∧ ∀ v, v < 6 → (b.testBit v = true → ∃ c, c < 216 ∧ k.2.1 v = nI c) ∧ (¬ b.testBit v = true → k.2.1 v = cd v)
theorem toldI.step {cd : Nat → Int32} {k : LK} {b u : Nat} {ch : Int32} (hu : u < 6) (h : toldI cd k b) : ∃ b', toldI cd (lkV ch k u) b' ∧ ∀ v, v ≠ u → b'.testBit v = b.testBit v := by
  obtain ⟨h1, h2, h3⟩ := h
  unfold lkV
  by_cases z : ch ≤ jr (drw k.1) 100
  · rw [if_pos z]
    exact ⟨b, ⟨h1, h2, h3⟩, fun _ _ => rfl⟩
  · rw [if_neg z]
    refine ⟨b ||| 2 ^ u, ⟨by rw [h1]; exact set_N (by omega), set_lt (k := 6) h2 hu, fun v hv => ?_⟩, fun v hv => by rw [set_tb, decide_eq_false hv, Bool.or_false]⟩
    dsimp only
    by_cases y : v = u
    · subst y
      rw [set_tb, decide_eq_true rfl, Bool.or_true, upd, if_pos rfl]
      exact ⟨fun _ => jr_216 _, fun w => absurd rfl w⟩
    · rw [set_tb, decide_eq_false y, Bool.or_false, upd, if_neg y]
      exact h3 v hv
theorem toldI.day {cd : Nat → Int32} {k : LK} {b : Nat} {ch : Int32} (h : toldI cd k b) : ∀ n, n ≤ 6 → ∃ b', toldI cd (lkD ch k n) b' ∧ ∀ v, n ≤ v → b'.testBit v = b.testBit v
  | 0, _ => ⟨b, h, fun _ _ => rfl⟩
  | n + 1, hn => by
    obtain ⟨b1, g1, g2⟩ := toldI.day h n (by omega)
    obtain ⟨b2, g3, g4⟩ := g1.step (ch := ch) (u := n) (by omega)
    exact ⟨b2, g3, fun v hv => by rw [g4 v (by omega), g2 v (by omega)]⟩
theorem toldI.days {cd : Nat → Int32} {k : LK} {b nv : Nat} {ch : Int32} (hn : nv ≤ 6) (h : toldI cd k b) : ∀ n, ∃ b', toldI cd (lkN ch nv k n) b' ∧ ∀ v, nv ≤ v → b'.testBit v = b.testBit v
  | 0 => ⟨b, h, fun _ _ => rfl⟩
  | n + 1 => by
    obtain ⟨b1, g1, g2⟩ := toldI.days hn h n
    obtain ⟨b2, g3, g4⟩ := g1.day (ch := ch) nv hn
    exact ⟨b2, g3, fun v hv => by rw [g4 v hv, g2 v hv]⟩
/-- days on both sides -/
theorem Rel.days {F F' : Nat → Nat → Int32} {KF KF' : Nat → Int64} {W W' : Nat → Int32} {K K' : Nat → Int64} {nv np nc tx dy ch lg nr op : Nat} (h : Rel F KF W K nv np nc tx dy ch lg nr op) {b dy' op' : Nat} (hdy : dy' ≤ 9999)
    (cd : ∀ v, v < nv → ∃ c, c < 216 ∧ F' 1 v = nI c ∧ W' (10 + 4 * v) = nI c) (sm : ∀ v, v < nv → ¬ b.testBit v = true → W' (10 + 4 * v) = W (10 + 4 * v))
    (f0 : ∀ k, k < 12 → k ≠ 5 → k ≠ 7 → k ≠ 8 → k ≠ 9 → F' 0 k = F 0 k) (f5 : F' 0 5 = nI dy') (w5 : W' 5 = nI dy') (f7 : F' 0 7 = W' 9) (f8 : F' 0 8 = W' 7) (f9 : F' 0 9 = nI op') (hop : op' < 2 ^ nv) (tb : ∀ v, v < nv → W' (13 + 4 * v) = bI (op'.testBit v = true))
    (fj : ∀ c, 2 ≤ c → c ≤ 8 → F' c = F c) (fw : ∀ k, k < 562 → k ≠ 5 → k ≠ 7 → k ≠ 9 → (∀ v, v < nv → k ≠ 10 + 4 * v ∧ k ≠ 13 + 4 * v) → W' k = W k)
    (hk : ∀ i, i < 144 → KF' i = if (i / 4 % 6 < nv ∧ b.testBit (i / 4 % 6) = true) ∧ i / 24 < np then kMask (i % 4) else KF i) (hK' : ∀ i, i < 144 → K' i = if b.testBit (i / 4 % 6) = true then kMask (i % 4) else K i) : Rel F' KF' W' K' nv np nc tx dy' ch lg nr op' := by
  obtain ⟨hN, hF, hW, hS, hV, hC, hL, hK, hT⟩ := h
  obtain ⟨n1, n2, n3, n4, n5, n6, n7, n8, n9⟩ := id hN
  refine ⟨⟨n1, n2, n3, n4, hdy, n6, n7, n8, hop⟩, ?_, ?_, ⟨f7, f8⟩, ?_, ?_, ?_, ⟨fun p hp v hv k hk9 => ?_, fun p hp v hv hpv k hk9 => ?_⟩, fun p hp v hv => ?_⟩
  · unfold RlF
    rw [f0 0 (by omega) (by omega) (by omega) (by omega) (by omega), f0 1 (by omega) (by omega) (by omega) (by omega) (by omega), f0 2 (by omega) (by omega) (by omega) (by omega) (by omega), f0 3 (by omega) (by omega) (by omega) (by omega) (by omega), f0 6 (by omega) (by omega) (by omega) (by omega) (by omega), f0 10 (by omega) (by omega) (by omega) (by omega) (by omega), f0 11 (by omega) (by omega) (by omega) (by omega) (by omega)]
    obtain ⟨g1, g2, g3, g4, g5, g6, g7, g8, -⟩ := hF
    exact ⟨g1, g2, g3, g4, f5, g6, g7, g8, f9⟩
  · unfold RlW
    rw [fw 0 (by omega) (by omega) (by omega) (by omega) (fun v hv => by omega), fw 1 (by omega) (by omega) (by omega) (by omega) (fun v hv => by omega), fw 2 (by omega) (by omega) (by omega) (by omega) (fun v hv => by omega), fw 3 (by omega) (by omega) (by omega) (by omega) (fun v hv => by omega), fw 6 (by omega) (by omega) (by omega) (by omega) (fun v hv => by omega), fw 8 (by omega) (by omega) (by omega) (by omega) (fun v hv => by omega)]
    obtain ⟨g1, g2, g3, g4, g5, g6, g7⟩ := hW
    exact ⟨g1, g2, g3, g4, w5, g6, g7⟩
  · intro v hv
    obtain ⟨v1, v2, v3, v4⟩ := hV v hv
    refine ⟨cd v hv, ?_, ?_, tb v hv⟩
    · rw [fj 2 (by omega) (by omega), fw _ (by omega) (by omega) (by omega) (by omega) (fun w hw => by omega)]
      exact v2
    · rw [fj 3 (by omega) (by omega), fw _ (by omega) (by omega) (by omega) (by omega) (fun w hw => by omega)]
      exact v3
  · intro x hx
    rw [fj 4 (by omega) (by omega), fj 5 (by omega) (by omega), fj 6 (by omega) (by omega), fw (34 + 4 * x) (by omega) (by omega) (by omega) (by omega) (fun w hw => by omega), fw (35 + 4 * x) (by omega) (by omega) (by omega) (by omega) (fun w hw => by omega), fw (36 + 4 * x) (by omega) (by omega) (by omega) (by omega) (fun w hw => by omega), fw (37 + 4 * x) (by omega) (by omega) (by omega) (by omega) (fun w hw => by omega)]
    exact hC x hx
  · intro a ha k hk9
    rw [fj 8 (by omega) (by omega), fw _ (by omega) (by omega) (by omega) (by omega) (fun w hw => by omega)]
    exact hL a ha k hk9
  · rw [hk _ (by omega), hK' _ (by omega), show (4 * (6 * p + v) + k) / 4 % 6 = v by omega, show (4 * (6 * p + v) + k) / 24 = p by omega]
    by_cases g : b.testBit v = true
    · rw [if_pos ⟨⟨hv, g⟩, hp⟩, if_pos g]
    · rw [if_neg (fun z => g z.1.2), if_neg g]
      exact hK.1 p hp v hv k hk9
  · rw [hk _ (by omega), if_neg (by omega)]
    exact hK.2 p hp v hv hpv k hk9
  · obtain ⟨c, hc, -, e⟩ := cd v hv
    by_cases g : b.testBit v = true
    · rw [e, nI_clamp (by omega)]
      constructor
      · rw [hK' _ (by omega), if_pos (by rw [show (4 * (6 * p + v) + 3) / 4 % 6 = v by omega]; exact g), show (4 * (6 * p + v) + 3) % 4 = 3 by omega]
        exact msk_full
      · rw [kbit_iff]
        unfold kb
        rw [hK' _ (by omega), if_pos (by rw [show (4 * (6 * p + v) + c / 64) / 4 % 6 = v by omega]; exact g), show (4 * (6 * p + v) + c / 64) % 4 = c / 64 by omega]
        exact kMask_bit hc
    · have h9 := hT p hp v hv
      have es := sm v hv g
      rw [← es, e, nI_clamp (by omega)] at h9
      rw [e, nI_clamp (by omega)]
      constructor
      · rw [hK' _ (by omega), if_neg (by rw [show (4 * (6 * p + v) + 3) / 4 % 6 = v by omega]; exact g)]
        exact h9.1
      · unfold kbit
        rw [hK' _ (by omega), if_neg (by rw [show (4 * (6 * p + v) + c / 64) / 4 % 6 = v by omega]; exact g)]
        exact h9.2
