/-! feed -/
theorem i8_cg {x y : Int32} (h : ∀ i, i < 8 → ib x i = ib y i) : x.toInt8 = y.toInt8 := by
  apply Int8.toBitVec_inj.1
  apply BitVec.eq_of_getLsbD_eq
  intro i hi
  have h3 : i < 32 := by omega
  show (x.toBitVec.signExtend 8).getLsbD i = (y.toBitVec.signExtend 8).getLsbD i
  rw [BitVec.getLsbD_signExtend, BitVec.getLsbD_signExtend, if_pos h3, if_pos h3]
  have := h i hi
  unfold ib at this
  rw [this]
theorem s_u : ∀ n, n < 32 → (((nI n).toUInt32 &&& Int32.toUInt32 31).toBitVec % 32).toNat = n := by decide +kernel
theorem ib_us {x : Int32} {k : Nat} (hk : k < 32) (i : Nat) : ib (us32 x (nI k)) i = ib x (k + i) := by
  unfold us32
  show (x.toUInt32 >>> ((nI k).toUInt32 &&& Int32.toUInt32 31)).toBitVec.getLsbD i = x.toUInt32.toBitVec.getLsbD (k + i)
  rw [UInt32.toBitVec_shiftRight]
  show (x.toUInt32.toBitVec >>> (((nI k).toUInt32 &&& Int32.toUInt32 31).toBitVec % 32).toNat).getLsbD i = _
  rw [s_u k hk, BitVec.getLsbD_ushiftRight]
theorem ib_ss {x : Int32} {k i : Nat} (hk : k < 32) (hi : k + i < 32) : ib (x >>> (nI k &&& 31)) i = ib x (k + i) := by
  unfold ib
  rw [Int32.toBitVec_shiftRight]
  show (x.toBitVec.sshiftRight ((nI k &&& 31).toBitVec.smod 32).toNat).getLsbD i = _
  rw [i_l k hk, BitVec.getLsbD_sshiftRight]
  have : i < 32 := by omega
  simp [hi, this]
theorem ib_255 : ∀ i, i < 8 → ib 255 i = true := by decide +kernel
/-- the byte of an int on both sides -/
theorem byte2 (x : Int32) {k : Nat} (hk : k ≤ 24) : ∃ b, b < 256 ∧ us32 x (nI k) &&& 255 = nI b ∧ vp_nar .byte (x >>> (nI k &&& 31)).toInt8.toInt32 = sgn8 b := by
  obtain ⟨b, hb, e⟩ := pk_andE (us32 x (nI k)) (m := 255) 8 (by decide)
  refine ⟨b, hb, e, ?_⟩
  rw [pk_vb]
  unfold sgn8
  rw [← e]
  congr 1
  refine i8_cg (fun i hi => ?_)
  rw [ib_ss (by omega) (by omega), ib_and, ib_us (by omega), ib_255 i hi, Bool.and_true]
/-- n bytes on the tape, and m of the fed ints behind them -/
def fdB (M M' : sk_M) (av : Nat → Int32) (n m : Nat) : Prop := (∀ c, c ≠ 121 → c ≠ 122 → M'.1 c = M.1 c) ∧ M'.2 = M.2 ∧ (∀ k, k ≠ 1 → M'.1 121 k = M.1 121 k) ∧ M'.1 121 1 = nI (n + m) ∧ (∀ j, j < n → M'.1 122 j = M.1 122 j) ∧ ∀ i, i < m → M'.1 122 (n + i) = us32 (av (i / 4)) (nI (24 - 8 * (i % 4))) &&& 255
theorem fdB_s {M M' : sk_M} {av : Nat → Int32} {n m : Nat} (h : fdB M M' av n m) : fdB M (sk_si (sk_si M' 122 (n + m) (us32 (av (m / 4)) (nI (24 - 8 * (m % 4))) &&& 255)) 121 1 (nI (n + m + 1))) av n (m + 1) := by
  obtain ⟨h1, h2, h3, h4, h5, h6⟩ := h
  refine ⟨fun c q1 q2 => by rw [si_c q1, si_c q2, h1 c q1 q2], by rw [si_2, si_2, h2], fun k hk => by rw [rd_si, if_neg (by omega), si_c (by omega), h3 k hk], by rw [rd_si, if_pos ⟨rfl, rfl⟩, Nat.add_assoc], fun j hj => by rw [si_c (by omega), rd_si, if_neg (by omega), h5 j hj], fun i hi => ?_⟩
  rw [si_c (by omega), rd_si]
  by_cases q : i = m
  · subst q; rw [if_pos ⟨rfl, rfl⟩]
  · rw [if_neg (by omega)]
    exact h6 i (by omega)
theorem c6_put {M0 M : sk_M} {Q : sk_M → Prop} {av : Nat → Int32} {n q : Nat} (hI : fdB M0 M av n (4 * q)) (hn : n + 4 * q + 4 ≤ 400) (h : ∀ M', fdB M0 M' av n (4 * (q + 1)) → Q M') : w_X6_put (av q) M Q := by
  unfold w_X6_put
  refine lp_inv (fun j s => s.1 = nI (32 - 8 * j) - 8 ∧ fdB M0 s.2 av n (4 * q + j)) 4 (by decide) ⟨rfl, hI⟩ (fun j hj s c hs hc => ?_) (fun s c hs => ?_)
  · obtain ⟨ss, sM⟩ := s
    obtain ⟨rfl, hs⟩ := hs
    unfold w_X6_put_L3
    have e : nI (32 - 8 * j) - 8 = nI (24 - 8 * j) := by
      rw [show 24 - 8 * j = 32 - 8 * j - 8 by omega]
      exact pk_sub (a := 32 - 8 * j) (b := 8) (by omega)
    have e2 : nI (24 - 8 * j) + (-8 : Int32) = nI (32 - 8 * (j + 1)) - 8 := by
      rw [show 32 - 8 * (j + 1) = 24 - 8 * j by omega]
      exact (Int32.sub_eq_add_neg _ _).symm
    have e4 := hs.2.2.2.1
    rw [e]
    refine i_t ⟨nI_pos (by omega), ?_⟩ ?_
    · show ¬ ((400 : Int32) ≤ sM.1 121 1)
      rw [e4]
      exact nI_ge (b := 400) (by omega) (by decide)
    · show vp_in (sM.1 121 1) 400 ∧ _
      rw [e4]
      refine ⟨vp_in_nI (by omega) (by decide), sLet_i (sLet_i ?_)⟩
      rw [nI_clamp (by omega)]
      have e5 : (sk_si sM 122 (n + (4 * q + j)) (us32 (av q) (nI (24 - 8 * j)) &&& 255)).1 121 1 + 1 = nI (n + (4 * q + j) + 1) := by
        rw [si_c (by omega), e4, nI_1]
      show c (nI (24 - 8 * j) + (-8 : Int32), sk_si (sk_si sM 122 (n + (4 * q + j)) (us32 (av q) (nI (24 - 8 * j)) &&& 255)) 121 1 ((sk_si sM 122 (n + (4 * q + j)) (us32 (av q) (nI (24 - 8 * j)) &&& 255)).1 121 1 + 1))
      rw [e5, e2]
      refine hc _ ⟨rfl, ?_⟩
      have t := fdB_s hs
      rw [show (4 * q + j) / 4 = q by omega, show (4 * q + j) % 4 = j by omega] at t
      exact t
  · obtain ⟨ss, sM⟩ := s
    obtain ⟨rfl, hs⟩ := hs
    unfold w_X6_put_L3
    exact i_f (fun z => z.1 (show (nI (32 - 8 * 4) - 8 : Int32) < 0 by decide)) (h _ hs)
theorem st_feed {M : sk_M} (h : Inv M) (a b c d e : Int32) : StN Inv (w_X7_feed a b c d e M) (w_X8_feed a b c d e) := by
  unfold StN w_X7_feed
  obtain ⟨n, hn, e1, e2, hb⟩ := h.2.1.1
  have eR : f_X6_hasRoom (20 : Int32) M = if n + 20 ≤ 400 then 1 else 0 := by
    unfold f_X6_hasRoom
    rw [e1, show nI n + (20 : Int32) = nI (n + 20) from nI_add n 20]
    by_cases q : n + 20 ≤ 400
    · have z : ¬ ((400 : Int32) < nI (n + 20)) := nI_nlt (a := 400) (b := n + 20) q (by decide)
      rw [if_pos z, if_pos q]
    · rw [if_neg (fun z => z (nI_lt (a := 400) (b := n + 20) (by omega) (by omega))), if_neg q]
  rw [eR]
  have e14 : (sk_si M 140 0 0).1 140 14 = nI n := by rw [rd_si, if_neg (by omega)]; exact e2
  by_cases q : n + 20 ≤ 400
  · rw [if_pos q]
    refine i_f (by decide) ?_
    let av : Nat → Int32 := fun i => if i = 0 then a else if i = 1 then b else if i = 2 then c else if i = 3 then d else e
    have f0 : fdB M M av n (4 * 0) := ⟨fun _ _ _ => rfl, rfl, fun _ _ => rfl, e1, fun _ _ => rfl, fun i hi => absurd hi (by omega)⟩
    refine c6_put (av := av) (q := 0) f0 (by omega) (fun M1 f1 => c6_put (av := av) (q := 1) f1 (by omega) (fun M2 f2 => c6_put (av := av) (q := 2) f2 (by omega) (fun M3 f3 => c6_put (av := av) (q := 3) f3 (by omega) (fun M4 f4 => c6_put (av := av) (q := 4) f4 (by omega) (fun M5 f5 => ?_)))))
    obtain ⟨g1, g2, g3, g4, g5, g6⟩ := f5
    unfold w_X8_feed
    refine sLet_i (i_f ?_ (sLet_i (sLet_i (sLet_i (sLet_i (sLet_i ?_))))))
    · show ¬ ¬ ((sk_si M5 140 0 0).1 140 14 + 20 ≤ 400)
      rw [rd_si, if_neg (by omega), g1 140 (by omega) (by omega), e2, show nI n + (20 : Int32) = nI (n + 20) from nI_add n 20]
      exact fun z => z (nI_le (b := 400) q (by decide))
    generalize hM6 : sk_si (sk_si (sk_si (sk_si (sk_si (sk_si M5 140 0 0) 152 0 a) 152 1 b) 152 2 c) 152 3 d) 152 4 e = M6
    have p1 : ∀ x, x ≠ 140 → x ≠ 152 → M6.1 x = M5.1 x := fun x h1 h2 => by rw [← hM6, si_c h2, si_c h2, si_c h2, si_c h2, si_c h2, si_c h1]
    have p2 : M6.2 = M5.2 := by rw [← hM6]; rfl
    have p3 : ∀ k, k ≠ 0 → M6.1 140 k = M5.1 140 k := fun k hk => by rw [← hM6, si_c (by omega), si_c (by omega), si_c (by omega), si_c (by omega), si_c (by omega), rd_si, if_neg (by omega)]
    have p4 : ∀ i, i < 5 → M6.1 152 i = av i := fun i hi => by
      rw [← hM6, rd_si, rd_si, rd_si, rd_si, rd_si]
      show _ = (if i = 0 then a else if i = 1 then b else if i = 2 then c else if i = 3 then d else e)
      have : i = 0 ∨ i = 1 ∨ i = 2 ∨ i = 3 ∨ i = 4 := by omega
      rcases this with rfl | rfl | rfl | rfl | rfl <;> simp
    have p14 : M6.1 140 14 = nI n := by rw [p3 14 (by omega), g1 140 (by omega) (by omega)]; exact e2
    refine lp_inv (fun k s => s.1 = nI k ∧ (∀ x, x ≠ 151 → s.2.1 x = M6.1 x) ∧ s.2.2 = M6.2 ∧ (∀ j, j < n → s.2.1 151 j = M6.1 151 j) ∧ ∀ i, i < k → s.2.1 151 (n + i) = vp_nar .byte (av (i / 4) >>> (nI (24 - 8 * (i % 4)) &&& 31)).toInt8.toInt32) 20 (by decide) ⟨rfl, fun _ _ => rfl, rfl, fun _ _ => rfl, fun i hi => absurd hi (by omega)⟩ (fun k hk s cc hI hc => ?_) (fun s cc hI => ?_)
    · obtain ⟨ss, sM⟩ := s
      obtain ⟨rfl, i1, i2, i3, i4⟩ := hI
      unfold w_X8_feed_L60
      have ek : nI k / (4 : Int32) = nI (k / 4) := pk_div (a := k) (d := 4) (by omega) (by decide) (by decide)
      have er : rmI (nI k) (4 : Int32) = nI (k % 4) := rmN (a := k) (d := 4) (by omega) (by decide) (by decide)
      have es : (24 : Int32) - ((8 : Int32) * nI (k % 4)) = nI (24 - 8 * (k % 4)) := by
        rw [show (8 : Int32) * nI (k % 4) = nI (8 * (k % 4)) from pk_mul 8 (k % 4)]
        exact pk_sub (a := 24) (b := 8 * (k % 4)) (by omega)
      have et : sM.1 140 14 = nI n := by rw [i1 140 (by omega)]; exact p14
      have e5 : sM.1 152 (k / 4) = av (k / 4) := by rw [i1 152 (by omega), p4 _ (by omega)]
      refine i_t (nI_ge hk (by decide)) ?_
      show vp_in (nI k / (4 : Int32)) 5 ∧ vp_in (sM.1 140 14 + nI k) 400 ∧ sLet (sk_si sM 151 (sM.1 140 14 + nI k).toNatClampNeg (vp_nar .byte ((sM.1 152 (nI k / (4 : Int32)).toNatClampNeg) >>> (((24 : Int32) - ((8 : Int32) * (rmI (nI k) (4 : Int32)))) &&& 31)).toInt8.toInt32)) fun M99 => cc (nI k + (1 : Int32), M99)
      rw [ek, er, es, et, nI_add, nI_clamp (by omega), nI_clamp (by omega), e5, nI_1]
      refine ⟨vp_in_nI (by omega) (by decide), vp_in_nI (by omega) (by decide), sLet_i ?_⟩
      refine hc _ ⟨rfl, fun x hx => by rw [si_c hx, i1 x hx], by rw [si_2, i2], fun j hj => by rw [rd_si, if_neg (by omega), i3 j hj], fun i hi => ?_⟩
      rw [rd_si]
      by_cases z : i = k
      · subst z; rw [if_pos ⟨rfl, rfl⟩]
      · rw [if_neg (by omega)]
        exact i4 i (by omega)
    · obtain ⟨ss, sM⟩ := s
      obtain ⟨rfl, i1, i2, i3, i4⟩ := hI
      unfold w_X8_feed_L60
      refine i_f (nn (n := 20) (by decide)) (sLet_i ?_)
      have et : sM.1 140 14 + (20 : Int32) = nI (n + 20) := by rw [i1 140 (by omega), p14]; exact nI_add n 20
      show M5.1 121 1 = (sk_si sM 140 14 (sM.1 140 14 + 20)).1 140 14 ∧ Inv (sk_si sM 140 14 (sM.1 140 14 + 20))
      rw [et]
      refine ⟨?_, h.tap (fun x h1 h2 h3 h4 h5 => ?_) ?_ ?_ ?_ ⟨⟨n + 20, q, ?_, ?_, fun j hj => ?_⟩, ?_⟩⟩
      · rw [rd_si, if_pos ⟨rfl, rfl⟩]
        exact g4
      · rw [si_c h3, i1 x h4, p1 x h3 h5, g1 x h1 h2]
      · rw [rd_si, if_neg (by omega), i1 140 (by omega), p3 11 (by omega), g1 140 (by omega) (by omega)]
      · rw [rd_si, if_neg (by omega), i1 140 (by omega), p3 12 (by omega), g1 140 (by omega) (by omega)]
      · rw [si_2, i2, p2, g2]
      · rw [si_c (by omega), i1 121 (by omega), p1 121 (by omega) (by omega)]
        exact g4
      · rw [rd_si, if_pos ⟨rfl, rfl⟩]
      · rw [si_c (by omega), si_c (by omega), i1 122 (by omega), p1 122 (by omega) (by omega)]
        by_cases z : j < n
        · rw [g5 j z, i3 j z, p1 151 (by omega) (by omega), g1 151 (by omega) (by omega)]
          exact hb j z
        · have ej : j = n + (j - n) := by omega
          obtain ⟨by_, hy, y1, y2⟩ := byte2 (av ((j - n) / 4)) (k := 24 - 8 * ((j - n) % 4)) (by omega)
          refine ⟨by_, hy, ?_, ?_⟩
          · rw [ej, g6 (j - n) (by omega)]
            exact y1
          · rw [ej, i4 (j - n) (by omega)]
            exact y2
      · rw [si_c (by omega), i1 121 (by omega), p1 121 (by omega) (by omega), g3 5 (by omega), rd_si, if_neg (by omega), i1 140 (by omega), p3 19 (by omega), g1 140 (by omega) (by omega)]
        exact h.2.1.2
  · rw [if_neg q]
    refine i_t rfl ?_
    unfold w_X8_feed
    refine sLet_i (i_t ?_ ⟨rfl, h.scR scR_th⟩)
    rw [e14, show nI n + (20 : Int32) = nI (n + 20) from nI_add n 20]
    exact nI_ge (a := 400) (b := n + 20) (by omega) (by omega)
