/-! tell, change, guard -/
theorem lf_at {M : sk_M} {c t f i : Nat} (hd : t + 4 ≤ f ∨ f + 4 ≤ t) : ∀ n, n ≤ 4 → (lf M c t f n).2 c i = if t ≤ i ∧ i < t + n then M.2 c i &&& M.2 c (f + (i - t)) else M.2 c i
  | 0, _ => by rw [if_neg (by omega)]; rfl
  | n + 1, hn => by
    rw [lf, rd_sl]
    by_cases h : i = t + n
    · subst h
      rw [if_pos ⟨rfl, rfl⟩, if_pos (by omega), lf_at hd n (by omega), lf_at hd n (by omega), if_neg (by omega), if_neg (by omega), Nat.add_sub_cancel_left]
    · rw [if_neg (by omega), lf_at hd n (by omega)]
      by_cases h2 : t ≤ i ∧ i < t + n
      · rw [if_pos h2, if_pos (by omega)]
      · rw [if_neg h2, if_neg (by omega)]
theorem lf_ne {M : sk_M} {c t f c' : Nat} (h : c' ≠ c) : ∀ n, (lf M c t f n).2 c' = M.2 c'
  | 0 => rfl
  | n + 1 => by rw [lf, sl_c h, lf_ne h n]
theorem and_msk {x y : Int64} (h : x &&& 16777215 = x) : (x &&& y) &&& 16777215 = x &&& y := by
  apply lb_ext
  intro i hi
  have := congrArg (fun z => lb z i) h
  simp only [lb_and] at this ⊢
  rw [Bool.and_assoc, Bool.and_comm (lb y i), ← Bool.and_assoc, this]
/-- what one knows is told to another on both sides -/
theorem Rel.tell {F : Nat → Nat → Int32} {KF KF' : Nat → Int64} {W : Nat → Int32} {K K' : Nat → Int64} {nv np nc tx dy ch lg nr op : Nat} (h : Rel F KF W K nv np nc tx dy ch lg nr op) {q r u : Nat} (hq : q < np) (hr : r < np) (hu : u < nv)
    (h1 : ∀ i, i < 144 → KF' i = if 4 * (6 * q + u) ≤ i ∧ i < 4 * (6 * q + u) + 4 then KF i &&& KF (4 * (6 * r + u) + (i - 4 * (6 * q + u))) else KF i) (h2 : ∀ i, i < 144 → K' i = if 4 * (6 * q + u) ≤ i ∧ i < 4 * (6 * q + u) + 4 then K i &&& K (4 * (6 * r + u) + (i - 4 * (6 * q + u))) else K i) : Rel F KF' W K' nv np nc tx dy ch lg nr op := by
  obtain ⟨hN, hF, hW, hS, hV, hC, hL, hK, hT⟩ := h
  obtain ⟨n1, n2, n3, n4, n5, n6, n7, n8, n9⟩ := id hN
  refine ⟨hN, hF, hW, hS, hV, hC, hL, ⟨fun p hp v hv k hk => ?_, fun p hp v hv hpv k hk => ?_⟩, fun p hp v hv => ?_⟩
  · rw [h1 _ (by omega), h2 _ (by omega)]
    by_cases g : p = q ∧ v = u
    · obtain ⟨rfl, rfl⟩ := g
      rw [if_pos (by omega), if_pos (by omega), Nat.add_sub_cancel_left, hK.1 p hp v hv k hk, hK.1 r hr v hv k hk]
    · rw [if_neg (by omega), if_neg (by omega)]
      exact hK.1 p hp v hv k hk
  · rw [h1 _ (by omega), if_neg (by omega)]
    exact hK.2 p hp v hv hpv k hk
  · obtain ⟨c, hc, -, e⟩ := (hV v hv).1
    have h9 := hT p hp v hv
    rw [e, nI_clamp (by omega)] at h9 ⊢
    by_cases g : p = q ∧ v = u
    · obtain ⟨rfl, rfl⟩ := g
      have h8 := hT r hr v hv
      rw [e, nI_clamp (by omega)] at h8
      constructor
      · rw [h2 _ (by omega), if_pos (by omega), Nat.add_sub_cancel_left]
        exact and_msk h9.1
      · rw [kbit_iff] at h8 h9 ⊢
        unfold kb at h8 h9 ⊢
        rw [h2 _ (by omega), if_pos (by omega), Nat.add_sub_cancel_left, lb_and, h8.2, h9.2]
        rfl
    · constructor
      · rw [h2 _ (by omega), if_neg (by omega)]
        exact h9.1
      · unfold kbit
        rw [h2 _ (by omega), if_neg (by omega)]
        exact h9.2
theorem knA_at {M : sk_M} {c v i : Nat} (hv : v < 6) : ∀ n, (knA M c v n).2 c i = if i / 4 % 6 = v ∧ i / 24 < n then kMask (i % 4) else M.2 c i
  | 0 => by rw [if_neg (by omega)]; rfl
  | n + 1 => by
    rw [knA, fk_at 4, knA_at hv n]
    by_cases h : 4 * (6 * n + v) ≤ i ∧ i < 4 * (6 * n + v) + 4
    · rw [if_pos h, if_pos (by omega)]
      congr 1
      omega
    · rw [if_neg h]
      by_cases h2 : i / 4 % 6 = v ∧ i / 24 < n
      · rw [if_pos h2, if_pos (by omega)]
      · rw [if_neg h2, if_neg (by omega)]
theorem knA_ne {M : sk_M} {c v c' : Nat} (h : c' ≠ c) : ∀ n, (knA M c v n).2 c' = M.2 c'
  | 0 => rfl
  | n + 1 => by rw [knA, fk_ne h 4, knA_ne h n]
/-- a vault is told a new code on both sides -/
theorem Rel.anew {F F' : Nat → Nat → Int32} {KF KF' : Nat → Int64} {W W' : Nat → Int32} {K K' : Nat → Int64} {nv np nc tx dy ch lg nr op : Nat} (h : Rel F KF W K nv np nc tx dy ch lg nr op) {u c : Nat} (hu : u < nv) (hc : c < 216)
    (f0 : ∀ k, k < 12 → k ≠ 8 → k ≠ 9 → F' 0 k = F 0 k) (f9 : F' 0 9 = nI (clr op u)) (f8 : F' 0 8 = W' 7) (f1 : ∀ i, i < 6 → F' 1 i = if i = u then nI c else F 1 i) (f2 : F' 2 = F 2) (f3 : F' 3 = F 3) (f4 : F' 4 = F 4) (f5 : F' 5 = F 5) (f6 : F' 6 = F 6) (f7 : F' 8 = F 8)
    (fw : ∀ k, k < 562 → k ≠ 7 → k ≠ 10 + 4 * u → k ≠ 13 + 4 * u → W' k = W k) (w0 : W' (10 + 4 * u) = nI c) (w3 : W' (13 + 4 * u) = 0)
    (hk : ∀ i, i < 144 → KF' i = if i / 4 % 6 = u ∧ i / 24 < np then kMask (i % 4) else KF i) (hK' : ∀ i, i < 144 → K' i = if i / 4 % 6 = u ∧ i / 24 < 6 then kMask (i % 4) else K i) : Rel F' KF' W' K' nv np nc tx dy ch lg nr (clr op u) := by
  obtain ⟨hN, hF, hW, hS, hV, hC, hL, hK, hT⟩ := h
  obtain ⟨n1, n2, n3, n4, n5, n6, n7, n8, n9⟩ := id hN
  refine ⟨⟨n1, n2, n3, n4, n5, n6, n7, n8, clr_lt n9⟩, ?_, ?_, ?_, ?_, ?_, ?_, ⟨fun p hp v hv k hk9 => ?_, fun p hp v hv hpv k hk9 => ?_⟩, fun p hp v hv => ?_⟩
  · unfold RlF
    rw [f0 0 (by omega) (by omega) (by omega), f0 1 (by omega) (by omega) (by omega), f0 2 (by omega) (by omega) (by omega), f0 3 (by omega) (by omega) (by omega), f0 5 (by omega) (by omega) (by omega), f0 6 (by omega) (by omega) (by omega), f0 10 (by omega) (by omega) (by omega), f0 11 (by omega) (by omega) (by omega), f9]
    obtain ⟨g1, g2, g3, g4, g5, g6, g7, g8, -⟩ := hF
    exact ⟨g1, g2, g3, g4, g5, g6, g7, g8, rfl⟩
  · unfold RlW
    rw [fw 0 (by omega) (by omega) (by omega) (by omega), fw 1 (by omega) (by omega) (by omega) (by omega), fw 2 (by omega) (by omega) (by omega) (by omega), fw 3 (by omega) (by omega) (by omega) (by omega), fw 5 (by omega) (by omega) (by omega) (by omega), fw 6 (by omega) (by omega) (by omega) (by omega), fw 8 (by omega) (by omega) (by omega) (by omega)]
    exact hW
  · exact ⟨by rw [f0 7 (by omega) (by omega) (by omega), fw 9 (by omega) (by omega) (by omega) (by omega)]; exact hS.1, f8⟩
  · intro v hv
    obtain ⟨v1, v2, v3, v4⟩ := hV v hv
    refine ⟨?_, ?_, ?_, ?_⟩
    · rw [f1 v (by omega)]
      by_cases g : v = u
      · subst g
        rw [if_pos rfl, w0]
        exact ⟨c, hc, rfl, rfl⟩
      · rw [if_neg g, fw _ (by omega) (by omega) (by omega) (by omega)]
        exact v1
    · rw [f2, fw _ (by omega) (by omega) (by omega) (by omega)]
      exact v2
    · rw [f3, fw _ (by omega) (by omega) (by omega) (by omega)]
      exact v3
    · rw [clr_tb n9 (by omega)]
      by_cases g : v = u
      · subst g
        rw [w3]
        simp [bI]
      · rw [fw _ (by omega) (by omega) (by omega) (by omega), v4]
        simp [g]
  · intro x hx
    rw [f4, f5, f6, fw _ (by omega) (by omega) (by omega) (by omega), fw _ (by omega) (by omega) (by omega) (by omega), fw _ (by omega) (by omega) (by omega) (by omega), fw _ (by omega) (by omega) (by omega) (by omega)]
    exact hC x hx
  · intro a ha k hk9
    rw [f7, fw _ (by omega) (by omega) (by omega) (by omega)]
    exact hL a ha k hk9
  · rw [hk _ (by omega), hK' _ (by omega)]
    by_cases g : v = u
    · rw [if_pos (by omega), if_pos (by omega)]
    · rw [if_neg (by omega), if_neg (by omega)]
      exact hK.1 p hp v hv k hk9
  · rw [hk _ (by omega), if_neg (by omega)]
    exact hK.2 p hp v hv hpv k hk9
  · by_cases g : v = u
    · subst g
      rw [w0, nI_clamp (by omega)]
      constructor
      · rw [hK' _ (by omega), if_pos (by omega), show (4 * (6 * p + v) + 3) % 4 = 3 by omega]
        exact msk_full
      · rw [kbit_iff]
        unfold kb
        rw [hK' _ (by omega), if_pos (by omega), show (4 * (6 * p + v) + c / 64) % 4 = c / 64 by omega]
        exact kMask_bit hc
    · obtain ⟨d, hd, -, e⟩ := (hV v hv).1
      have h9 := hT p hp v hv
      rw [e, nI_clamp (by omega)] at h9
      rw [fw _ (by omega) (by omega) (by omega) (by omega), e, nI_clamp (by omega)]
      constructor
      · rw [hK' _ (by omega), if_neg (by omega)]
        exact h9.1
      · unfold kbit
        rw [hK' _ (by omega), if_neg (by omega)]
        exact h9.2
