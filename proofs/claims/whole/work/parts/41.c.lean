/-! a turning, on both sides -/
theorem Rel.turn {F F' : Nat → Nat → Int32} {KF KF' : Nat → Int64} {W W' : Nat → Int32} {K K' : Nat → Int64} {nv np nc tx dy ch lg nr op : Nat} (h : Rel F KF W K nv np nc tx dy ch lg nr op) {q u op' : Nat} {r : Nat → Int32} (hq : q < np) (hu : u < nv)
    (f0 : ∀ k, k < 12 → k ≠ 9 → k ≠ 10 → k ≠ 11 → F' 0 k = F 0 k) (f9 : F' 0 9 = nI op') (f10 : F' 0 10 = nI (min 80 (lg + 1))) (f11 : F' 0 11 = nI ((nr + 1) % 80))
    (fj : ∀ c, 1 ≤ c → c ≤ 6 → F' c = F c) (f8 : ∀ i, F' 8 i = if i / 6 = nr then r (i % 6) else F 8 i)
    (hop : op' < 2 ^ nv) (tb : ∀ w, w < nv → W' (13 + 4 * w) = bI (op'.testBit w = true)) (w8 : W' 8 = nI (min 80 (lg + 1)))
    (wl : ∀ k, k < 480 → W' (82 + k) = if k < 6 then r k else W (82 + (k - 6))) (wo : ∀ k, k < 82 → k ≠ 8 → k < 13 ∨ 34 ≤ k ∨ k % 4 ≠ 1 → W' k = W k)
    (k1 : ∀ i, ¬ (4 * (6 * q + u) ≤ i ∧ i < 4 * (6 * q + u) + 4) → KF' i = KF i) (k2 : ∀ i, ¬ (4 * (6 * q + u) ≤ i ∧ i < 4 * (6 * q + u) + 4) → K' i = K i) (k3 : ∀ k, k < 4 → KF' (4 * (6 * q + u) + k) = K' (4 * (6 * q + u) + k))
    (k4 : K' (4 * (6 * q + u) + 3) &&& 16777215 = K' (4 * (6 * q + u) + 3)) (k5 : kbit K' (4 * (6 * q + u)) (W (10 + 4 * u)).toNatClampNeg) : Rel F' KF' W' K' nv np nc tx dy ch (min 80 (lg + 1)) ((nr + 1) % 80) op' := by
  obtain ⟨hN, hF, hW, hS, hV, hC, hL, hK, hT⟩ := h
  obtain ⟨n1, n2, n3, n4, n5, n6, n7, n8, n9⟩ := id hN
  refine ⟨⟨n1, n2, n3, n4, n5, n6, by omega, by omega, hop⟩, ?_, ?_, ?_, ?_, ?_, ?_, ⟨fun p hp v hv k hk9 => ?_, fun p hp v hv hpv k hk9 => ?_⟩, fun p hp v hv => ?_⟩
  · unfold RlF
    rw [f0 0 (by omega) (by omega) (by omega) (by omega), f0 1 (by omega) (by omega) (by omega) (by omega), f0 2 (by omega) (by omega) (by omega) (by omega), f0 3 (by omega) (by omega) (by omega) (by omega), f0 5 (by omega) (by omega) (by omega) (by omega), f0 6 (by omega) (by omega) (by omega) (by omega)]
    obtain ⟨g1, g2, g3, g4, g5, g6, g7, g8, -⟩ := hF
    exact ⟨g1, g2, g3, g4, g5, g6, f10, f11, f9⟩
  · unfold RlW
    rw [wo 0 (by omega) (by omega) (by omega), wo 1 (by omega) (by omega) (by omega), wo 2 (by omega) (by omega) (by omega), wo 3 (by omega) (by omega) (by omega), wo 5 (by omega) (by omega) (by omega), wo 6 (by omega) (by omega) (by omega)]
    obtain ⟨g1, g2, g3, g4, g5, g6, g7⟩ := hW
    exact ⟨g1, g2, g3, g4, g5, g6, w8⟩
  · exact ⟨by rw [f0 7 (by omega) (by omega) (by omega) (by omega), wo 9 (by omega) (by omega) (by omega)]; exact hS.1, by rw [f0 8 (by omega) (by omega) (by omega) (by omega), wo 7 (by omega) (by omega) (by omega)]; exact hS.2⟩
  · intro v hv
    obtain ⟨v1, v2, v3, v4⟩ := hV v hv
    refine ⟨?_, ?_, ?_, tb v hv⟩
    · rw [fj 1 (by omega) (by omega), wo _ (by omega) (by omega) (by omega)]
      exact v1
    · rw [fj 2 (by omega) (by omega), wo _ (by omega) (by omega) (by omega)]
      exact v2
    · rw [fj 3 (by omega) (by omega), wo _ (by omega) (by omega) (by omega)]
      exact v3
  · intro x hx
    rw [fj 4 (by omega) (by omega), fj 5 (by omega) (by omega), fj 6 (by omega) (by omega), wo (34 + 4 * x) (by omega) (by omega) (by omega), wo (35 + 4 * x) (by omega) (by omega) (by omega), wo (36 + 4 * x) (by omega) (by omega) (by omega), wo (37 + 4 * x) (by omega) (by omega) (by omega)]
    exact hC x hx
  · intro a ha k hk
    rw [f8, Nat.add_assoc 82, wl _ (by omega)]
    by_cases z : a = 0
    · subst z
      rw [if_pos (by omega), if_pos (by omega)]
      congr 1
      omega
    · rw [if_neg (by omega), if_neg (by omega)]
      have := hL (a - 1) (by omega) k hk
      rw [show ((nr + 1) % 80 + 79 - a) % 80 = (nr + 79 - (a - 1)) % 80 by omega, this]
      congr 1
      omega
  · by_cases g : p = q ∧ v = u
    · obtain ⟨rfl, rfl⟩ := g
      exact k3 k hk9
    · rw [k1 _ (by omega), k2 _ (by omega)]
      exact hK.1 p hp v hv k hk9
  · rw [k1 _ (by omega)]
    exact hK.2 p hp v hv hpv k hk9
  · rw [wo (10 + 4 * v) (by omega) (by omega) (by omega)]
    by_cases g : p = q ∧ v = u
    · obtain ⟨rfl, rfl⟩ := g
      exact ⟨k4, k5⟩
    · have h9 := hT p hp v hv
      obtain ⟨c, hc, -, e⟩ := (hV v hv).1
      rw [e, nI_clamp (by omega)] at h9 ⊢
      constructor
      · rw [k2 _ (by omega)]
        exact h9.1
      · unfold kbit
        rw [k2 _ (by omega)]
        exact h9.2
theorem stP_u {f : Nat → Int32} {t u : Nat} : stP f t u u := by
  by_cases z : t = u
  · exact Or.inl ⟨z, z.symm⟩
  · exact Or.inr ⟨z, fun y => z y.symm, rfl⟩
