/-! at the start the two sides are tied -/
theorem inv0 : Inv M00 := by
  have z0 : ∀ k, M00.1 0 k = if k = 4 then -1 else if k = 7 then 1 else 0 := fun _ => rfl
  have z7 : ∀ k, M00.1 7 k = ckI 108 k := fun _ => rfl
  have z9 : ∀ k, M00.2 9 k = knI 144 k := fun _ => rfl
  have zw : ∀ k, M00.1 141 k = if k = 9 then 1 else 0 := fun k => by
    show upd (fun _ => 0) 9 1 k = _
    unfold upd
    rfl
  refine ⟨⟨⟨0, 0, 0, 0, 0, 0, 0, 0, 0, ⟨by decide, by decide, by decide, by decide, by decide, by decide, by decide, by decide, by decide⟩, ⟨rfl, rfl, rfl, rfl, rfl, rfl, rfl, rfl, rfl⟩, ⟨rfl, rfl, rfl, rfl, rfl, rfl, rfl⟩, ⟨rfl, rfl⟩, fun v hv => absurd hv (Nat.not_lt_zero _), fun v hv => absurd hv (Nat.not_lt_zero _), fun v hv => absurd hv (Nat.not_lt_zero _), ⟨fun v hv => absurd hv (Nat.not_lt_zero _), fun p hp v hv _ k hk => ?_⟩, fun v hv => absurd hv (Nat.not_lt_zero _)⟩, fun i hi => ?_, fun w hw t ht c hc M Q h4 _ hQ => ?_, Or.inl ⟨rfl, rfl⟩⟩, ⟨⟨0, by decide, rfl, rfl, fun j hj => absurd hj (Nat.not_lt_zero _)⟩, rfl⟩, ⟨rfl, Or.inl rfl⟩, ⟨0, 0, by decide, by decide, rfl, rfl, rfl, fun j hj => absurd hj (Nat.not_lt_zero _)⟩, ⟨0, fun _ => 0, rfl, by decide, fun s hs => ⟨0, rfl, rfl, by decide⟩⟩, fun i hi => rfl⟩
  · rw [z9]
    unfold knI
    rw [if_pos (by omega), show (4 * (6 * p + v) + k) % 4 = k by omega]
  · rw [z7]
    unfold ckI
    by_cases h : i < 108 ∧ i % 36 / 6 = i % 6
    · rw [if_pos h]; decide
    · rw [if_neg h]; decide
  · unfold w_X8_clickOf
    rw [h4, zw, if_pos (show (if 4 = 9 then (1 : Int32) else 0) = 0 from rfl)]
    have e := hQ M (fun _ _ => rfl) rfl
    rw [z7] at e
    unfold ckI at e
    have a1 : (36 * w + 6 * t + c) % 36 = 6 * t + c := by omega
    have a2 : (6 * t + c) / 6 = t := by omega
    have a3 : (36 * w + 6 * t + c) % 6 = c := by omega
    rw [a1, a2, a3] at e
    by_cases h : t = c
    · rw [if_pos ⟨by omega, h⟩] at e
      rw [h, if_pos rfl]
      exact e
    · rw [if_neg (fun z => h z.2)] at e
      rw [if_neg (fun z => h ((nI_eq (by omega) (by omega)).mp z))]
      exact e
