/-! the start: classes and array classes -/
theorem s_arr {args : Array Value} {s : State} {ty : FieldType} (ht : ∀ C, ty ≠ .object C) (h : (Cond.arrayClass ty).before args s = true) : ∃ cA, ArrOfT s cA ty ∧ va_RA s cA ty := by
  obtain ⟨cA, kA, comp, h1, h2, h3⟩ := Cond.arrayClass_spec (args := args) (first := s) (o := none) (s := s) (idx := []) h
  refine ⟨cA, fun n z => ⟨fun k h => (by cases h), kA, h2, comp, h3⟩, ?_⟩
  unfold va_RA
  cases ty <;> first | exact h1 | exact absurd rfl (ht _)
theorem s_arrO {args : Array Value} {s : State} {C : String} (h : (Cond.arrayOver (.object C)).before args s = true) : ∃ cA, ArrOfT s cA (.object C) ∧ va_RA s cA (.object C) := by
  obtain ⟨comp, cA, kA, h1, -, h2, h3, h4⟩ := Cond.arrayOver_spec (args := args) (first := s) (o := none) (s := s) (idx := []) h
  exact ⟨cA, fun n z => ⟨fun k h => (by cases h), kA, h2, comp, h3⟩, kA, comp, h2, h3, h1, h4⟩
theorem s_K {args : Array Value} {s : State} (hts : ∀ w ∈ lw_tbl, w.before args s = true) : ∃ (D : va_G) (cA : Nat → ClassId), va_K D vwCl (sk_tys cA) s := by
  have htw : ∀ w ∈ sk_w, w.before args s = true := fun w hw => hts w (List.mem_filter.mp hw).1
  obtain ⟨c0, i0, k0⟩ := u_known (C := RX0) (T := TX0) (N := 6) (n := 6) htw sk_in0 (hts _ (List.mem_of_getElem? (i := 295) (by decide +kernel)))
  obtain ⟨c1, i1, k1⟩ := u_known (C := RX1) (T := TX1) (N := 6) (n := 6) htw sk_in1 (hts _ (List.mem_of_getElem? (i := 320) (by decide +kernel)))
  obtain ⟨c2, i2, k2⟩ := u_known (C := RX2) (T := TX2) (N := 4) (n := 4) htw sk_in2 (hts _ (List.mem_of_getElem? (i := 407) (by decide +kernel)))
  obtain ⟨c3, i3, k3⟩ := u_known (C := RX3) (T := TX3) (N := 3) (n := 3) htw sk_in3 (hts _ (List.mem_of_getElem? (i := 275) (by decide +kernel)))
  obtain ⟨c4, i4, k4⟩ := u_known (C := RX4) (T := TX4) (N := 16) (n := 16) htw sk_in4 (hts _ (List.mem_of_getElem? (i := 347) (by decide +kernel)))
  obtain ⟨c5, i5, k5⟩ := u_known (C := RX5) (T := TX5) (N := 21) (n := 21) htw sk_in5 (hts _ (List.mem_of_getElem? (i := 170) (by decide +kernel)))
  obtain ⟨c6, i6, k6⟩ := u_known (C := RX6) (T := TX6) (N := 6) (n := 6) htw sk_in6 (hts _ (List.mem_of_getElem? (i := 138) (by decide +kernel)))
  obtain ⟨c7, i7, k7⟩ := u_known (C := RX7) (T := TX7) (N := 9) (n := 9) htw sk_in7 (hts _ (List.mem_of_getElem? (i := 130) (by decide +kernel)))
  obtain ⟨c8, i8, k8⟩ := u_known (C := RX8) (T := TX8) (N := 27) (n := 27) htw sk_in8 (hts _ (List.mem_of_getElem? (i := 1373) (by decide +kernel)))
  obtain ⟨a0, u0, v0⟩ := s_arr (ty := .int) (fun C h => by cases h) (hts _ (List.mem_of_getElem? (i := 168) (by decide +kernel)))
  obtain ⟨a1, u1, v1⟩ := s_arr (ty := .long) (fun C h => by cases h) (hts _ (List.mem_of_getElem? (i := 273) (by decide +kernel)))
  obtain ⟨a2, u2, v2⟩ := s_arr (ty := .boolean) (fun C h => by cases h) (hts _ (List.mem_of_getElem? (i := 405) (by decide +kernel)))
  obtain ⟨a3, u3, v3⟩ := s_arr (ty := .byte) (fun C h => by cases h) (hts _ (List.mem_of_getElem? (i := 802) (by decide +kernel)))
  obtain ⟨a4, u4, v4⟩ := s_arrO (C := "SafeKnown$State") (hts _ (List.mem_of_getElem? (i := 281) (by decide +kernel)))
  refine ⟨(fun c => [c0, c1, c2, c3, c4, c5, c6, c7, c8].getD c 0, fun c => [i0, i1, i2, i3, i4, i5, i6, i7, i8].getD c (fun _ => 0)), fun k => [a0, a1, a2, a3, a4].getD (k - 10) 0, fun c q hq => ?_, fun k q hq => ?_⟩
  · have hl : c < 9 := (List.getElem?_eq_some_iff.mp hq).1
    have e : c = 0 ∨ c = 1 ∨ c = 2 ∨ c = 3 ∨ c = 4 ∨ c = 5 ∨ c = 6 ∨ c = 7 ∨ c = 8 := by omega
    rcases e with rfl | rfl | rfl | rfl | rfl | rfl | rfl | rfl | rfl <;> cases hq
    · exact k0
    · exact k1
    · exact k2
    · exact k3
    · exact k4
    · exact k5
    · exact k6
    · exact k7
    · exact k8
  · have hl : k < 5 := (List.getElem?_eq_some_iff.mp hq).1
    have e : k = 0 ∨ k = 1 ∨ k = 2 ∨ k = 3 ∨ k = 4 := by omega
    rcases e with rfl | rfl | rfl | rfl | rfl <;> cases hq
    · exact ⟨u0, v0⟩
    · exact ⟨u1, v1⟩
    · exact ⟨u2, v2⟩
    · exact ⟨u3, v3⟩
    · exact ⟨u4, v4⟩
