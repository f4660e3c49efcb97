/-! the start: Strings -/
def sS : List (String × Nat × Nat) := [("SafeKnown$BankReader", 57, 76), ("SafeKnown$BankReader", 95, 85), ("SafeKnown$BankReader", 113, 94), ("SafeKnown$BankReader", 66, 103), ("SafeKnown$BankReader", 77, 128), ("SafeKnown$BankReader", 71, 113), ("SafeKnown$BankReader", 118, 122), ("SafeKnown$BankReader", 79, 136), ("SafeKnown$LawReader", 63, 201), ("SafeKnown$LawReader", 57, 193), ("SafeKnown$LawReader", 77, 210), ("SafeKnown$LawReader", 93, 216), ("SafeKnown$LawReader", 100, 223), ("SafeKnown$LawReader", 102, 231), ("SafeKnown$LawReader", 123, 264), ("SafeKnown$LawReader", 118, 239), ("SafeKnown$LawReader", 120, 247), ("SafeKnown$LawReader", 122, 255), ("SafeKnown$LawReader", 89, 273), ("SafeKnown$LawReader", 91, 280), ("SafeKnown", 89, 146), ("SafeKnown", 99, 167), ("SafeKnown", 366, 286), ("SafeKnown", 157, 312), ("SafeKnown", 368, 349), ("SafeKnown", 372, 376), ("SafeKnown", 190, 402), ("SafeKnown", 370, 430), ("SafeKnown", 204, 455), ("SafeKnown", 374, 485), ("SafeKnown", 237, 501), ("SafeKnown", 239, 524), ("SafeKnown", 300, 544), ("SafeKnown", 318, 573), ("SafeKnown", 326, 613), ("SafeKnown", 376, 637), ("SafeKnown", 347, 667)]
def sFl : List Cond := flatC (Jvm.Cond.and given_1 narrow_1)
def sTm (i : Nat) : Term := .string (sS.getD i ("", 0, 0)).1 (sS.getD i ("", 0, 0)).2.1
def sBs (i : Nat) : Nat := (sS.getD i ("", 0, 0)).2.2
def sAt (fl : List Cond) (i : Nat) : Bool := decide (fl[sBs i]? = some (.exactly (sTm i) "java/lang/String")) && decide (fl[sBs i + 1]? = some (.eq (.field (sTm i) "java/lang/String" "coder" "B") (.int 0))) && decide (fl[sBs i + 2]? = some (.arrayOf (.field (sTm i) "java/lang/String" "value" "[B") .byte)) && decide (fl[sBs i + 3]? = some (.eq (.length (.field (sTm i) "java/lang/String" "value" "[B")) (.int (Int32.ofNat (sk_Sl.getD i 0))))) &&
  (List.range (sk_Sl.getD i 0)).all (fun j => decide (fl[sBs i + 4 + j]? = some (.eq (.elem (.field (sTm i) "java/lang/String" "value" "[B") (.int (Int32.ofNat j))) (.int ((sk_Sb.getD i []).getD j 0)))))
theorem sAt_0 : (List.range' 0 4).all (sAt sFl) = true := by decide +kernel
theorem sAt_4 : (List.range' 4 4).all (sAt sFl) = true := by decide +kernel
theorem sAt_8 : (List.range' 8 4).all (sAt sFl) = true := by decide +kernel
theorem sAt_12 : (List.range' 12 4).all (sAt sFl) = true := by decide +kernel
theorem sAt_16 : (List.range' 16 4).all (sAt sFl) = true := by decide +kernel
theorem sAt_20 : (List.range' 20 4).all (sAt sFl) = true := by decide +kernel
theorem sAt_24 : (List.range' 24 4).all (sAt sFl) = true := by decide +kernel
theorem sAt_28 : (List.range' 28 4).all (sAt sFl) = true := by decide +kernel
theorem sAt_32 : (List.range' 32 4).all (sAt sFl) = true := by decide +kernel
theorem sAt_36 : (List.range' 36 1).all (sAt sFl) = true := by decide +kernel
theorem sAt_ok (i : Nat) (h : i < 37) : sAt sFl i = true := by
  by_cases z0 : i < 4
  · exact List.all_eq_true.mp sAt_0 i (List.mem_range'_1.mpr ⟨by omega, by omega⟩)
  by_cases z4 : i < 8
  · exact List.all_eq_true.mp sAt_4 i (List.mem_range'_1.mpr ⟨by omega, by omega⟩)
  by_cases z8 : i < 12
  · exact List.all_eq_true.mp sAt_8 i (List.mem_range'_1.mpr ⟨by omega, by omega⟩)
  by_cases z12 : i < 16
  · exact List.all_eq_true.mp sAt_12 i (List.mem_range'_1.mpr ⟨by omega, by omega⟩)
  by_cases z16 : i < 20
  · exact List.all_eq_true.mp sAt_16 i (List.mem_range'_1.mpr ⟨by omega, by omega⟩)
  by_cases z20 : i < 24
  · exact List.all_eq_true.mp sAt_20 i (List.mem_range'_1.mpr ⟨by omega, by omega⟩)
  by_cases z24 : i < 28
  · exact List.all_eq_true.mp sAt_24 i (List.mem_range'_1.mpr ⟨by omega, by omega⟩)
  by_cases z28 : i < 32
  · exact List.all_eq_true.mp sAt_28 i (List.mem_range'_1.mpr ⟨by omega, by omega⟩)
  by_cases z32 : i < 36
  · exact List.all_eq_true.mp sAt_32 i (List.mem_range'_1.mpr ⟨by omega, by omega⟩)
  exact List.all_eq_true.mp sAt_36 i (List.mem_range'_1.mpr ⟨by omega, by omega⟩)
/-- the Strings at the start -/
theorem s_strs {args : Array Value} {s : State} {A : Nat → Prop} (h : (Jvm.Cond.and given_1 narrow_1).before args s = true) (hA : ∀ a : Nat, a < s.heap.size → ¬ A a) : ∃ adK adV : Nat → Nat, ∀ i : Nat, i < 37 → (sTm i).eval args s none [] s = some (.ref (adK i)) ∧ va_O "java/lang/String" (adK i) A s s.heap ∧ va_OF "java/lang/String" "coder" "B" (.int 0) (adK i) A s s.heap ∧ va_OF "java/lang/String" "value" "[B" (.ref (adV i)) (adK i) A s s.heap ∧ va_T .byte (adV i) (sk_Sl.getD i 0) (fun j => .int ((sk_Sb.getD i []).getD j 0)) A s s.heap := by
  have hf := flat_of_before _ h
  have h0 : ∀ i : Nat, ∃ q : Nat × Nat, i < 37 → (sTm i).eval args s none [] s = some (.ref q.1) ∧ va_O "java/lang/String" q.1 A s s.heap ∧ va_OF "java/lang/String" "coder" "B" (.int 0) q.1 A s s.heap ∧ va_OF "java/lang/String" "value" "[B" (.ref q.2) q.1 A s s.heap ∧ va_T .byte q.2 (sk_Sl.getD i 0) (fun j => .int ((sk_Sb.getD i []).getD j 0)) A s s.heap := by
    intro i
    by_cases hi : i < 37
    · have hq := sAt_ok i hi
      unfold sAt at hq
      simp only [Bool.and_eq_true, decide_eq_true_eq, List.all_eq_true] at hq
      obtain ⟨⟨⟨⟨q1, q2⟩, q3⟩, q4⟩, q5⟩ := hq
      have w1 := hf _ (List.mem_of_getElem? q1)
      have w2 := hf _ (List.mem_of_getElem? q2)
      have w3 := hf _ (List.mem_of_getElem? q3)
      have w4 := hf _ (List.mem_of_getElem? q4)
      have hN : sk_Sl.getD i 0 < 2 ^ 31 := (show ∀ i, i < 37 → sk_Sl.getD i 0 < 2 ^ 31 by decide +kernel) i hi
      obtain ⟨t, ht, hT⟩ := va_Tof (f := fun j => .int ((sk_Sb.getD i []).getD j 0)) (A := A) hN w3 (va_eqt w4) (fun j hj => va_eqt (hf _ (List.mem_of_getElem? (q5 j (List.mem_range.mpr hj))))) hA
      obtain ⟨a, c, cA, kA, e1, e2, e3, e4, e5, e6, -⟩ := Cond.exactly_spec (args := args) (first := s) (o := none) (s := s) (idx := []) (t := sTm i) (cls := "java/lang/String") w1
      exact ⟨(a, t), fun _ => ⟨e1, ⟨cA, e3, e5, by rw [e6]; exact e2, hA a (Array.getElem?_eq_some_iff.mp e3).1⟩, vk_OFof e1 (va_eqt w2) hA, vk_OFof e1 ht hA, hT⟩⟩
    · exact ⟨(0, 0), fun h => absurd h hi⟩
  obtain ⟨ad, had⟩ := Classical.axiomOfChoice h0
  exact ⟨fun i => (ad i).1, fun i => (ad i).2, fun i hi => had i hi⟩
