/-! the start: what is known of Strings, of Throwable, of classes -/
def sPl : List (Nat × Nat) := [(626, 0), (1519, 711), (693, 0), (1538, 721), (707, 0), (1551, 731), (712, 0), (1577, 742), (723, 0), (1586, 751), (717, 0), (1587, 761), (722, 0), (1604, 768), (724, 0), (1605, 779), (844, 0), (1610, 789), (842, 0), (1611, 798), (850, 0), (1612, 805), (859, 0), (1629, 813), (863, 0), (1638, 822), (864, 0), (1639, 831), (882, 0), (1648, 841), (879, 0), (1649, 850), (880, 0), (1650, 859), (881, 0), (1651, 869), (886, 0), (1652, 877), (887, 0), (1653, 884), (776, 0), (812, 0), (918, 0), (945, 0), (963, 0), (989, 0), (1001, 0), (1012, 0), (1035, 0), (1078, 0), (1109, 0), (1117, 0), (1282, 0), (1284, 0), (1292, 0), (1344, 0), (1367, 0)]
def sRf (n : Nat) : Bool := match sk_St[n]?, sPl[n]? with
  | some q, some z => decide (lw_tbl[z.1]? = some (.stringRef q.1 q.2.1 q.2.2.1)) && decide (q.2.2.2 < 37) && (decide (Term.string q.1 q.2.1 = sTm q.2.2.2) || decide (sFl[z.2]? = some (.eq (sTm q.2.2.2) (.string q.1 q.2.1))))
  | _, _ => false
theorem sRf_ok : (List.range 57).all sRf = true := by decide +kernel
theorem sSt_len : sk_St.length = 57 := by decide +kernel
theorem s_C {l : Launch} {args : Array Value} {s : State} (hl : l.stackTraces = false) (h : (Jvm.Cond.and given_1 narrow_1).before args s = true) (hts : ∀ w ∈ lw_tbl, w.before args s = true) :
    ∃ sa sv : Nat → Nat, ∀ (D : va_G) (ad : Nat → Nat) (cA : Nat → ClassId), sk_C (l, D, ad, cA, sa, sv) (fun q => s.heap.size ≤ q) s s.heap := by
  have hf := flat_of_before _ h
  have hA : ∀ a : Nat, a < s.heap.size → ¬ (fun q => s.heap.size ≤ q) a := fun a ha z => absurd ha (Nat.not_lt.mpr z)
  obtain ⟨sa, sv, hS⟩ := s_strs (A := fun q => s.heap.size ≤ q) h hA
  have hR : ∀ q ∈ sk_St, vk_R q.1 q.2.1 q.2.2.1 (sa q.2.2.2) s := fun q hq => by
    obtain ⟨n, hn⟩ := List.mem_iff_getElem?.mp hq
    have hn57 : n < 57 := by rw [← sSt_len]; exact (List.getElem?_eq_some_iff.mp hn).1
    have hz := List.all_eq_true.mp sRf_ok n (List.mem_range.mpr hn57)
    unfold sRf at hz
    rw [hn] at hz
    cases hp : sPl[n]? with
    | none => rw [hp] at hz; cases hz
    | some z =>
      rw [hp] at hz
      simp only [Bool.and_eq_true, Bool.or_eq_true, decide_eq_true_eq] at hz
      obtain ⟨⟨z1, z2⟩, z3⟩ := hz
      refine vk_R.of (hts _ (List.mem_of_getElem? z1)) ?_
      rcases z3 with z3 | z3
      · rw [z3]; exact (hS _ z2).1
      · exact va_eqR (hf _ (List.mem_of_getElem? z3)) (hS _ z2).1
  refine ⟨sa, sv, fun D ad cA => ⟨hl, vx_Zqof (hts _ (List.mem_of_getElem? (i := 760) (by decide +kernel))) (hts _ (List.mem_of_getElem? (i := 116) (by decide +kernel))) (hf _ (List.mem_of_getElem? (i := 9) (by decide +kernel))) hA, vx_Zqof (hts _ (List.mem_of_getElem? (i := 762) (by decide +kernel))) (hts _ (List.mem_of_getElem? (i := 116) (by decide +kernel))) (hf _ (List.mem_of_getElem? (i := 10) (by decide +kernel))) hA, ⟨va_Zof (hts _ (List.mem_of_getElem? (i := 640) (by decide +kernel))) (hts _ (List.mem_of_getElem? (i := 112) (by decide +kernel))) (va_eqt (hf _ (List.mem_of_getElem? (i := 4) (by decide +kernel)))) hA, fun i hi => (hS i hi).2⟩, hR, (List.forall_mem_cons.mpr ⟨va_Nw.of rfl (hts _ (List.mem_of_getElem? (i := 735) (by decide +kernel))), (List.forall_mem_cons.mpr ⟨va_Nw.of rfl (hts _ (List.mem_of_getElem? (i := 805) (by decide +kernel))), (List.forall_mem_cons.mpr ⟨va_Nw.of rfl (hts _ (List.mem_of_getElem? (i := 911) (by decide +kernel))), (List.forall_mem_cons.mpr ⟨va_Nw.of rfl (hts _ (List.mem_of_getElem? (i := 938) (by decide +kernel))), (List.forall_mem_cons.mpr ⟨va_Nw.of rfl (hts _ (List.mem_of_getElem? (i := 1028) (by decide +kernel))), (fun _ h => absurd h List.not_mem_nil)⟩)⟩)⟩)⟩)⟩), (List.forall_mem_cons.mpr ⟨va_Nc.of (hf _ (List.mem_of_getElem? (i := 20) (by decide +kernel))), (List.forall_mem_cons.mpr ⟨va_Nc.of (hf _ (List.mem_of_getElem? (i := 48) (by decide +kernel))), (List.forall_mem_cons.mpr ⟨va_Nc.of (hf _ (List.mem_of_getElem? (i := 46) (by decide +kernel))), (List.forall_mem_cons.mpr ⟨va_Nc.of (hf _ (List.mem_of_getElem? (i := 49) (by decide +kernel))), (fun _ h => absurd h List.not_mem_nil)⟩)⟩)⟩)⟩), va_Zqof (hts _ (List.mem_of_getElem? (i := 656) (by decide +kernel))) (hts _ (List.mem_of_getElem? (i := 114) (by decide +kernel))) (hf _ (List.mem_of_getElem? (i := 5) (by decide +kernel))) hA, (List.forall_mem_cons.mpr ⟨va_Nw.of rfl (hts _ (List.mem_of_getElem? (i := 737) (by decide +kernel))), (List.forall_mem_cons.mpr ⟨va_Nw.of rfl (hts _ (List.mem_of_getElem? (i := 739) (by decide +kernel))), (List.forall_mem_cons.mpr ⟨va_Nw.of rfl (hts _ (List.mem_of_getElem? (i := 741) (by decide +kernel))), (fun _ h => absurd h List.not_mem_nil)⟩)⟩)⟩)⟩⟩
