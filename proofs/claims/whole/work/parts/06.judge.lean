/-! a judgement over the whole world, and contracts -/
def sk_w : List Cond := lw_tbl.filter goodWord
theorem sk_w_in {w : Cond} (h : (decide (w ∈ lw_tbl) && goodWord w) = true) : w ∈ sk_w := by
  simp only [Bool.and_eq_true, decide_eq_true_eq] at h
  exact List.mem_filter.mpr ⟨h.1, h.2⟩
/-- what is known of Strings and of Throwable's statics, outside of A -/
def sk_C (G : sk_G) (A : Nat → Prop) (U : State) (H : Heap) : Prop :=
  G.1.stackTraces = false ∧ vx_Zq Bundle.tN "UNASSIGNED_STACK" Bundle.steD A U H ∧ vx_Zq Bundle.tN "SUPPRESSED_SENTINEL" Bundle.listD A U H ∧ (va_Z "java/lang/String" "COMPACT_STRINGS" "Z" (.int 1) A U H ∧
    ∀ i : Nat, i < sk_SN → va_O "java/lang/String" (G.2.2.2.2.1 i) A U H ∧ va_OF "java/lang/String" "coder" "B" (.int 0) (G.2.2.2.2.1 i) A U H ∧ va_OF "java/lang/String" "value" "[B" (.ref (G.2.2.2.2.2 i)) (G.2.2.2.2.1 i) A U H ∧ va_T .byte (G.2.2.2.2.2 i) (sk_Sl.getD i 0) (fun j => .int ((sk_Sb.getD i []).getD j 0)) A U H) ∧
  (∀ q ∈ sk_St, vk_R q.1 q.2.1 q.2.2.1 (G.2.2.2.2.1 q.2.2.2) U) ∧ (∀ q ∈ sk_Ex, va_Nw (.castable q q) U) ∧ (∀ q ∈ sk_Np, va_Nc q.1 q.2 U) ∧ va_Zq "jdk/internal/util/Preconditions" "SIOOBE_FORMATTER" "Ljava/util/function/BiFunction;" A U H ∧ ∀ q ∈ sk_De, va_Nw (.declares q) U
theorem sk_C.kept {G : sk_G} {A : Nat → Prop} {U : State} {H H1 : Heap} (h : sk_C G A U H) (hq : ∀ a : Nat, a < H.size → ¬ A a → H1[a]? = H[a]?) : sk_C G A U H1 :=
  ⟨h.1, h.2.1.kept hq, h.2.2.1.kept hq, ⟨h.2.2.2.1.1.kept hq, fun i hi => ⟨(h.2.2.2.1.2 i hi).1.kept hq, (h.2.2.2.1.2 i hi).2.1.kept hq, (h.2.2.2.1.2 i hi).2.2.1.kept hq, (h.2.2.2.1.2 i hi).2.2.2.kept hq⟩⟩, h.2.2.2.2.1, h.2.2.2.2.2.1, h.2.2.2.2.2.2.1, va_Zq.kept h.2.2.2.2.2.2.2.1 hq, h.2.2.2.2.2.2.2.2⟩
theorem sk_C.moved {G : sk_G} {A : Nat → Prop} {u U : State} {H : Heap} (hvm : u.WarmedH U.vm) (h : sk_C G A u H) : sk_C G A U H :=
  ⟨h.1, h.2.1.moved hvm.alike, h.2.2.1.moved hvm.alike, ⟨h.2.2.2.1.1.moved hvm.alike, fun i hi => ⟨va_O.moved hvm.alike (h.2.2.2.1.2 i hi).1, va_OF.moved hvm.alike (h.2.2.2.1.2 i hi).2.1, va_OF.moved hvm.alike (h.2.2.2.1.2 i hi).2.2.1, va_T.moved hvm.alike (h.2.2.2.1.2 i hi).2.2.2⟩⟩, fun q hq => (h.2.2.2.2.1 q hq).warm hvm, fun q hq => va_Nw.warmC hvm (h.2.2.2.2.2.1 q hq), fun q hq => va_Nc.moved hvm.alike (h.2.2.2.2.2.2.1 q hq), va_Zq.moved hvm.alike h.2.2.2.2.2.2.2.1, fun q hq => va_Nw.warmD hvm (h.2.2.2.2.2.2.2.2 q hq)⟩
theorem sk_C.same {G : sk_G} {A : Nat → Prop} {u U : State} {H : Heap} (hvm : U.vm = u.vm) (h : sk_C G A u H) : sk_C G A U H := by
  have ha : u.vm.Alike U.vm := by rw [hvm]; exact Vm.Alike.refl _
  exact ⟨h.1, h.2.1.moved ha, h.2.2.1.moved ha, ⟨h.2.2.2.1.1.moved ha, fun i hi => ⟨va_O.moved ha (h.2.2.2.1.2 i hi).1, va_OF.moved ha (h.2.2.2.1.2 i hi).2.1, va_OF.moved ha (h.2.2.2.1.2 i hi).2.2.1, va_T.moved ha (h.2.2.2.1.2 i hi).2.2.2⟩⟩, fun q hq => vk_R.same hvm (h.2.2.2.2.1 q hq), fun q hq => va_tabs rfl hvm.symm (h.2.2.2.2.2.1 q hq), fun q hq => va_Nc.moved ha (h.2.2.2.2.2.2.1 q hq), va_Zq.moved ha h.2.2.2.2.2.2.2.1, fun q hq => va_tabs rfl hvm.symm (h.2.2.2.2.2.2.2.2 q hq)⟩
theorem sk_C.narrow {G : sk_G} {A B : Nat → Prop} {U : State} {H : Heap} (h : sk_C G A U H) (hAB : ∀ q, B q → A q) : sk_C G B U H :=
  ⟨h.1, h.2.1.narrow hAB, h.2.2.1.narrow hAB, ⟨h.2.2.2.1.1.narrow hAB, fun i hi => ⟨(h.2.2.2.1.2 i hi).1.narrow hAB, (h.2.2.2.1.2 i hi).2.1.narrow hAB, (h.2.2.2.1.2 i hi).2.2.1.narrow hAB, (h.2.2.2.1.2 i hi).2.2.2.narrow hAB⟩⟩, h.2.2.2.2.1, h.2.2.2.2.2.1, h.2.2.2.2.2.2.1, va_Zq.narrow h.2.2.2.2.2.2.2.1 hAB, h.2.2.2.2.2.2.2.2⟩
def sk_P (G : sk_G) (M : sk_M) (sz : Nat) (args : List Value) : Array Value → State → Prop := va_Pc args fun U => U.heap.size = sz ∧ va_P G.2.1 vwCl (sk_ws G.2.2.1 G.2.2.2.1 M) U.heap ∧ va_K G.2.1 vwCl (sk_tys G.2.2.2.1) U ∧ sk_inj G.2.2.1 ∧ sk_C G (sk_A G.2.2.1 sz) U U.heap
def sk_Q (G : sk_G) (po : Option Value → sk_M → Prop) : Array Value → State → Outcome → State → Prop := fun _ st o t => (∃ (v : Option Value) (M : sk_M), o = .returned v ∧ po v M ∧ va_P G.2.1 vwCl (sk_ws G.2.2.1 G.2.2.2.1 M) t.heap) ∧ va_F (sk_A G.2.2.1 st.heap.size) st t
def sk_XC (G : sk_G) (xp : String → sk_M → Prop) : String → State → State → Prop := fun E st t => (∃ M : sk_M, xp E M ∧ va_P G.2.1 vwCl (sk_ws G.2.2.1 G.2.2.2.1 M) t.heap) ∧ va_F (sk_A G.2.2.1 st.heap.size) st t
/-- a contract: from the memory M, with these arguments, the method returns as po says, or throws as xp says -/
def Ctr (G : sk_G) (X : sk_X) (d mc ms : Nat) (args : List Value) (M : sk_M) (po : Option Value → sk_M → Prop) (xp : String → sk_M → Prop) : Prop :=
  ∀ sz : Nat, vx_Met G.1 X.1 (sk_cw X :: sk_w) (sk_R d mc ms) (sk_P G M sz args) (sk_Q G po) (sk_XC G xp) mc ms (sk_A G.2.2.1 sz)
def sk_cx (G : sk_G) (X : sk_X) (p : Program) (s : State) (m : MethodId) (args : Array Value) (meth : Method) (c : Code) : Prop :=
  p.tables.exec = Jvm.exec ∧ c.code = X.2.1 ∧ meth.sig.returnType = X.2.2.2.1 ∧ c.maxLocals = X.2.2.1 ∧ s.vm.findClass X.1.cls = some m.cls ∧ (∀ w ∈ sk_w, w.before args s = true) ∧ meth.locks = false ∧ c.exceptionTable.toList = tableOf X.2.2.2.2 ∧
  va_K G.2.1 vwCl (sk_tys G.2.2.2.1) s ∧ sk_inj G.2.2.1 ∧ sk_C G (sk_A G.2.2.1 s.heap.size) s s.heap
/-- the judgement: at pc, with these locals, this stack, this memory, the machine comes to its end E -/
def TJ (G : sk_G) (X : sk_X) (R : Room) (E : sk_E) (cells slots pc : Nat) (xs : List (Option Value)) (st : List Value) (M : sk_M) : Prop :=
  ∀ (p : Program) (e : Env) (s : State) (m : MethodId) (args : Array Value) (below : List Frame) (meth : Method) (c : Code) (H : Heap) (locs : List Loc), sk_cx G X p s m args meth c →
    va_P G.2.1 vwCl (sk_ws G.2.2.1 G.2.2.2.1 M) H → va_S (sk_A G.2.2.1 s.heap.size) s.heap H locs → ∀ ls : Array Slot, sk_L ls X.2.2.1 xs →
    W p G.1 e R s m args below meth c H locs cells slots (E below args s) (F0 m pc ls st)
/-- the end of a method with a contract -/
def sk_K (G : sk_G) (mc ms : Nat) (po : Option Value → sk_M → Prop) (xp : String → sk_M → Prop) : sk_E := fun below args s => vx_MQ below (sk_Q G po) (sk_XC G xp) args s mc ms (sk_A G.2.2.1 s.heap.size)
set_option maxHeartbeats 1000000 in
/-- a contract out of the judgement at the entry -/
theorem Ctr.of {G : sk_G} {y : MethodName} {cc : ByteArray} {n : Nat} {ret : Option FieldType} {d mc ms : Nat} {args : List Value} {M : sk_M} {po : Option Value → sk_M → Prop} {xp : String → sk_M → Prop} (k : Nat) (hy : plainName y.cls = true) (hlen : (lg_sl args).length ≤ n)
    (h : TJ G (y, cc, n, ret, []) (sk_R d mc ms) (sk_K G mc ms po xp) 0 0 0 (sk_en args ++ List.replicate k none) [] M) : Ctr G (y, cc, n, ret, []) d mc ms args M po xp := by
  intro sz
  refine vx_ofW (cc := cc) (maxL := n) (ret := ret) hy rfl ?_
  intro p e s m args' below meth c s₁ B hml htab hv
  obtain ⟨rfl, hsz, hP, hK, hinj, hC⟩ := hv
  subst hsz
  have hts := atoms_spec (ws := sk_cw (y, cc, n, ret, []) :: sk_w) B.pre
  have hl := lv_entry args (n := n) hlen
  rw [lg_entry_eq]
  generalize (lg_sl args ++ List.replicate (n - (lg_sl args).length) Slot.unset).toArray = ls at hl ⊢
  exact h p e s m args.toArray below meth c s.heap [] ⟨B.exec, B.bytes, B.returns, hml, findClass_of_methodNamed B.named, fun w hw => hts w (List.mem_cons_of_mem _ hw), B.notSynchronized, List.eq_nil_iff_forall_not_mem.mpr htab, hK, hinj, hC⟩ hP va_S.rf ls ((sk_L.of hl).nones k)
