/-! a judgement over the whole world, and contracts -/
/-- a method: its name, code, locals, answer's type, handlers -/
abbrev sk_X : Type := MethodName × ByteArray × Nat × Option FieldType × List (Nat × Nat × Nat × Nat)
def sk_w : List Cond := lw_tbl.filter goodWord
theorem sk_w_in {w : Cond} (h : (decide (w ∈ lw_tbl) && goodWord w) = true) : w ∈ sk_w := by
  simp only [Bool.and_eq_true, decide_eq_true_eq] at h
  exact List.mem_filter.mpr ⟨h.1, h.2⟩
def sk_cw (X : sk_X) : Cond := .code X.1 X.2.1 X.2.2.1 X.2.2.2.1
def sk_St : List (String × Nat × String × Nat) := [("SafeKnown$BankReader", 57, "vault", 0), ("SafeKnownModel", 189, "vault", 0), ("SafeKnown$BankReader", 95, "worth", 1), ("SafeKnownModel", 152, "worth", 1), ("SafeKnown$BankReader", 113, "guard", 2), ("SafeKnownModel", 162, "guard", 2), ("SafeKnown$BankReader", 66, "person", 3), ("SafeKnownModel", 194, "person", 3), ("SafeKnown$BankReader", 77, "open", 4), ("SafeKnownModel", 199, "open", 4), ("SafeKnown$BankReader", 71, "never", 5), ("SafeKnownModel", 201, "never", 5), ("SafeKnown$BankReader", 118, "by", 6), ("SafeKnownModel", 187, "by", 6), ("SafeKnown$BankReader", 79, "change", 7), ("SafeKnownModel", 207, "change", 7), ("SafeKnown$LawReader", 63, "click", 8), ("SafeKnownModel", 258, "click", 8), ("SafeKnown$LawReader", 57, "mute", 9), ("SafeKnownModel", 260, "mute", 9), ("SafeKnown$LawReader", 77, "if", 10), ("SafeKnownModel", 262, "if", 10), ("SafeKnown$LawReader", 93, "not", 11), ("SafeKnownModel", 240, "not", 11), ("SafeKnown$LawReader", 100, "same", 12), ("SafeKnownModel", 230, "same", 12), ("SafeKnown$LawReader", 102, "next", 13), ("SafeKnownModel", 232, "next", 13), ("SafeKnown$LawReader", 123, "wheel", 14), ("SafeKnownModel", 215, "wheel", 14), ("SafeKnown$LawReader", 118, "told", 15), ("SafeKnownModel", 217, "told", 15), ("SafeKnown$LawReader", 120, "code", 16), ("SafeKnownModel", 219, "code", 16), ("SafeKnown$LawReader", 122, "apart", 17), ("SafeKnownModel", 221, "apart", 17), ("SafeKnown$LawReader", 89, "and", 18), ("SafeKnownModel", 251, "and", 18), ("SafeKnown$LawReader", 91, "or", 19), ("SafeKnownModel", 256, "or", 19), ("SafeKnown", 89, "the text is wrong", 20), ("SafeKnown", 99, "there are twelve texts", 21), ("SafeKnown", 366, "there is no such vault", 22), ("SafeKnown", 157, "there is no such thing of a vault", 23), ("SafeKnown", 368, "there is no such person", 24), ("SafeKnown", 372, "there is no such wheel", 25), ("SafeKnown", 190, "a wheel goes from 0 to 5", 26), ("SafeKnown", 370, "there is no such code", 27), ("SafeKnown", 204, "the vault is guarded today", 28), ("SafeKnown", 374, "both are one", 29), ("SafeKnown", 237, "a weekday is 0 to 6", 30), ("SafeKnown", 239, "days are 1 to 60", 31), ("SafeKnown", 300, "there is no such contract", 32), ("SafeKnown", 318, "there is no such thing of a contract", 33), ("SafeKnown", 326, "a row is 0 to 6 long", 34), ("SafeKnown", 376, "a trial is of 0 to 40 days", 35), ("SafeKnown", 347, "there is no such thing of a row", 36)]
def sk_SN : Nat := 37
def sk_Sl : List Nat := [5, 5, 5, 6, 4, 5, 2, 6, 5, 4, 2, 3, 4, 4, 5, 4, 4, 5, 3, 2, 17, 22, 22, 33, 23, 22, 24, 21, 26, 12, 19, 16, 25, 36, 20, 26, 31]
def sk_Sb : List (List Int32) := [[118, 97, 117, 108, 116], [119, 111, 114, 116, 104], [103, 117, 97, 114, 100], [112, 101, 114, 115, 111, 110], [111, 112, 101, 110], [110, 101, 118, 101, 114], [98, 121], [99, 104, 97, 110, 103, 101], [99, 108, 105, 99, 107], [109, 117, 116, 101], [105, 102], [110, 111, 116], [115, 97, 109, 101], [110, 101, 120, 116], [119, 104, 101, 101, 108], [116, 111, 108, 100], [99, 111, 100, 101], [97, 112, 97, 114, 116], [97, 110, 100], [111, 114], [116, 104, 101, 32, 116, 101, 120, 116, 32, 105, 115, 32, 119, 114, 111, 110, 103], [116, 104, 101, 114, 101, 32, 97, 114, 101, 32, 116, 119, 101, 108, 118, 101, 32, 116, 101, 120, 116, 115], [116, 104, 101, 114, 101, 32, 105, 115, 32, 110, 111, 32, 115, 117, 99, 104, 32, 118, 97, 117, 108, 116], [116, 104, 101, 114, 101, 32, 105, 115, 32, 110, 111, 32, 115, 117, 99, 104, 32, 116, 104, 105, 110, 103, 32, 111, 102, 32, 97, 32, 118, 97, 117, 108, 116], [116, 104, 101, 114, 101, 32, 105, 115, 32, 110, 111, 32, 115, 117, 99, 104, 32, 112, 101, 114, 115, 111, 110], [116, 104, 101, 114, 101, 32, 105, 115, 32, 110, 111, 32, 115, 117, 99, 104, 32, 119, 104, 101, 101, 108], [97, 32, 119, 104, 101, 101, 108, 32, 103, 111, 101, 115, 32, 102, 114, 111, 109, 32, 48, 32, 116, 111, 32, 53], [116, 104, 101, 114, 101, 32, 105, 115, 32, 110, 111, 32, 115, 117, 99, 104, 32, 99, 111, 100, 101], [116, 104, 101, 32, 118, 97, 117, 108, 116, 32, 105, 115, 32, 103, 117, 97, 114, 100, 101, 100, 32, 116, 111, 100, 97, 121], [98, 111, 116, 104, 32, 97, 114, 101, 32, 111, 110, 101], [97, 32, 119, 101, 101, 107, 100, 97, 121, 32, 105, 115, 32, 48, 32, 116, 111, 32, 54], [100, 97, 121, 115, 32, 97, 114, 101, 32, 49, 32, 116, 111, 32, 54, 48], [116, 104, 101, 114, 101, 32, 105, 115, 32, 110, 111, 32, 115, 117, 99, 104, 32, 99, 111, 110, 116, 114, 97, 99, 116], [116, 104, 101, 114, 101, 32, 105, 115, 32, 110, 111, 32, 115, 117, 99, 104, 32, 116, 104, 105, 110, 103, 32, 111, 102, 32, 97, 32, 99, 111, 110, 116, 114, 97, 99, 116], [97, 32, 114, 111, 119, 32, 105, 115, 32, 48, 32, 116, 111, 32, 54, 32, 108, 111, 110, 103], [97, 32, 116, 114, 105, 97, 108, 32, 105, 115, 32, 111, 102, 32, 48, 32, 116, 111, 32, 52, 48, 32, 100, 97, 121, 115], [116, 104, 101, 114, 101, 32, 105, 115, 32, 110, 111, 32, 115, 117, 99, 104, 32, 116, 104, 105, 110, 103, 32, 111, 102, 32, 97, 32, 114, 111, 119]]
def sk_Ex : List String := ["java/lang/IllegalArgumentException", "java/lang/UnsupportedOperationException", "java/lang/IndexOutOfBoundsException", "java/util/NoSuchElementException", "java/lang/IllegalStateException"]
def sk_Np : List (String × String) := [("java/lang/UnsupportedOperationException", "java/lang/IllegalArgumentException"), ("java/util/NoSuchElementException", "java/lang/IndexOutOfBoundsException"), ("java/lang/IllegalArgumentException", "java/lang/IndexOutOfBoundsException"), ("java/lang/IllegalStateException", "java/lang/IndexOutOfBoundsException")]
def sk_De : List MethodName := [⟨"java/lang/RuntimeException", "<init>", "(Ljava/lang/String;)V"⟩, ⟨"java/lang/Exception", "<init>", "(Ljava/lang/String;)V"⟩, ⟨"java/lang/Throwable", "<init>", "(Ljava/lang/String;)V"⟩]
/-- what is known of Strings and of Throwable's statics, outside of A -/
def sk_C (G : sk_G) (A : Nat → Prop) (U : State) (H : Heap) : Prop :=
  G.1.stackTraces = false ∧ vx_Zq Bundle.tN "UNASSIGNED_STACK" Bundle.steD A U H ∧ vx_Zq Bundle.tN "SUPPRESSED_SENTINEL" Bundle.listD A U H ∧ (va_Z "java/lang/String" "COMPACT_STRINGS" "Z" (.int 1) A U H ∧
    ∀ i : Nat, i < sk_SN → va_O "java/lang/String" (G.2.2.2.2.1 i) A U H ∧ va_OF "java/lang/String" "coder" "B" (.int 0) (G.2.2.2.2.1 i) A U H ∧ va_OF "java/lang/String" "value" "[B" (.ref (G.2.2.2.2.2 i)) (G.2.2.2.2.1 i) A U H ∧ va_T .byte (G.2.2.2.2.2 i) (sk_Sl.getD i 0) (fun j => .int ((sk_Sb.getD i []).getD j 0)) A U H) ∧
  (∀ q ∈ sk_St, vk_R q.1 q.2.1 q.2.2.1 (G.2.2.2.2.1 q.2.2.2) U) ∧ (∀ q ∈ sk_Ex, va_Nw (.castable q q) U) ∧ (∀ q ∈ sk_Np, va_Nc q.1 q.2 U) ∧ va_Zq "jdk/internal/util/Preconditions" "SIOOBE_FORMATTER" "Ljava/util/function/BiFunction;" A U H ∧ ∀ q ∈ sk_De, va_Nw (.declares q) U
theorem sk_C.kept {G : sk_G} {A : Nat → Prop} {U : State} {H H1 : Heap} (h : sk_C G A U H) (hq : ∀ a : Nat, a < H.size → ¬ A a → H1[a]? = H[a]?) : sk_C G A U H1 :=
  ⟨h.1, h.2.1.kept hq, h.2.2.1.kept hq, ⟨h.2.2.2.1.1.kept hq, fun i hi => ⟨(h.2.2.2.1.2 i hi).1.kept hq, (h.2.2.2.1.2 i hi).2.1.kept hq, (h.2.2.2.1.2 i hi).2.2.1.kept hq, (h.2.2.2.1.2 i hi).2.2.2.kept hq⟩⟩, h.2.2.2.2.1, h.2.2.2.2.2.1, h.2.2.2.2.2.2.1, va_Zq.kept h.2.2.2.2.2.2.2.1 hq, h.2.2.2.2.2.2.2.2⟩
theorem sk_C.moved {G : sk_G} {A : Nat → Prop} {u U : State} {H : Heap} (hvm : u.WarmedH U.vm) (h : sk_C G A u H) : sk_C G A U H :=
  ⟨h.1, h.2.1.moved hvm.alike, h.2.2.1.moved hvm.alike, ⟨h.2.2.2.1.1.moved hvm.alike, fun i hi => ⟨va_O.moved hvm.alike (h.2.2.2.1.2 i hi).1, va_OF.moved hvm.alike (h.2.2.2.1.2 i hi).2.1, va_OF.moved hvm.alike (h.2.2.2.1.2 i hi).2.2.1, va_T.moved hvm.alike (h.2.2.2.1.2 i hi).2.2.2⟩⟩, fun q hq => (h.2.2.2.2.1 q hq).warm hvm, fun q hq => va_Nw.warmC hvm (h.2.2.2.2.2.1 q hq), fun q hq => va_Nc.moved hvm.alike (h.2.2.2.2.2.2.1 q hq), va_Zq.moved hvm.alike h.2.2.2.2.2.2.2.1, fun q hq => va_Nw.warmD hvm (h.2.2.2.2.2.2.2.2 q hq)⟩
theorem sk_C.same {G : sk_G} {A : Nat → Prop} {u U : State} {H : Heap} (hvm : U.vm = u.vm) (h : sk_C G A u H) : sk_C G A U H := by
  have ha : u.vm.Alike U.vm := by rw [hvm]; exact Vm.Alike.refl _
  exact ⟨h.1, h.2.1.moved ha, h.2.2.1.moved ha, ⟨h.2.2.2.1.1.moved ha, fun i hi => ⟨va_O.moved ha (h.2.2.2.1.2 i hi).1, va_OF.moved ha (h.2.2.2.1.2 i hi).2.1, va_OF.moved ha (h.2.2.2.1.2 i hi).2.2.1, va_T.moved ha (h.2.2.2.1.2 i hi).2.2.2⟩⟩, fun q hq => vk_R.same hvm (h.2.2.2.2.1 q hq), fun q hq => va_tabs rfl hvm.symm (h.2.2.2.2.2.1 q hq), fun q hq => va_Nc.moved ha (h.2.2.2.2.2.2.1 q hq), va_Zq.moved ha h.2.2.2.2.2.2.2.1, fun q hq => va_tabs rfl hvm.symm (h.2.2.2.2.2.2.2.2 q hq)⟩
theorem sk_C.narrow {G : sk_G} {A B : Nat → Prop} {U : State} {H : Heap} (h : sk_C G A U H) (hAB : ∀ q, B q → A q) : sk_C G B U H :=
  ⟨h.1, h.2.1.narrow hAB, h.2.2.1.narrow hAB, ⟨h.2.2.2.1.1.narrow hAB, fun i hi => ⟨(h.2.2.2.1.2 i hi).1.narrow hAB, (h.2.2.2.1.2 i hi).2.1.narrow hAB, (h.2.2.2.1.2 i hi).2.2.1.narrow hAB, (h.2.2.2.1.2 i hi).2.2.2.narrow hAB⟩⟩, h.2.2.2.2.1, h.2.2.2.2.2.1, h.2.2.2.2.2.2.1, va_Zq.narrow h.2.2.2.2.2.2.2.1 hAB, h.2.2.2.2.2.2.2.2⟩
def sk_R (d mc ms : Nat) : Room := { frames := d, cells := mc, slots := ms, locals := 64 * d }
def sk_P (G : sk_G) (M : sk_M) (sz : Nat) (args : List Value) : Array Value → State → Prop := va_Pc args fun U => U.heap.size = sz ∧ va_P G.2.1 vwCl (sk_ws G.2.2.1 G.2.2.2.1 M) U.heap ∧ va_K G.2.1 vwCl (sk_tys G.2.2.2.1) U ∧ sk_inj G.2.2.1 ∧ sk_C G (sk_A G.2.2.1 sz) U U.heap
def sk_Q (G : sk_G) (po : Option Value → sk_M → Prop) : Array Value → State → Outcome → State → Prop := fun _ st o t => (∃ (v : Option Value) (M : sk_M), o = .returned v ∧ po v M ∧ va_P G.2.1 vwCl (sk_ws G.2.2.1 G.2.2.2.1 M) t.heap) ∧ va_F (sk_A G.2.2.1 st.heap.size) st t
def sk_XC (G : sk_G) (xp : String → sk_M → Prop) : String → State → State → Prop := fun E st t => (∃ M : sk_M, xp E M ∧ va_P G.2.1 vwCl (sk_ws G.2.2.1 G.2.2.2.1 M) t.heap) ∧ va_F (sk_A G.2.2.1 st.heap.size) st t
/-- a contract: from the memory M, with these arguments, the method returns as po says, or throws as xp says -/
def Ctr (G : sk_G) (X : sk_X) (d mc ms : Nat) (args : List Value) (M : sk_M) (po : Option Value → sk_M → Prop) (xp : String → sk_M → Prop) : Prop :=
  ∀ sz : Nat, vx_Met G.1 X.1 (sk_cw X :: sk_w) (sk_R d mc ms) (sk_P G M sz args) (sk_Q G po) (sk_XC G xp) mc ms (sk_A G.2.2.1 sz)
/-- the locals: what stands in place i, or nothing is said -/
def sk_L (ls : Array Slot) (n : Nat) (xs : List (Option Value)) : Prop := ls.size = n ∧ lv_wf ls ∧ ∀ (i : Nat) (v : Value), xs[i]? = some (some v) → ls[i]? = some (.val v)
def sk_cx (G : sk_G) (X : sk_X) (p : Program) (s : State) (m : MethodId) (args : Array Value) (meth : Method) (c : Code) : Prop :=
  p.tables.exec = Jvm.exec ∧ c.code = X.2.1 ∧ meth.sig.returnType = X.2.2.2.1 ∧ c.maxLocals = X.2.2.1 ∧ s.vm.findClass X.1.cls = some m.cls ∧ (∀ w ∈ sk_w, w.before args s = true) ∧ meth.locks = false ∧ c.exceptionTable.toList = tableOf X.2.2.2.2 ∧
  va_K G.2.1 vwCl (sk_tys G.2.2.2.1) s ∧ sk_inj G.2.2.1 ∧ sk_C G (sk_A G.2.2.1 s.heap.size) s s.heap
abbrev sk_E : Type := List Frame → Array Value → State → State → Prop
/-- the judgement: at pc, with these locals, this stack, this memory, the machine comes to its end E -/
def TJ (G : sk_G) (X : sk_X) (R : Room) (E : sk_E) (cells slots pc : Nat) (xs : List (Option Value)) (st : List Value) (M : sk_M) : Prop :=
  ∀ (p : Program) (e : Env) (s : State) (m : MethodId) (args : Array Value) (below : List Frame) (meth : Method) (c : Code) (H : Heap) (locs : List Loc), sk_cx G X p s m args meth c →
    va_P G.2.1 vwCl (sk_ws G.2.2.1 G.2.2.2.1 M) H → va_S (sk_A G.2.2.1 s.heap.size) s.heap H locs → ∀ ls : Array Slot, sk_L ls X.2.2.1 xs →
    W p G.1 e R s m args below meth c H locs cells slots (E below args s) (F0 m pc ls st)
/-- the end of a method with a contract -/
def sk_K (G : sk_G) (mc ms : Nat) (po : Option Value → sk_M → Prop) (xp : String → sk_M → Prop) : sk_E := fun below args s => vx_MQ below (sk_Q G po) (sk_XC G xp) args s mc ms (sk_A G.2.2.1 s.heap.size)
/-- the locals at the entry -/
def sk_en : List Value → List (Option Value)
  | [] => []
  | .long x :: r => some (.long x) :: none :: sk_en r
  | .double x :: r => some (.double x) :: none :: sk_en r
  | v :: r => some v :: sk_en r
theorem sk_en_args (vs : List Value) : ∀ (k i : Nat) (v : Value), (sk_en vs)[i]? = some (some v) → (k + i, v) ∈ lv_args k vs := by
  induction vs with
  | nil => intro k i v h; simp [sk_en] at h
  | cons a r ih =>
    intro k i v h
    cases a with
    | long x =>
      match i with
      | 0 => simp [sk_en] at h; subst h; simp [lv_args]
      | 1 => simp [sk_en] at h
      | i + 2 =>
        simp only [sk_en, List.getElem?_cons_succ] at h
        have h2 := ih (k + 2) i v h
        rw [show k + (i + 2) = k + 2 + i by omega]
        simp only [lv_args, Value.category, List.mem_cons]
        exact Or.inr h2
    | double x =>
      match i with
      | 0 => simp [sk_en] at h; subst h; simp [lv_args]
      | 1 => simp [sk_en] at h
      | i + 2 =>
        simp only [sk_en, List.getElem?_cons_succ] at h
        have h2 := ih (k + 2) i v h
        rw [show k + (i + 2) = k + 2 + i by omega]
        simp only [lv_args, Value.category, List.mem_cons]
        exact Or.inr h2
    | _ =>
      match i with
      | 0 => simp [sk_en] at h; subst h; simp [lv_args]
      | i + 1 =>
        simp only [sk_en, List.getElem?_cons_succ] at h
        have h2 := ih (k + 1) i v h
        rw [show k + (i + 1) = k + 1 + i by omega]
        simp only [lv_args, Value.category, List.mem_cons]
        exact Or.inr h2
theorem sk_L.of {ls : Array Slot} {n : Nat} {vs : List Value} (h : lv_has ls n (lv_args 0 vs)) : sk_L ls n (sk_en vs) :=
  ⟨h.1, h.2.1, fun i v hi => h.2.2 (i, v) (by have := sk_en_args vs 0 i v hi; rwa [Nat.zero_add] at this)⟩
theorem sk_L.nones {ls : Array Slot} {n : Nat} {xs : List (Option Value)} (h : sk_L ls n xs) (k : Nat) : sk_L ls n (xs ++ List.replicate k none) := by
  refine ⟨h.1, h.2.1, fun i v hi => h.2.2 i v ?_⟩
  by_cases q : i < xs.length
  · rwa [List.getElem?_append_left q] at hi
  · rw [List.getElem?_append_right (by omega)] at hi
    by_cases q2 : i - xs.length < k
    · simp [List.getElem?_replicate, q2] at hi
    · simp [List.getElem?_replicate, q2] at hi
set_option maxHeartbeats 1000000 in
/-- a contract out of the judgement at the entry -/
theorem Ctr.of {G : sk_G} {y : MethodName} {cc : ByteArray} {n : Nat} {ret : Option FieldType} {d mc ms : Nat} {args : List Value} {M : sk_M} {po : Option Value → sk_M → Prop} {xp : String → sk_M → Prop} (k : Nat) (hy : plainName y.cls = true) (hlen : (lg_sl args).length ≤ n)
    (h : TJ G (y, cc, n, ret, []) (sk_R d mc ms) (sk_K G mc ms po xp) 0 0 0 (sk_en args ++ List.replicate k none) [] M) : Ctr G (y, cc, n, ret, []) d mc ms args M po xp := by
  intro sz
  refine vx_ofW (cc := cc) (maxL := n) (ret := ret) hy rfl ?_
  intro p e s m args' below meth c s₁ B hml htab hv
  obtain ⟨rfl, hsz, hP, hK, hinj, hC⟩ := hv
  subst hsz
  have hts := atoms_spec (ws := sk_cw (y, cc, n, ret, []) :: sk_w) B.pre
  have hl := lv_entry args (n := n) hlen
  rw [lg_entry_eq]
  generalize (lg_sl args ++ List.replicate (n - (lg_sl args).length) Slot.unset).toArray = ls at hl ⊢
  exact h p e s m args.toArray below meth c s.heap [] ⟨B.exec, B.bytes, B.returns, hml, findClass_of_methodNamed B.named, fun w hw => hts w (List.mem_cons_of_mem _ hw), B.notSynchronized, List.eq_nil_iff_forall_not_mem.mpr htab, hK, hinj, hC⟩ hP va_S.rf ls ((sk_L.of hl).nones k)
