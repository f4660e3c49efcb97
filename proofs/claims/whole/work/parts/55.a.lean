/-! constructors: a judgement over a world told as a list -/
abbrev sw_Z : Type := Launch × va_G × (Nat → ClassId) × (Nat → Prop)
def sw_A (Z : sw_Z) (sz : Nat) : Nat → Prop := fun q => Z.2.2.2 q ∨ sz ≤ q
def sw_cx (Z : sw_Z) (X : sk_X) (p : Program) (s : State) (m : MethodId) (args : Array Value) (meth : Method) (c : Code) : Prop :=
  p.tables.exec = Jvm.exec ∧ c.code = X.2.1 ∧ meth.sig.returnType = X.2.2.2.1 ∧ c.maxLocals = X.2.2.1 ∧ s.vm.findClass X.1.cls = some m.cls ∧ (∀ w ∈ sk_w, w.before args s = true) ∧ meth.locks = false ∧ va_K Z.2.1 vwCl (sk_tys Z.2.2.1) s ∧ meth.name = X.1.name ∧ va_AO "SafeKnown$State" s ∧ c.exceptionTable.toList = tableOf X.2.2.2.2
def TW (Z : sw_Z) (X : sk_X) (R : Room) (E : sk_E) (cells slots pc : Nat) (xs : List (Option Value)) (st : List Value) (M : va_W) : Prop :=
  ∀ (p : Program) (e : Env) (s : State) (m : MethodId) (args : Array Value) (below : List Frame) (meth : Method) (c : Code) (H : Heap) (locs : List Loc), sw_cx Z X p s m args meth c →
    (va_P Z.2.1 vwCl M H ∧ va_D (sw_A Z s.heap.size) M) → va_S (sw_A Z s.heap.size) s.heap H locs → ∀ ls : Array Slot, sk_L ls X.2.2.1 xs →
    W p Z.1 e R s m args below meth c H locs cells slots (E below args s) (F0 m pc ls st)
def sw_P (Z : sw_Z) (M : va_W) (sz : Nat) (args : List Value) : Array Value → State → Prop := va_Pc args fun U => U.heap.size = sz ∧ va_P Z.2.1 vwCl M U.heap ∧ va_D (sw_A Z sz) M ∧ va_K Z.2.1 vwCl (sk_tys Z.2.2.1) U ∧ va_AO "SafeKnown$State" U
def sw_Q (Z : sw_Z) (po : va_W → Prop) : Array Value → State → Outcome → State → Prop := fun _ st o t => (o = .returned none ∧ ∃ M, po M ∧ va_P Z.2.1 vwCl M t.heap ∧ va_D (sw_A Z st.heap.size) M) ∧ va_F (sw_A Z st.heap.size) st t
/-- a constructor's contract: from the world M to one of which po holds -/
def CtrI (Z : sw_Z) (X : sk_X) (d mc ms : Nat) (args : List Value) (M : va_W) (po : va_W → Prop) : Prop :=
  ∀ sz : Nat, Met Z.1 X.1 (sk_cw X :: sk_w) (sk_R d mc ms) (sw_P Z M sz args) (sw_Q Z po) mc ms (sw_A Z sz)
def sw_K (Z : sw_Z) (mc ms : Nat) (po : va_W → Prop) : sk_E := fun below args s => MQ below (sw_Q Z po) args s mc ms (sw_A Z s.heap.size)
set_option maxHeartbeats 1000000 in
theorem CtrI.of {Z : sw_Z} {y : MethodName} {cc : ByteArray} {n : Nat} {ret : Option FieldType} {d mc ms : Nat} {args : List Value} {M : va_W} {po : va_W → Prop} (k : Nat) (hy : plainName y.cls = true) (hlen : (lg_sl args).length ≤ n)
    (h : TW Z (y, cc, n, ret, []) (sk_R d mc ms) (sw_K Z mc ms po) 0 0 0 (sk_en args ++ List.replicate k none) [] M) : CtrI Z (y, cc, n, ret, []) d mc ms args M po := by
  intro sz
  refine Met.ofW (cc := cc) (maxL := n) (ret := ret) hy rfl ?_
  intro p e s m args' below meth c s₁ B hml hv
  obtain ⟨rfl, hsz, hP, hD, hK, hO⟩ := hv
  subst hsz
  have hts := atoms_spec (ws := sk_cw (y, cc, n, ret, []) :: sk_w) B.pre
  have hl := lv_entry args (n := n) hlen
  rw [lg_entry_eq]
  generalize (lg_sl args ++ List.replicate (n - (lg_sl args).length) Slot.unset).toArray = ls at hl ⊢
  have ht : c.exceptionTable.toList = [] := by
    obtain ⟨meth9, c9, h1, h2, -, -, -, -, h7, -⟩ := Cond.code_spec B.named (hts _ List.mem_cons_self)
    cases Option.some.inj (h1.symm.trans B.method)
    cases Option.some.inj (h2.symm.trans (Stand.of_body B).code)
    rw [Array.isEmpty_iff.mp h7]
  exact h p e s m args.toArray below meth c s.heap [] ⟨B.exec, B.bytes, B.returns, hml, findClass_of_methodNamed B.named, fun w hw => hts w (List.mem_cons_of_mem _ hw), B.notSynchronized, hK, (name_of_methodNamed B.named B.method).1, hO, ht⟩ ⟨hP, hD⟩ va_S.rf ls ((sk_L.of hl).nones k)
section SKW
variable {Z : sw_Z} {X : sk_X} {R : Room} {E : sk_E} {cells slots pc q : Nat} {xs : List (Option Value)} {st : List Value} {M : va_W}
theorem TW.wide {k n : Nat} (h1 : cells ≤ k) (h2 : slots ≤ n) (h : TW Z X R E k n pc xs st M) : TW Z X R E cells slots pc xs st M := fun p e s m args below meth c H locs hcx hP hS ls hl => W.widen h1 h2 (h p e s m args below meth c H locs hcx hP hS ls hl)
theorem U.iadd {x y : Int32} (d : decode X.2.1 pc = .ok (.iadd, 1)) (hq : pc + 1 = q)  (k : TW Z X R E cells slots q xs (.int (x + y) :: st) M) : TW Z X R E cells slots pc xs (.int y :: .int x :: st) M := by
  subst hq
  exact fun p e s m args below meth c H locs hcx hP hS ls hl => lv_iadd hcx.1 hcx.2.1 d (k p e s m args below meth c H locs hcx hP hS ls hl)
theorem U.isub {x y : Int32} (d : decode X.2.1 pc = .ok (.isub, 1)) (hq : pc + 1 = q)  (k : TW Z X R E cells slots q xs (.int (x - y) :: st) M) : TW Z X R E cells slots pc xs (.int y :: .int x :: st) M := by
  subst hq
  exact fun p e s m args below meth c H locs hcx hP hS ls hl => lv_isub hcx.1 hcx.2.1 d (k p e s m args below meth c H locs hcx hP hS ls hl)
theorem U.idiv {x y : Int32} (d : decode X.2.1 pc = .ok (.idiv, 1)) (hq : pc + 1 = q) (hne : ¬ y = 0) (k : TW Z X R E cells slots q xs (.int (x / y) :: st) M) : TW Z X R E cells slots pc xs (.int y :: .int x :: st) M := by
  subst hq
  exact fun p e s m args below meth c H locs hcx hP hS ls hl => lv_idiv hcx.1 hcx.2.1 d hne (k p e s m args below meth c H locs hcx hP hS ls hl)
theorem U.irem {x y : Int32} (d : decode X.2.1 pc = .ok (.irem, 1)) (hq : pc + 1 = q) (hne : ¬ y = 0) (k : TW Z X R E cells slots q xs (.int (x - x / y * y) :: st) M) : TW Z X R E cells slots pc xs (.int y :: .int x :: st) M := by
  subst hq
  exact fun p e s m args below meth c H locs hcx hP hS ls hl => lv_irem hcx.1 hcx.2.1 d hne (k p e s m args below meth c H locs hcx hP hS ls hl)
theorem U.iconst {n : Int} (v : Int32) (d : decode X.2.1 pc = .ok (.iconst n, 1)) (hq : pc + 1 = q) (hv : Int32.ofInt n = v) (k : TW Z X R E cells slots q xs (.int v :: st) M) : TW Z X R E cells slots pc xs st M := by
  subst hq
  exact fun p e s m args below meth c H locs hcx hP hS ls hl => lv_iconst hcx.1 hcx.2.1 d hv (k p e s m args below meth c H locs hcx hP hS ls hl)
theorem U.bipush {n : Int} (v : Int32) (d : decode X.2.1 pc = .ok (.bipush n, 2)) (hq : pc + 2 = q) (hv : (Int8.ofInt n).toInt32 = v) (k : TW Z X R E cells slots q xs (.int v :: st) M) : TW Z X R E cells slots pc xs st M := by
  subst hq
  exact fun p e s m args below meth c H locs hcx hP hS ls hl => lv_bipush hcx.1 hcx.2.1 d hv (k p e s m args below meth c H locs hcx hP hS ls hl)
theorem U.sipush {n : Int} (v : Int32) (d : decode X.2.1 pc = .ok (.sipush n, 3)) (hq : pc + 3 = q) (hv : (Int16.ofInt n).toInt32 = v) (k : TW Z X R E cells slots q xs (.int v :: st) M) : TW Z X R E cells slots pc xs st M := by
  subst hq
  exact fun p e s m args below meth c H locs hcx hP hS ls hl => lv_sipush hcx.1 hcx.2.1 d hv (k p e s m args below meth c H locs hcx hP hS ls hl)
theorem U.lconst {n : Fin 2} (v : Int64) (d : decode X.2.1 pc = .ok (.lconst n, 1)) (hq : pc + 1 = q) (hv : Int64.ofNat (n : Nat) = v) (k : TW Z X R E cells slots q xs (.long v :: st) M) : TW Z X R E cells slots pc xs st M := by
  subst hq
  exact fun p e s m args below meth c H locs hcx hP hS ls hl => lv_lconst hcx.1 hcx.2.1 d hv (k p e s m args below meth c H locs hcx hP hS ls hl)
theorem U.ldc2 {i : Nat} (v : Int64) (d : decode X.2.1 pc = .ok (.ldc2_w i, 3)) (hq : pc + 3 = q) (hw : (decide (Cond.constantLong X.1.cls i v ∈ lw_tbl) && goodWord (Cond.constantLong X.1.cls i v)) = true) (k : TW Z X R E cells slots q xs (.long v :: st) M) : TW Z X R E cells slots pc xs st M := by
  subst hq
  exact fun p e s m args below meth c H locs hcx hP hS ls hl => lv_ldc2 hcx.1 hcx.2.1 hcx.2.2.2.2.1 (hcx.2.2.2.2.2.1 _ (sk_w_in hw)) d (k p e s m args below meth c H locs hcx hP hS ls hl)
theorem U.dup {v : Value} (d : decode X.2.1 pc = .ok (.dup, 1)) (hq : pc + 1 = q) (hv : v.category = 1) (k : TW Z X R E cells slots q xs (v :: v :: st) M) : TW Z X R E cells slots pc xs (v :: st) M := by
  subst hq
  exact fun p e s m args below meth c H locs hcx hP hS ls hl => lv_dup hcx.1 hcx.2.1 d hv (k p e s m args below meth c H locs hcx hP hS ls hl)
theorem U.pop {v : Value} (d : decode X.2.1 pc = .ok (.pop, 1)) (hq : pc + 1 = q) (hv : v.category = 1) (k : TW Z X R E cells slots q xs st M) : TW Z X R E cells slots pc xs (v :: st) M := by
  subst hq
  exact fun p e s m args below meth c H locs hcx hP hS ls hl => lv_pop hcx.1 hcx.2.1 d hv (k p e s m args below meth c H locs hcx hP hS ls hl)
theorem U.if_eq {x : Int32} {off : Int} {tgt : Nat} (d : decode X.2.1 pc = .ok (.ifCond .eq off, 3)) (ht : (pc : Int) + off = (tgt : Int)) (hq : pc + 3 = q) (kt : x = 0 → TW Z X R E cells slots tgt xs st M) (kf : ¬ x = 0 → TW Z X R E cells slots q xs st M) : TW Z X R E cells slots pc xs (.int x :: st) M := by
  subst hq
  exact fun p e s m args below meth c H locs hcx hP hS ls hl => lv_if_eq hcx.1 hcx.2.1 d ht (fun h9 => kt h9 p e s m args below meth c H locs hcx hP hS ls hl) (fun h9 => kf h9 p e s m args below meth c H locs hcx hP hS ls hl)
theorem U.if_ne {x : Int32} {off : Int} {tgt : Nat} (d : decode X.2.1 pc = .ok (.ifCond .ne off, 3)) (ht : (pc : Int) + off = (tgt : Int)) (hq : pc + 3 = q) (kt : ¬ x = 0 → TW Z X R E cells slots tgt xs st M) (kf : x = 0 → TW Z X R E cells slots q xs st M) : TW Z X R E cells slots pc xs (.int x :: st) M := by
  subst hq
  exact fun p e s m args below meth c H locs hcx hP hS ls hl => lv_if_ne hcx.1 hcx.2.1 d ht (fun h9 => kt h9 p e s m args below meth c H locs hcx hP hS ls hl) (fun h9 => kf h9 p e s m args below meth c H locs hcx hP hS ls hl)
theorem U.ic_eq {x y : Int32} {off : Int} {tgt : Nat} (d : decode X.2.1 pc = .ok (.if_icmp .eq off, 3)) (ht : (pc : Int) + off = (tgt : Int)) (hq : pc + 3 = q) (kt : x = y → TW Z X R E cells slots tgt xs st M) (kf : ¬ x = y → TW Z X R E cells slots q xs st M) : TW Z X R E cells slots pc xs (.int y :: .int x :: st) M := by
  subst hq
  exact fun p e s m args below meth c H locs hcx hP hS ls hl => lv_icmp_eq hcx.1 hcx.2.1 d ht (fun h9 => kt h9 p e s m args below meth c H locs hcx hP hS ls hl) (fun h9 => kf h9 p e s m args below meth c H locs hcx hP hS ls hl)
theorem U.ic_ne {x y : Int32} {off : Int} {tgt : Nat} (d : decode X.2.1 pc = .ok (.if_icmp .ne off, 3)) (ht : (pc : Int) + off = (tgt : Int)) (hq : pc + 3 = q) (kt : ¬ x = y → TW Z X R E cells slots tgt xs st M) (kf : x = y → TW Z X R E cells slots q xs st M) : TW Z X R E cells slots pc xs (.int y :: .int x :: st) M := by
  subst hq
  exact fun p e s m args below meth c H locs hcx hP hS ls hl => lv_icmp_ne hcx.1 hcx.2.1 d ht (fun h9 => kt h9 p e s m args below meth c H locs hcx hP hS ls hl) (fun h9 => kf h9 p e s m args below meth c H locs hcx hP hS ls hl)
theorem U.ic_ge {x y : Int32} {off : Int} {tgt : Nat} (d : decode X.2.1 pc = .ok (.if_icmp .ge off, 3)) (ht : (pc : Int) + off = (tgt : Int)) (hq : pc + 3 = q) (kt : y ≤ x → TW Z X R E cells slots tgt xs st M) (kf : ¬ y ≤ x → TW Z X R E cells slots q xs st M) : TW Z X R E cells slots pc xs (.int y :: .int x :: st) M := by
  subst hq
  exact fun p e s m args below meth c H locs hcx hP hS ls hl => lv_icmp_ge hcx.1 hcx.2.1 d ht (fun h9 => kt h9 p e s m args below meth c H locs hcx hP hS ls hl) (fun h9 => kf h9 p e s m args below meth c H locs hcx hP hS ls hl)
theorem U.ic_gt {x y : Int32} {off : Int} {tgt : Nat} (d : decode X.2.1 pc = .ok (.if_icmp .gt off, 3)) (ht : (pc : Int) + off = (tgt : Int)) (hq : pc + 3 = q) (kt : y < x → TW Z X R E cells slots tgt xs st M) (kf : ¬ y < x → TW Z X R E cells slots q xs st M) : TW Z X R E cells slots pc xs (.int y :: .int x :: st) M := by
  subst hq
  exact fun p e s m args below meth c H locs hcx hP hS ls hl => lv_icmp_gt hcx.1 hcx.2.1 d ht (fun h9 => kt h9 p e s m args below meth c H locs hcx hP hS ls hl) (fun h9 => kf h9 p e s m args below meth c H locs hcx hP hS ls hl)
theorem U.goto {off : Int} {tgt : Nat} (d : decode X.2.1 pc = .ok (.goto off, 3)) (ht : (pc : Int) + off = (tgt : Int)) (k : TW Z X R E cells slots tgt xs st M) : TW Z X R E cells slots pc xs st M := fun p e s m args below meth c H locs hcx hP hS ls hl => lv_goto hcx.1 hcx.2.1 d ht (k p e s m args below meth c H locs hcx hP hS ls hl)
theorem U.ild_0 {r : List (Option Value)} {x : Int32} (d : decode X.2.1 pc = .ok (.iload_n 0, 1)) (hq : pc + 1 = q) (k : TW Z X R E cells slots q (some (.int x) :: r) (.int x :: st) M) : TW Z X R E cells slots pc (some (.int x) :: r) st M := by
  subst hq
  exact fun p e s m args below meth c H locs hcx hP hS ls hl => lv_iload_n hcx.1 hcx.2.1 d rfl (hl.get rfl) (k p e s m args below meth c H locs hcx hP hS ls hl)
theorem U.ald_0 {r : List (Option Value)} {x : Nat} (d : decode X.2.1 pc = .ok (.aload_n 0, 1)) (hq : pc + 1 = q) (k : TW Z X R E cells slots q (some (.ref x) :: r) (.ref x :: st) M) : TW Z X R E cells slots pc (some (.ref x) :: r) st M := by
  subst hq
  exact fun p e s m args below meth c H locs hcx hP hS ls hl => lv_aload_n hcx.1 hcx.2.1 d rfl (hl.get rfl) (k p e s m args below meth c H locs hcx hP hS ls hl)
theorem U.ild_1 {a0 : Option Value} {r : List (Option Value)} {x : Int32} (d : decode X.2.1 pc = .ok (.iload_n 1, 1)) (hq : pc + 1 = q) (k : TW Z X R E cells slots q (a0 :: some (.int x) :: r) (.int x :: st) M) : TW Z X R E cells slots pc (a0 :: some (.int x) :: r) st M := by
  subst hq
  exact fun p e s m args below meth c H locs hcx hP hS ls hl => lv_iload_n hcx.1 hcx.2.1 d rfl (hl.get rfl) (k p e s m args below meth c H locs hcx hP hS ls hl)
theorem U.ald_1 {a0 : Option Value} {r : List (Option Value)} {x : Nat} (d : decode X.2.1 pc = .ok (.aload_n 1, 1)) (hq : pc + 1 = q) (k : TW Z X R E cells slots q (a0 :: some (.ref x) :: r) (.ref x :: st) M) : TW Z X R E cells slots pc (a0 :: some (.ref x) :: r) st M := by
  subst hq
  exact fun p e s m args below meth c H locs hcx hP hS ls hl => lv_aload_n hcx.1 hcx.2.1 d rfl (hl.get rfl) (k p e s m args below meth c H locs hcx hP hS ls hl)
theorem U.ald_2 {a0 a1 : Option Value} {r : List (Option Value)} {x : Nat} (d : decode X.2.1 pc = .ok (.aload_n 2, 1)) (hq : pc + 1 = q) (k : TW Z X R E cells slots q (a0 :: a1 :: some (.ref x) :: r) (.ref x :: st) M) : TW Z X R E cells slots pc (a0 :: a1 :: some (.ref x) :: r) st M := by
  subst hq
  exact fun p e s m args below meth c H locs hcx hP hS ls hl => lv_aload_n hcx.1 hcx.2.1 d rfl (hl.get rfl) (k p e s m args below meth c H locs hcx hP hS ls hl)
theorem U.ald_3 {a0 a1 a2 : Option Value} {r : List (Option Value)} {x : Nat} (d : decode X.2.1 pc = .ok (.aload_n 3, 1)) (hq : pc + 1 = q) (k : TW Z X R E cells slots q (a0 :: a1 :: a2 :: some (.ref x) :: r) (.ref x :: st) M) : TW Z X R E cells slots pc (a0 :: a1 :: a2 :: some (.ref x) :: r) st M := by
  subst hq
  exact fun p e s m args below meth c H locs hcx hP hS ls hl => lv_aload_n hcx.1 hcx.2.1 d rfl (hl.get rfl) (k p e s m args below meth c H locs hcx hP hS ls hl)
theorem U.ast_0 {a0 : Option Value} {r : List (Option Value)} {x : Nat} (d : decode X.2.1 pc = .ok (.astore_n 0, 1)) (hq : pc + 1 = q) (hn : 0 < X.2.2.1) (k : TW Z X R E cells slots q (some (.ref x) :: r) st M) : TW Z X R E cells slots pc (a0 :: r) (.ref x :: st) M := by
  subst hq
  exact fun p e s m args below meth c H locs hcx hP hS ls hl => lv_astore_n hcx.1 hcx.2.1 d rfl hl.has hn rfl (fun ls9 h9 => k p e s m args below meth c H locs hcx hP hS ls9 (sk_L.st1 h9 (fun j hj => absurd hj (Nat.succ_ne_zero j))))
theorem U.ist_1 {a0 a1 : Option Value} {r : List (Option Value)} {x : Int32} (d : decode X.2.1 pc = .ok (.istore_n 1, 1)) (hq : pc + 1 = q) (hn : 1 < X.2.2.1) (hp : sk_ok1 a0) (k : TW Z X R E cells slots q (a0 :: some (.int x) :: r) st M) : TW Z X R E cells slots pc (a0 :: a1 :: r) (.int x :: st) M := by
  subst hq
  exact fun p e s m args below meth c H locs hcx hP hS ls hl => lv_istore_n hcx.1 hcx.2.1 d rfl hl.has hn rfl (fun ls9 h9 => k p e s m args below meth c H locs hcx hP hS ls9 (sk_L.st1 h9 (sk_hp (k := 0) rfl rfl hp)))
theorem U.ast_1 {a0 a1 : Option Value} {r : List (Option Value)} {x : Nat} (d : decode X.2.1 pc = .ok (.astore_n 1, 1)) (hq : pc + 1 = q) (hn : 1 < X.2.2.1) (hp : sk_ok1 a0) (k : TW Z X R E cells slots q (a0 :: some (.ref x) :: r) st M) : TW Z X R E cells slots pc (a0 :: a1 :: r) (.ref x :: st) M := by
  subst hq
  exact fun p e s m args below meth c H locs hcx hP hS ls hl => lv_astore_n hcx.1 hcx.2.1 d rfl hl.has hn rfl (fun ls9 h9 => k p e s m args below meth c H locs hcx hP hS ls9 (sk_L.st1 h9 (sk_hp (k := 0) rfl rfl hp)))
theorem U.inc_1 {a0 : Option Value} {r : List (Option Value)} {x : Int32} {n : Int} (v : Int32) (d : decode X.2.1 pc = .ok (.iinc 1 n, 3)) (hq : pc + 3 = q) (hv : Int32.ofInt n = v) (hn : 1 < X.2.2.1) (hp : sk_ok1 a0) (k : TW Z X R E cells slots q (a0 :: some (.int (x + v)) :: r) st M) : TW Z X R E cells slots pc (a0 :: some (.int x) :: r) st M := by
  subst hq
  subst hv
  refine fun p e s m args below meth c H locs hcx hP hS ls hl => ?_
  obtain ⟨i9, hi9⟩ := List.mem_iff_getElem?.mp (sk_pr_mem.mpr (show (a0 :: some (Value.int x) :: r)[(1, Value.int x).1]? = some (some (1, Value.int x).2) from rfl))
  exact lv_iinc hcx.1 hcx.2.1 d hl.has hi9 rfl hn rfl (fun ls9 h9 => k p e s m args below meth c H locs hcx hP hS ls9 (sk_L.st1 h9 (sk_hp (k := 0) rfl rfl hp)))
theorem U.drop_1 {a0 a1 : Option Value} {r : List (Option Value)} (k : TW Z X R E cells slots pc (a0 :: none :: r) st M) : TW Z X R E cells slots pc (a0 :: a1 :: r) st M := fun p e s m args below meth c H locs hcx hP hS ls hl => k p e s m args below meth c H locs hcx hP hS ls ⟨hl.1, hl.2.1, fun i v hi => hl.2.2 i v (by
  have e : (a0 :: none :: r) = (a0 :: a1 :: r).set 1 none := rfl
  rw [e, List.getElem?_set] at hi
  by_cases h : 1 = i
  · subst h; simp at hi
  · simpa [h] using hi)⟩
theorem U.ast_2 {a0 a1 a2 : Option Value} {r : List (Option Value)} {x : Nat} (d : decode X.2.1 pc = .ok (.astore_n 2, 1)) (hq : pc + 1 = q) (hn : 2 < X.2.2.1) (hp : sk_ok1 a1) (k : TW Z X R E cells slots q (a0 :: a1 :: some (.ref x) :: r) st M) : TW Z X R E cells slots pc (a0 :: a1 :: a2 :: r) (.ref x :: st) M := by
  subst hq
  exact fun p e s m args below meth c H locs hcx hP hS ls hl => lv_astore_n hcx.1 hcx.2.1 d rfl hl.has hn rfl (fun ls9 h9 => k p e s m args below meth c H locs hcx hP hS ls9 (sk_L.st1 h9 (sk_hp (k := 1) rfl rfl hp)))
theorem U.ast_3 {a0 a1 a2 a3 : Option Value} {r : List (Option Value)} {x : Nat} (d : decode X.2.1 pc = .ok (.astore_n 3, 1)) (hq : pc + 1 = q) (hn : 3 < X.2.2.1) (hp : sk_ok1 a2) (k : TW Z X R E cells slots q (a0 :: a1 :: a2 :: some (.ref x) :: r) st M) : TW Z X R E cells slots pc (a0 :: a1 :: a2 :: a3 :: r) (.ref x :: st) M := by
  subst hq
  exact fun p e s m args below meth c H locs hcx hP hS ls hl => lv_astore_n hcx.1 hcx.2.1 d rfl hl.has hn rfl (fun ls9 h9 => k p e s m args below meth c H locs hcx hP hS ls9 (sk_L.st1 h9 (sk_hp (k := 2) rfl rfl hp)))
theorem U.ist_4 {a0 a1 a2 a3 a4 : Option Value} {r : List (Option Value)} {x : Int32} (d : decode X.2.1 pc = .ok (.istore 4, 2)) (hq : pc + 2 = q) (hn : 4 < X.2.2.1) (hp : sk_ok1 a3) (k : TW Z X R E cells slots q (a0 :: a1 :: a2 :: a3 :: some (.int x) :: r) st M) : TW Z X R E cells slots pc (a0 :: a1 :: a2 :: a3 :: a4 :: r) (.int x :: st) M := by
  subst hq
  exact fun p e s m args below meth c H locs hcx hP hS ls hl => lv_istore hcx.1 hcx.2.1 d hl.has hn rfl (fun ls9 h9 => k p e s m args below meth c H locs hcx hP hS ls9 (sk_L.st1 h9 (sk_hp (k := 3) rfl rfl hp)))
theorem U.vret {mc ms : Nat} {po : va_W → Prop} (hr : X.2.2.2.1 = none) (d : decode X.2.1 pc = .ok (.return_, 1)) (hc : cells ≤ mc) (hs : slots ≤ ms) (hp : po M) : TW Z X R (sw_K Z mc ms po) cells slots pc xs [] M := by
  intro p e s m args below meth c H locs hcx hP hS ls hl
  refine W.widen hc hs ?_
  exact W.vret (cc := X.2.1) hcx.1 hcx.2.1 (hcx.2.2.1.trans hr) (fun t ht hW => ⟨⟨rfl, M, hp, by rw [ht]; exact hP.1, hP.2⟩, hS.F ht⟩) hS.2.2 d hcx.2.2.2.2.2.2.1
theorem U.objI {i a : Nat} (hw : [Cond.methodLink X.1.cls i Lib.objectInit, .instanceMethod Lib.objectInit, .code Lib.objectInit ⟨#[0xb1]⟩ 1 none, .instanceMethod Lib.objectInit].all sk_wok = true) (d : decode X.2.1 pc = .ok (.invokespecial i, 3)) (hq : pc + 3 = q) (hf : 1 ≤ R.frames) (hlo : (st.map fun v => v.category).sum + 12 ≤ R.locals)
    (kk : TW Z X R E cells slots q xs st M) : TW Z X R E cells slots pc xs (.ref a :: st) M := by
  subst hq
  intro p e s m args below meth c H locs hcx hP hS ls hl
  obtain ⟨w1, w2, w3, -⟩ := sk_all4 hw
  exact W.objInit hcx.1 hcx.2.1 hcx.2.2.2.2.1 (hcx.2.2.2.2.2.1 _ w1) (hcx.2.2.2.2.2.1 _ w2) (hcx.2.2.2.2.2.1 _ w3) rfl (hl.1.trans hcx.2.2.2.1.symm) rfl d hf (by simpa [JFrame.monitorRoom] using hlo) (kk p e s m args below meth c H locs hcx hP hS ls hl)
theorem U.new {i ci N : Nat} {C : String} {T : u_T} (ty0 : Nat → FieldType) {fs : List Value} (hc : vwCl[ci]? = some (C, T, N)) (hin : ∀ w ∈ u_ws C T N, w ∈ sk_w) (hty : ∀ k, k < N → parseFieldDescriptor (T k).2.2.1 = some (ty0 k)) (hw : [Cond.classLink X.1.cls i C, .instantiable C N, .initialized C, .initialized C].all sk_wok = true) (hfs : ∀ j, j < N → defaultValue (ty0 j) = vp_V fs j)
    (h1 : cells + 1 ≤ R.cells) (h2 : slots + N ≤ R.slots) (d : decode X.2.1 pc = .ok (.new i, 3)) (hq : pc + 3 = q) (kk : ∀ a, TW Z X R E (cells + 1) (slots + N) q xs (.ref a :: st) (M ++ [(a, .inr (ci, fs))])) : TW Z X R E cells slots pc xs st M := by
  subst hq
  intro p e s m args below meth c H locs hcx hP hS ls hl
  obtain ⟨w1, w2, w3, -⟩ := sk_all4 hw
  exact va_new (c0 := c) (C := C) (T := T) (N := N) hcx.1 hcx.2.1 hcx.2.2.2.2.2.1 hin ty0 hty hcx.2.2.2.2.1 (hcx.2.2.2.2.2.1 _ w1) (hcx.2.2.2.2.2.1 _ w2) (hcx.2.2.2.2.2.1 _ w3) hcx.2.2.2.2.2.2.2.1 hP.1 hP.2 hS (fun q h => Or.inr h) hc hfs h1 h2 d (fun a H1 hP1 hD1 hS1 => kk a p e s m args below meth c H1 locs hcx ⟨hP1, hD1⟩ hS1 ls hl)
theorem U.putF {a i ci N : Nat} {C : String} {T : u_T} (ty0 : Nat → FieldType) {fs : List Value} {v : Value} {ty : FieldType} (q0 k : Nat) (hc : vwCl[ci]? = some (C, T, N)) (hin : ∀ w ∈ u_ws C T N, w ∈ sk_w) (hty : ∀ k, k < N → parseFieldDescriptor (T k).2.2.1 = some (ty0 k)) (hnm : ∀ a, a < N → ∀ b, b < N → a ≠ b → (T a).2.1 ≠ (T b).2.1) (he : M[q0]? = some (a, .inr (ci, fs))) (hk : k < N) (hown : (T k).1 = C) (hC : C = X.1.cls) (hini : X.1.name = "<init>") (hfin : (T k).2.2.2 = true) (hd : parseFieldDescriptor (T k).2.2.1 = some ty) (hn : narrow ty v = v) (hfit : fits ty v = true) (hl9 : k < fs.length)
    (hw : sk_wok (.fieldLink X.1.cls i C (T k).2.1 (T k).2.2.1) = true) (d : decode X.2.1 pc = .ok (.putfield i, 3)) (hq : pc + 3 = q) (kk : TW Z X R E cells slots q xs st (M.set q0 (a, .inr (ci, fs.set k v)))) : TW Z X R E cells slots pc xs (v :: .ref a :: st) M := by
  subst hq
  intro p e s m args below meth c H locs hcx hP hS ls hl
  exact va_putF (C := C) (T := T) (N := N) (ci := ci) (ref := C) (own := X.1.cls) hcx.1 hcx.2.1 hcx.2.2.2.2.2.1 hin ty0 hty hnm hcx.2.2.2.2.1 hcx.2.2.2.2.2.2.2.1 hP.1 hP.2 hS q0 he hc k hk (hcx.2.2.2.2.2.1 _ (sk_w_in hw)) (fun x h => by rw [hown] at h; exact h) hfin (hcx.2.2.2.2.2.2.2.2.1.trans hini) (hown.trans hC) hd hn hfit hl9 d (fun H1 locs1 hP1 hD1 hS1 => kk p e s m args below meth c H1 locs1 hcx ⟨hP1, hD1⟩ hS1 ls hl)
theorem U.put {a i ci N : Nat} {C : String} {T : u_T} (ty0 : Nat → FieldType) {fs : List Value} {v : Value} {ty : FieldType} (q0 k : Nat) (hc : vwCl[ci]? = some (C, T, N)) (hin : ∀ w ∈ u_ws C T N, w ∈ sk_w) (hty : ∀ k, k < N → parseFieldDescriptor (T k).2.2.1 = some (ty0 k)) (hnm : ∀ a, a < N → ∀ b, b < N → a ≠ b → (T a).2.1 ≠ (T b).2.1) (he : M[q0]? = some (a, .inr (ci, fs))) (hk : k < N) (hown : (T k).1 = C) (hfin : (T k).2.2.2 = false) (hd : parseFieldDescriptor (T k).2.2.1 = some ty) (hn : narrow ty v = v) (hfit : fits ty v = true) (hl9 : k < fs.length)
    (hw : sk_wok (.fieldLink X.1.cls i C (T k).2.1 (T k).2.2.1) = true) (d : decode X.2.1 pc = .ok (.putfield i, 3)) (hq : pc + 3 = q) (kk : TW Z X R E cells slots q xs st (M.set q0 (a, .inr (ci, fs.set k v)))) : TW Z X R E cells slots pc xs (v :: .ref a :: st) M := by
  subst hq
  intro p e s m args below meth c H locs hcx hP hS ls hl
  exact va_put (C := C) (T := T) (N := N) (ci := ci) (ref := C) (own := X.1.cls) hcx.1 hcx.2.1 hcx.2.2.2.2.2.1 hin ty0 hty hnm hcx.2.2.2.2.1 hcx.2.2.2.2.2.2.2.1 hP.1 hP.2 hS q0 he hc k hk (hcx.2.2.2.2.2.1 _ (sk_w_in hw)) (fun x h => by rw [hown] at h; exact h) hfin hd hn hfit hl9 d (fun H1 locs1 hP1 hD1 hS1 => kk p e s m args below meth c H1 locs1 hcx ⟨hP1, hD1⟩ hS1 ls hl)
theorem U.get {a i ci N : Nat} {C : String} {T : u_T} {fs : List Value} {v : Value} (q0 k : Nat) (hc : vwCl[ci]? = some (C, T, N)) (hin : ∀ w ∈ u_ws C T N, w ∈ sk_w) (he : M[q0]? = some (a, .inr (ci, fs))) (hk : k < N) (hown : (T k).1 = C) (hv : fs[k]? = some v)
    (hw : sk_wok (.fieldLink X.1.cls i C (T k).2.1 (T k).2.2.1) = true) (d : decode X.2.1 pc = .ok (.getfield i, 3)) (hq : pc + 3 = q) (kk : TW Z X R E cells slots q xs (v :: st) M) : TW Z X R E cells slots pc xs (.ref a :: st) M := by
  subst hq
  intro p e s m args below meth c H locs hcx hP hS ls hl
  exact va_get (C := C) (T := T) (N := N) (ci := ci) (ref := C) (own := X.1.cls) hcx.1 hcx.2.1 hcx.2.2.2.2.2.1 hin hcx.2.2.2.2.1 hcx.2.2.2.2.2.2.2.1 hP.1 q0 he hc k hk (hcx.2.2.2.2.2.1 _ (sk_w_in hw)) (fun x h => by rw [hown] at h; exact h) hv d (kk p e s m args below meth c H locs hcx hP hS ls hl)
theorem sw_arr {D : va_G} {tys : List (ClassId × FieldType)} {s : State} {cB cA : ClassId} {ty : FieldType} {k : Nat} (h : va_K D vwCl (tys ++ [(cB, ty)]) s) (hk : tys[k]? = some (cA, ty)) (hl : k < tys.length) (ht : ∀ C, ty ≠ .object C) : cB = cA := by
  have e1 := (h.2 k (cA, ty) (by rw [List.getElem?_append_left hl]; exact hk)).2
  have e2 := (h.2 tys.length (cB, ty) (by rw [List.getElem?_append_right (Nat.le_refl _), Nat.sub_self]; rfl)).2
  unfold va_RA at e1 e2
  cases ty <;> first | exact Option.some.inj (e2.symm.trans e1) | exact absurd rfl (ht _)
theorem sw_arrO {D : va_G} {tys : List (ClassId × FieldType)} {s : State} {cB cA : ClassId} {C : String} {k : Nat} (h : va_K D vwCl (tys ++ [(cB, .object C)]) s) (hk : tys[k]? = some (cA, .object C)) (hl : k < tys.length) : cB = cA := by
  obtain ⟨_, _, -, -, -, e1⟩ := (h.2 k (cA, .object C) (by rw [List.getElem?_append_left hl]; exact hk)).2
  obtain ⟨_, _, -, -, -, e2⟩ := (h.2 tys.length (cB, .object C) (by rw [List.getElem?_append_right (Nat.le_refl _), Nat.sub_self]; rfl)).2
  exact Option.some.inj (e2.symm.trans e1)
theorem U.newa {atype : ArrayType} {ty : FieldType} {n : Int32} {N' : Nat} {a0 : vp_A} (k : Nat) (hty : newarray.typeOf atype = ty) (hk : (sk_tys Z.2.2.1)[k]? = some (Z.2.2.1 (10 + k), ty)) (hk5 : k < 5) (ht : ∀ C, ty ≠ .object C) (hw : sk_wok (.arrayClass ty) = true) (ha : ∀ cA : ClassId, vp_cell cA a0 = arrV cA N' (fun _ => defaultValue ty)) (hn : ¬ n < 0) (hN : n.toNatClampNeg = N') (hbytes : N' * componentBytes ty ≤ 536870912)
    (h1 : cells + 1 ≤ R.cells) (h2 : slots + N' ≤ R.slots) (d : decode X.2.1 pc = .ok (.newarray atype, 2)) (hq : pc + 2 = q) (kk : ∀ a, TW Z X R E (cells + 1) (slots + N') q xs (.ref a :: st) (M ++ [(a, .inl (Z.2.2.1 (10 + k), a0))])) : TW Z X R E cells slots pc xs (.int n :: st) M := by
  subst hq
  intro p e s m args below meth c H locs hcx hP hS ls hl
  refine va_newa hcx.1 hcx.2.1 (by rw [hty]; exact hcx.2.2.2.2.2.1 _ (sk_w_in hw)) hty hcx.2.2.2.2.2.2.2.1 hP.1 hP.2 hS (fun q h => Or.inr h) ha hn hN hbytes h1 h2 d (fun a cB H1 hK1 hP1 hD1 hS1 => ?_)
  obtain rfl := sw_arr hK1 hk hk5 ht
  exact kk a p e s m args below meth c H1 locs hcx ⟨hP1, hD1⟩ hS1 ls hl
theorem U.newq {i : Nat} {n : Int32} {N' : Nat} (hw : sk_wok (.classLink X.1.cls i "SafeKnown$State") = true) (hn : ¬ n < 0) (hN : n.toNatClampNeg = N') (hbytes : N' * 4 ≤ 536870912) (h1 : cells + 1 ≤ R.cells) (h2 : slots + N' ≤ R.slots) (d : decode X.2.1 pc = .ok (.anewarray i, 3)) (hq : pc + 3 = q)
    (kk : ∀ a, TW Z X R E (cells + 1) (slots + N') q xs (.ref a :: st) (M ++ [(a, .inl (Z.2.2.1 14, N', .inr (.inr (.inr (.inr (fun _ => none))))))])) : TW Z X R E cells slots pc xs (.int n :: st) M := by
  subst hq
  intro p e s m args below meth c H locs hcx hP hS ls hl
  refine va_newq (own := X.1.cls) (C := "SafeKnown$State") hcx.1 hcx.2.1 hcx.2.2.2.2.1 (hcx.2.2.2.2.2.1 _ (sk_w_in hw)) hcx.2.2.2.2.2.2.2.2.2.1 hcx.2.2.2.2.2.2.2.1 hP.1 hP.2 hS (fun q h => Or.inr h) hn hN hbytes h1 h2 d (fun a cB H1 hK1 hP1 hD1 hS1 => ?_)
  obtain rfl := sw_arrO (k := 4) hK1 rfl (show 4 < 5 by decide)
  exact kk a p e s m args below meth c H1 locs hcx ⟨hP1, hD1⟩ hS1 ls hl
theorem U.iast {a n : Nat} {f : Nat → Int32} {i x : Int32} (q0 : Nat) (he : M[q0]? = some (a, .inl (Z.2.2.1 10, n, .inl f))) (hin : vp_in i n) (d : decode X.2.1 pc = .ok (.iastore, 1)) (hq : pc + 1 = q) (kk : TW Z X R E cells slots q xs st (M.set q0 (a, .inl (Z.2.2.1 10, n, .inl (upd f i.toNatClampNeg x))))) : TW Z X R E cells slots pc xs (.int x :: .int i :: .ref a :: st) M := by
  subst hq
  intro p e s m args below meth c H locs hcx hP hS ls hl
  exact va_iast hcx.1 hcx.2.1 hcx.2.2.2.2.2.2.2.1 hP.1 hP.2 hS q0 0 he rfl hin d (fun H1 locs1 hP1 hD1 hS1 => kk p e s m args below meth c H1 locs1 hcx ⟨hP1, hD1⟩ hS1 ls hl)
theorem U.last {a n : Nat} {f : Nat → Int64} {i : Int32} {x : Int64} (q0 : Nat) (he : M[q0]? = some (a, .inl (Z.2.2.1 11, n, .inr (.inl f)))) (hin : vp_in i n) (d : decode X.2.1 pc = .ok (.lastore, 1)) (hq : pc + 1 = q) (kk : TW Z X R E cells slots q xs st (M.set q0 (a, .inl (Z.2.2.1 11, n, .inr (.inl (vp_updL f i.toNatClampNeg x)))))) : TW Z X R E cells slots pc xs (.long x :: .int i :: .ref a :: st) M := by
  subst hq
  intro p e s m args below meth c H locs hcx hP hS ls hl
  exact va_last hcx.1 hcx.2.1 hcx.2.2.2.2.2.2.2.1 hP.1 hP.2 hS q0 1 he rfl hin d (fun H1 locs1 hP1 hD1 hS1 => kk p e s m args below meth c H1 locs1 hcx ⟨hP1, hD1⟩ hS1 ls hl)
theorem U.astq {a n v : Nat} {f : Nat → Option Nat} {vs : List Value} {i : Int32} (q0 qk : Nat) (he : M[q0]? = some (a, .inl (Z.2.2.1 14, n, .inr (.inr (.inr (.inr f)))))) (hv : M[qk]? = some (v, .inr (5, vs))) (hin : vp_in i n) (d : decode X.2.1 pc = .ok (.aastore, 1)) (hq : pc + 1 = q) (kk : TW Z X R E cells slots q xs st (M.set q0 (a, .inl (Z.2.2.1 14, n, .inr (.inr (.inr (.inr (va_up f i.toNatClampNeg (some v))))))))) : TW Z X R E cells slots pc xs (.ref v :: .int i :: .ref a :: st) M := by
  subst hq
  intro p e s m args below meth c H locs hcx hP hS ls hl
  exact va_astq hcx.1 hcx.2.1 hcx.2.2.2.2.2.2.2.1 hP.1 hP.2 hS q0 4 qk 5 (r := (RX5, TX5, 21)) he rfl hv rfl hin d (fun H1 locs1 hP1 hD1 hS1 => kk p e s m args below meth c H1 locs1 hcx ⟨hP1, hD1⟩ hS1 ls hl)
theorem U.alen {a : Nat} {x : vp_A} {v : Int32} (q0 k : Nat) {cA : ClassId} {ty : FieldType} (he : M[q0]? = some (a, .inl (cA, x))) (hk : (sk_tys Z.2.2.1)[k]? = some (cA, ty)) (hv : Int32.ofNat x.1 = v) (d : decode X.2.1 pc = .ok (.arraylength, 1)) (hq : pc + 1 = q) (kk : TW Z X R E cells slots q xs (.int v :: st) M) : TW Z X R E cells slots pc xs (.ref a :: st) M := by
  subst hq
  intro p e s m args below meth c H locs hcx hP hS ls hl
  exact va_alen hcx.1 hcx.2.1 hcx.2.2.2.2.2.2.2.1 hP.1 q0 k he hk hv d (kk p e s m args below meth c H locs hcx hP hS ls hl)
theorem sw_blind {M : va_W} {sz : Nat} {as : List Value} : FrameBlind (sw_P Z M sz as) := by
  intro a U g mk h
  obtain ⟨h0, h1, h2, h3, h4, h5⟩ := h
  exact ⟨h0, h1, h2, h3, va_K.moved (u := U) (U := U.calling g mk a) (Vm.Alike.refl U.vm) h4, va_AO.moved (u := U) (U := U.calling g mk a) (Vm.Alike.refl U.vm) h5⟩
/-- behind a constructor's call: the rest, which is older, and what it made -/
theorem sw_join {Z Z' : sw_Z} {b : Nat} {x : va_E} {wr w1 : va_W} {H H1 : Heap} {sz : Nat} (hZ : Z'.2.2.2 = (fun q => q = b)) (hD0 : Z'.2.1 = Z.2.1) (hP : va_P Z.2.1 vwCl (wr ++ [(b, x)]) H) (hD : va_D (sw_A Z sz) (wr ++ [(b, x)])) (hsz : sz ≤ H.size)
    (hk : ∀ q : Nat, q < H.size → ¬ sw_A Z' H.size q → H1[q]? = H[q]?) (hP1 : va_P Z'.2.1 vwCl w1 H1) (hD1 : va_D (sw_A Z' H.size) w1) : va_P Z.2.1 vwCl (wr ++ w1) H1 ∧ va_D (sw_A Z sz) (wr ++ w1) := by
  have hbl : (wr ++ [(b, x)])[wr.length]? = some (b, x) := by rw [List.getElem?_append_right (Nat.le_refl _), Nat.sub_self]; rfl
  have hold : ∀ (k : Nat) (q : Nat × va_E), wr[k]? = some q → q.1 < H.size ∧ q.1 ≠ b ∧ (wr ++ [(b, x)])[k]? = some q ∧ k < wr.length := fun k q hq => by
    have hl : k < wr.length := (List.getElem?_eq_some_iff.mp hq).1
    have h2 : (wr ++ [(b, x)])[k]? = some q := by rw [List.getElem?_append_left hl]; exact hq
    refine ⟨(hP k q h2).lt, fun e => ?_, h2, hl⟩
    have := hD.1 k wr.length q (b, x) h2 hbl e
    omega
  have hnew : ∀ (k : Nat) (q : Nat × va_E), w1[k]? = some q → q.1 = b ∨ H.size ≤ q.1 := fun k q hq => by
    have := hD1.2 k q hq
    unfold sw_A at this
    rw [hZ] at this
    exact this
  refine ⟨fun k q hq => ?_, fun i j u v hu hv he => ?_, fun k q hq => ?_⟩
  · by_cases hl : k < wr.length
    · rw [List.getElem?_append_left hl] at hq
      obtain ⟨h1, h2, h3, -⟩ := hold k q hq
      refine va_at.kept (hP k q h3) (hk q.1 h1 ?_)
      unfold sw_A
      rw [hZ]
      rintro (z | z)
      · exact h2 z
      · omega
    · rw [List.getElem?_append_right (by omega)] at hq
      have := hP1 _ q hq
      rw [hD0] at this
      exact this
  · by_cases hi : i < wr.length
    · rw [List.getElem?_append_left hi] at hu
      obtain ⟨a1, a2, a3, -⟩ := hold i u hu
      by_cases hj : j < wr.length
      · rw [List.getElem?_append_left hj] at hv
        exact hD.1 i j u v a3 (hold j v hv).2.2.1 he
      · rw [List.getElem?_append_right (by omega)] at hv
        rcases hnew _ v hv with z | z
        · exact absurd (he.trans z) a2
        · omega
    · rw [List.getElem?_append_right (by omega)] at hu
      by_cases hj : j < wr.length
      · rw [List.getElem?_append_left hj] at hv
        obtain ⟨a1, a2, a3, -⟩ := hold j v hv
        rcases hnew _ u hu with z | z
        · exact absurd (he.symm.trans z) a2
        · omega
      · rw [List.getElem?_append_right (by omega)] at hv
        have := hD1.1 _ _ u v hu hv he
        omega
  · by_cases hl : k < wr.length
    · rw [List.getElem?_append_left hl] at hq
      exact hD.2 k q (hold k q hq).2.2.1
    · rw [List.getElem?_append_right (by omega)] at hq
      rcases hnew _ q hq with z | z
      · rw [z]; exact hD.2 _ _ hbl
      · exact Or.inr (Nat.le_trans hsz z)
/-- a constructor's call on the newest object -/
theorem U.cI {i b d' mc' ms' : Nat} {Y : sk_X} {As rest : List Value} {wr : va_W} {x : va_E} {po : va_W → Prop} (hM : CtrI (Z.1, Z.2.1, Z.2.2.1, fun q => q = b) Y d' mc' ms' (.ref b :: As) [(b, x)] po) (hr0 : Y.2.2.2.1 = none) (hw : [Cond.methodLink X.1.cls i Y.1, .instanceMethod Y.1, .initialized Y.1.cls, .initialized Y.1.cls].all sk_wok = true) (hcw : sk_wok (sk_cw Y) = true) (hn : sk_np Y As.length) (hy1 : Y.1.name = "<init>")
    (hf : d' + 1 ≤ R.frames) (hlo : 8 + (Y.2.2.1 + 11) + 64 * d' ≤ R.locals) (h1 : cells + mc' ≤ R.cells) (h2 : slots + ms' ≤ R.slots) (hst : st = As.reverse ++ .ref b :: rest) (hr : (rest.map fun v => v.category).sum ≤ 8)
    (d : decode X.2.1 pc = .ok (.invokespecial i, 3)) (hq : pc + 3 = q) (kk : ∀ w1, po w1 → TW Z X R E (cells + mc') (slots + ms') q xs rest (wr ++ w1)) : TW Z X R E cells slots pc xs st (wr ++ [(b, x)]) := by
  subst hq
  intro p e s m args below meth c H locs hcx hP hS ls hl
  obtain ⟨w1, w2, w3, -⟩ := sk_all4 hw
  have w5 := sk_w_in hcw
  have hb := hcx.2.2.2.2.2.1
  have hg := sk_good w5
  have hbl : (wr ++ [(b, x)])[wr.length]? = some (b, x) := by rw [List.getElem?_append_right (Nat.le_refl _), Nat.sub_self]; rfl
  have hA : ∀ q9, sw_A (Z.1, Z.2.1, Z.2.2.1, fun q => q = b) H.size q9 → sw_A Z s.heap.size q9 := by
    rintro q9 (z | z)
    · have z : q9 = b := z
      rw [z]; exact hP.2.2 _ _ hbl
    · exact Or.inr (Nat.le_trans hS.1 z)
  have run := va_runI (l := Z.1) (e := e) (R := R) (below := below) (meth := meth) (H := H) (locs := locs) (cells := cells) (slots := slots) (Ts := sk_w) (own := X.1.cls) (index := i) (cc := X.2.1) (nL := X.2.2.1) (bytes := Y.2.1) (maxL := Y.2.2.1) (n := As.length) (b := b) (As := As) (rest := rest) (g := F0 m pc ls st) ⟨hcx.1, hcx.2.1, hcx.2.2.2.1, hcx.2.2.2.2.1, hb⟩ (hM H.size)
    (cwI As.length hb hg (by unfold sk_cw; rw [hr0]) rfl rfl (hb _ w3) (hb _ w1) (hb _ w2) hy1 hn ⟨hf, hlo⟩) ⟨sw_blind, fun U hU hW => ⟨rfl, by rw [hU], fun k q hq => ?_, ⟨fun i j u v hu hv _ => ?_, fun k q hq => ?_⟩, va_K.moved hW.alike hcx.2.2.2.2.2.2.2.1, va_AO.moved hW.alike hcx.2.2.2.2.2.2.2.2.2.1⟩⟩ rfl rfl hl.1 hst (lv_room hr) d ⟨h1, h2⟩
  · intro T hT XX
    obtain ⟨v, st₀, t, T', L, h0, X', hL, e1, e2, ⟨⟨hv, M1, hpo, hP1, hD1⟩, hF⟩, go⟩ := run T hT XX
    have hv : v = none := by
      have := hv
      injection this
    subst hv
    rw [h0] at hD1 hF
    have hS1 : va_S (sw_A Z s.heap.size) s.heap T'.heap (locs ++ L) := by
      refine ⟨Nat.le_trans hS.1 (by rw [e1]; have := hF.1; rw [h0] at this; exact this), fun q9 hq9 hA9 => ?_, fun z hz => ?_⟩
      · rw [e1]
        have h6 := hF.2 q9 (by rw [h0]; exact Nat.lt_of_lt_of_le hq9 hS.1) (fun z => hA9 (hA q9 z))
        rw [h0] at h6
        rw [h6]
        exact hS.2.1 q9 hq9 hA9
      · rcases List.mem_append.mp hz with z1 | z1
        · exact hS.2.2 z z1
        · exact hA _ (hL z z1)
    have hj := sw_join (Z := Z) (Z' := (Z.1, Z.2.1, Z.2.2.1, fun q => q = b)) rfl rfl hP.1 hP.2 hS.1 (H1 := T'.heap) (fun q9 hq9 hA9 => by
      rw [e1]
      have h6 := hF.2 q9 (by rw [h0]; exact hq9) hA9
      rw [h0] at h6
      exact h6) (by rw [e1]; exact hP1) hD1
    obtain ⟨t2, a1, b1⟩ := kk M1 hpo p e s m args below meth c T'.heap (locs ++ L) hcx hj hS1 ls hl T' rfl X'
    exact ⟨t2, go t2 a1, b1⟩
  · rw [hU]
    have hz : k < 1 := (List.getElem?_eq_some_iff.mp hq).1
    rw [show k = 0 by omega] at hq
    cases hq
    exact hP.1 _ _ hbl
  · have hi : i < 1 := (List.getElem?_eq_some_iff.mp hu).1
    have hj : j < 1 := (List.getElem?_eq_some_iff.mp hv).1
    omega
  · have hz : k < 1 := (List.getElem?_eq_some_iff.mp hq).1
    rw [show k = 0 by omega] at hq
    cases hq
    exact Or.inl rfl
end SKW
