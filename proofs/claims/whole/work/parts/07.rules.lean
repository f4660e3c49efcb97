/-! the rules of the judgement, an instruction each -/
section SKR
variable {G : sk_G} {X : sk_X} {R : Room} {E : sk_E} {cells slots pc q : Nat} {xs : List (Option Value)} {st : List Value} {M : sk_M}
theorem T.iadd {x y : Int32} (d : decode X.2.1 pc = .ok (.iadd, 1)) (hq : pc + 1 = q)  (k : TJ G X R E cells slots q xs (.int (x + y) :: st) M) : TJ G X R E cells slots pc xs (.int y :: .int x :: st) M := by
  subst hq
  exact fun p e s m args below meth c H locs hcx hP hS ls hl => lv_iadd hcx.1 hcx.2.1 d (k p e s m args below meth c H locs hcx hP hS ls hl)
theorem T.isub {x y : Int32} (d : decode X.2.1 pc = .ok (.isub, 1)) (hq : pc + 1 = q)  (k : TJ G X R E cells slots q xs (.int (x - y) :: st) M) : TJ G X R E cells slots pc xs (.int y :: .int x :: st) M := by
  subst hq
  exact fun p e s m args below meth c H locs hcx hP hS ls hl => lv_isub hcx.1 hcx.2.1 d (k p e s m args below meth c H locs hcx hP hS ls hl)
theorem T.imul {x y : Int32} (d : decode X.2.1 pc = .ok (.imul, 1)) (hq : pc + 1 = q)  (k : TJ G X R E cells slots q xs (.int (x * y) :: st) M) : TJ G X R E cells slots pc xs (.int y :: .int x :: st) M := by
  subst hq
  exact fun p e s m args below meth c H locs hcx hP hS ls hl => lv_imul hcx.1 hcx.2.1 d (k p e s m args below meth c H locs hcx hP hS ls hl)
theorem T.iand {x y : Int32} (d : decode X.2.1 pc = .ok (.iand, 1)) (hq : pc + 1 = q)  (k : TJ G X R E cells slots q xs (.int (x &&& y) :: st) M) : TJ G X R E cells slots pc xs (.int y :: .int x :: st) M := by
  subst hq
  exact fun p e s m args below meth c H locs hcx hP hS ls hl => lv_iand hcx.1 hcx.2.1 d (k p e s m args below meth c H locs hcx hP hS ls hl)
theorem T.ior {x y : Int32} (d : decode X.2.1 pc = .ok (.ior, 1)) (hq : pc + 1 = q)  (k : TJ G X R E cells slots q xs (.int (x ||| y) :: st) M) : TJ G X R E cells slots pc xs (.int y :: .int x :: st) M := by
  subst hq
  exact fun p e s m args below meth c H locs hcx hP hS ls hl => lv_ior hcx.1 hcx.2.1 d (k p e s m args below meth c H locs hcx hP hS ls hl)
theorem T.ixor {x y : Int32} (d : decode X.2.1 pc = .ok (.ixor, 1)) (hq : pc + 1 = q)  (k : TJ G X R E cells slots q xs (.int (x ^^^ y) :: st) M) : TJ G X R E cells slots pc xs (.int y :: .int x :: st) M := by
  subst hq
  exact fun p e s m args below meth c H locs hcx hP hS ls hl => lv_ixor hcx.1 hcx.2.1 d (k p e s m args below meth c H locs hcx hP hS ls hl)
theorem T.ishl {x y : Int32} (d : decode X.2.1 pc = .ok (.ishl, 1)) (hq : pc + 1 = q)  (k : TJ G X R E cells slots q xs (.int (x <<< (y &&& 31)) :: st) M) : TJ G X R E cells slots pc xs (.int y :: .int x :: st) M := by
  subst hq
  exact fun p e s m args below meth c H locs hcx hP hS ls hl => lv_ishl hcx.1 hcx.2.1 d (k p e s m args below meth c H locs hcx hP hS ls hl)
theorem T.ishr {x y : Int32} (d : decode X.2.1 pc = .ok (.ishr, 1)) (hq : pc + 1 = q)  (k : TJ G X R E cells slots q xs (.int (x >>> (y &&& 31)) :: st) M) : TJ G X R E cells slots pc xs (.int y :: .int x :: st) M := by
  subst hq
  exact fun p e s m args below meth c H locs hcx hP hS ls hl => lv_ishr hcx.1 hcx.2.1 d (k p e s m args below meth c H locs hcx hP hS ls hl)
theorem T.iushr {x y : Int32} (d : decode X.2.1 pc = .ok (.iushr, 1)) (hq : pc + 1 = q)  (k : TJ G X R E cells slots q xs (.int (x.toUInt32 >>> (y.toUInt32 &&& Int32.toUInt32 31)).toInt32 :: st) M) : TJ G X R E cells slots pc xs (.int y :: .int x :: st) M := by
  subst hq
  exact fun p e s m args below meth c H locs hcx hP hS ls hl => lv_iushr hcx.1 hcx.2.1 d rfl (k p e s m args below meth c H locs hcx hP hS ls hl)
theorem T.ineg {x : Int32} (d : decode X.2.1 pc = .ok (.ineg, 1)) (hq : pc + 1 = q)  (k : TJ G X R E cells slots q xs (.int (-x) :: st) M) : TJ G X R E cells slots pc xs (.int x :: st) M := by
  subst hq
  exact fun p e s m args below meth c H locs hcx hP hS ls hl => lv_ineg hcx.1 hcx.2.1 d (k p e s m args below meth c H locs hcx hP hS ls hl)
theorem T.idiv {x y : Int32} (d : decode X.2.1 pc = .ok (.idiv, 1)) (hq : pc + 1 = q) (hne : ¬ y = 0) (k : TJ G X R E cells slots q xs (.int (x / y) :: st) M) : TJ G X R E cells slots pc xs (.int y :: .int x :: st) M := by
  subst hq
  exact fun p e s m args below meth c H locs hcx hP hS ls hl => lv_idiv hcx.1 hcx.2.1 d hne (k p e s m args below meth c H locs hcx hP hS ls hl)
theorem T.irem {x y : Int32} (d : decode X.2.1 pc = .ok (.irem, 1)) (hq : pc + 1 = q) (hne : ¬ y = 0) (k : TJ G X R E cells slots q xs (.int (x - x / y * y) :: st) M) : TJ G X R E cells slots pc xs (.int y :: .int x :: st) M := by
  subst hq
  exact fun p e s m args below meth c H locs hcx hP hS ls hl => lv_irem hcx.1 hcx.2.1 d hne (k p e s m args below meth c H locs hcx hP hS ls hl)
theorem T.ladd {x y : Int64} (d : decode X.2.1 pc = .ok (.ladd, 1)) (hq : pc + 1 = q)  (k : TJ G X R E cells slots q xs (.long (x + y) :: st) M) : TJ G X R E cells slots pc xs (.long y :: .long x :: st) M := by
  subst hq
  exact fun p e s m args below meth c H locs hcx hP hS ls hl => lv_ladd hcx.1 hcx.2.1 d (k p e s m args below meth c H locs hcx hP hS ls hl)
theorem T.lsub {x y : Int64} (d : decode X.2.1 pc = .ok (.lsub, 1)) (hq : pc + 1 = q)  (k : TJ G X R E cells slots q xs (.long (x - y) :: st) M) : TJ G X R E cells slots pc xs (.long y :: .long x :: st) M := by
  subst hq
  exact fun p e s m args below meth c H locs hcx hP hS ls hl => lv_lsub hcx.1 hcx.2.1 d (k p e s m args below meth c H locs hcx hP hS ls hl)
theorem T.land {x y : Int64} (d : decode X.2.1 pc = .ok (.land, 1)) (hq : pc + 1 = q)  (k : TJ G X R E cells slots q xs (.long (x &&& y) :: st) M) : TJ G X R E cells slots pc xs (.long y :: .long x :: st) M := by
  subst hq
  exact fun p e s m args below meth c H locs hcx hP hS ls hl => lv_land hcx.1 hcx.2.1 d (k p e s m args below meth c H locs hcx hP hS ls hl)
theorem T.lor {x y : Int64} (d : decode X.2.1 pc = .ok (.lor, 1)) (hq : pc + 1 = q)  (k : TJ G X R E cells slots q xs (.long (x ||| y) :: st) M) : TJ G X R E cells slots pc xs (.long y :: .long x :: st) M := by
  subst hq
  exact fun p e s m args below meth c H locs hcx hP hS ls hl => lv_lor hcx.1 hcx.2.1 d (k p e s m args below meth c H locs hcx hP hS ls hl)
theorem T.lxor {x y : Int64} (d : decode X.2.1 pc = .ok (.lxor, 1)) (hq : pc + 1 = q)  (k : TJ G X R E cells slots q xs (.long (x ^^^ y) :: st) M) : TJ G X R E cells slots pc xs (.long y :: .long x :: st) M := by
  subst hq
  exact fun p e s m args below meth c H locs hcx hP hS ls hl => lv_lxor hcx.1 hcx.2.1 d (k p e s m args below meth c H locs hcx hP hS ls hl)
theorem T.lshl {x : Int64} {y : Int32} (d : decode X.2.1 pc = .ok (.lshl, 1)) (hq : pc + 1 = q)  (k : TJ G X R E cells slots q xs (.long (x <<< (y.toInt64 &&& 63)) :: st) M) : TJ G X R E cells slots pc xs (.int y :: .long x :: st) M := by
  subst hq
  exact fun p e s m args below meth c H locs hcx hP hS ls hl => lv_lshl hcx.1 hcx.2.1 d rfl (k p e s m args below meth c H locs hcx hP hS ls hl)
theorem T.lshr {x : Int64} {y : Int32} (d : decode X.2.1 pc = .ok (.lshr, 1)) (hq : pc + 1 = q)  (k : TJ G X R E cells slots q xs (.long (x >>> (y.toInt64 &&& 63)) :: st) M) : TJ G X R E cells slots pc xs (.int y :: .long x :: st) M := by
  subst hq
  exact fun p e s m args below meth c H locs hcx hP hS ls hl => lv_lshr hcx.1 hcx.2.1 d rfl (k p e s m args below meth c H locs hcx hP hS ls hl)
theorem T.lushr {x : Int64} {y : Int32} (d : decode X.2.1 pc = .ok (.lushr, 1)) (hq : pc + 1 = q)  (k : TJ G X R E cells slots q xs (.long (x.toUInt64 >>> (y.toInt64.toUInt64 &&& Int64.toUInt64 63)).toInt64 :: st) M) : TJ G X R E cells slots pc xs (.int y :: .long x :: st) M := by
  subst hq
  exact fun p e s m args below meth c H locs hcx hP hS ls hl => lv_lushr hcx.1 hcx.2.1 d rfl (k p e s m args below meth c H locs hcx hP hS ls hl)
theorem T.lcmp {x y : Int64} (d : decode X.2.1 pc = .ok (.lcmp, 1)) (hq : pc + 1 = q)  (k : TJ G X R E cells slots q xs (.int (lg_cmp x y) :: st) M) : TJ G X R E cells slots pc xs (.long y :: .long x :: st) M := by
  subst hq
  exact fun p e s m args below meth c H locs hcx hP hS ls hl => W.lcmp hcx.1 hcx.2.1 d (k p e s m args below meth c H locs hcx hP hS ls hl)
theorem T.i2l {x : Int32} (d : decode X.2.1 pc = .ok (.i2l, 1)) (hq : pc + 1 = q)  (k : TJ G X R E cells slots q xs (.long x.toInt64 :: st) M) : TJ G X R E cells slots pc xs (.int x :: st) M := by
  subst hq
  exact fun p e s m args below meth c H locs hcx hP hS ls hl => lv_i2l hcx.1 hcx.2.1 d rfl (k p e s m args below meth c H locs hcx hP hS ls hl)
theorem T.l2i {x : Int64} (d : decode X.2.1 pc = .ok (.l2i, 1)) (hq : pc + 1 = q)  (k : TJ G X R E cells slots q xs (.int x.toInt32 :: st) M) : TJ G X R E cells slots pc xs (.long x :: st) M := by
  subst hq
  exact fun p e s m args below meth c H locs hcx hP hS ls hl => lv_l2i hcx.1 hcx.2.1 d rfl (k p e s m args below meth c H locs hcx hP hS ls hl)
theorem T.i2b {x : Int32} (d : decode X.2.1 pc = .ok (.i2b, 1)) (hq : pc + 1 = q)  (k : TJ G X R E cells slots q xs (.int x.toInt8.toInt32 :: st) M) : TJ G X R E cells slots pc xs (.int x :: st) M := by
  subst hq
  exact fun p e s m args below meth c H locs hcx hP hS ls hl => lv_i2b hcx.1 hcx.2.1 d rfl (k p e s m args below meth c H locs hcx hP hS ls hl)
theorem T.i2c {x : Int32} (d : decode X.2.1 pc = .ok (.i2c, 1)) (hq : pc + 1 = q)  (k : TJ G X R E cells slots q xs (.int (x.toUInt32 % 65536).toInt32 :: st) M) : TJ G X R E cells slots pc xs (.int x :: st) M := by
  subst hq
  exact fun p e s m args below meth c H locs hcx hP hS ls hl => lv_i2c hcx.1 hcx.2.1 d rfl (k p e s m args below meth c H locs hcx hP hS ls hl)
theorem T.iconst {n : Int} (v : Int32) (d : decode X.2.1 pc = .ok (.iconst n, 1)) (hq : pc + 1 = q) (hv : Int32.ofInt n = v) (k : TJ G X R E cells slots q xs (.int v :: st) M) : TJ G X R E cells slots pc xs st M := by
  subst hq
  exact fun p e s m args below meth c H locs hcx hP hS ls hl => lv_iconst hcx.1 hcx.2.1 d hv (k p e s m args below meth c H locs hcx hP hS ls hl)
theorem T.bipush {n : Int} (v : Int32) (d : decode X.2.1 pc = .ok (.bipush n, 2)) (hq : pc + 2 = q) (hv : (Int8.ofInt n).toInt32 = v) (k : TJ G X R E cells slots q xs (.int v :: st) M) : TJ G X R E cells slots pc xs st M := by
  subst hq
  exact fun p e s m args below meth c H locs hcx hP hS ls hl => lv_bipush hcx.1 hcx.2.1 d hv (k p e s m args below meth c H locs hcx hP hS ls hl)
theorem T.sipush {n : Int} (v : Int32) (d : decode X.2.1 pc = .ok (.sipush n, 3)) (hq : pc + 3 = q) (hv : (Int16.ofInt n).toInt32 = v) (k : TJ G X R E cells slots q xs (.int v :: st) M) : TJ G X R E cells slots pc xs st M := by
  subst hq
  exact fun p e s m args below meth c H locs hcx hP hS ls hl => lv_sipush hcx.1 hcx.2.1 d hv (k p e s m args below meth c H locs hcx hP hS ls hl)
theorem T.lconst {n : Fin 2} (v : Int64) (d : decode X.2.1 pc = .ok (.lconst n, 1)) (hq : pc + 1 = q) (hv : Int64.ofNat (n : Nat) = v) (k : TJ G X R E cells slots q xs (.long v :: st) M) : TJ G X R E cells slots pc xs st M := by
  subst hq
  exact fun p e s m args below meth c H locs hcx hP hS ls hl => lv_lconst hcx.1 hcx.2.1 d hv (k p e s m args below meth c H locs hcx hP hS ls hl)
theorem T.ldc {i : Nat} (v : Int32) (d : decode X.2.1 pc = .ok (.ldc i, 2)) (hq : pc + 2 = q) (hw : (decide (Cond.constant X.1.cls i v ∈ lw_tbl) && goodWord (Cond.constant X.1.cls i v)) = true) (k : TJ G X R E cells slots q xs (.int v :: st) M) : TJ G X R E cells slots pc xs st M := by
  subst hq
  exact fun p e s m args below meth c H locs hcx hP hS ls hl => lv_ldc hcx.1 hcx.2.1 hcx.2.2.2.2.1 (hcx.2.2.2.2.2.1 _ (sk_w_in hw)) d (k p e s m args below meth c H locs hcx hP hS ls hl)
theorem T.ldcw {i : Nat} (v : Int32) (d : decode X.2.1 pc = .ok (.ldc_w i, 3)) (hq : pc + 3 = q) (hw : (decide (Cond.constant X.1.cls i v ∈ lw_tbl) && goodWord (Cond.constant X.1.cls i v)) = true) (k : TJ G X R E cells slots q xs (.int v :: st) M) : TJ G X R E cells slots pc xs st M := by
  subst hq
  exact fun p e s m args below meth c H locs hcx hP hS ls hl => lv_ldcw hcx.1 hcx.2.1 hcx.2.2.2.2.1 (hcx.2.2.2.2.2.1 _ (sk_w_in hw)) d (k p e s m args below meth c H locs hcx hP hS ls hl)
theorem T.ldc2 {i : Nat} (v : Int64) (d : decode X.2.1 pc = .ok (.ldc2_w i, 3)) (hq : pc + 3 = q) (hw : (decide (Cond.constantLong X.1.cls i v ∈ lw_tbl) && goodWord (Cond.constantLong X.1.cls i v)) = true) (k : TJ G X R E cells slots q xs (.long v :: st) M) : TJ G X R E cells slots pc xs st M := by
  subst hq
  exact fun p e s m args below meth c H locs hcx hP hS ls hl => lv_ldc2 hcx.1 hcx.2.1 hcx.2.2.2.2.1 (hcx.2.2.2.2.2.1 _ (sk_w_in hw)) d (k p e s m args below meth c H locs hcx hP hS ls hl)
theorem T.ldcS {i : Nat} (tx : String) (j : Nat) (d : decode X.2.1 pc = .ok (.ldc i, 2)) (hq : pc + 2 = q) (hw : (X.1.cls, i, tx, j) ∈ sk_St) (k : TJ G X R E cells slots q xs (.ref (G.2.2.2.2.1 j) :: st) M) : TJ G X R E cells slots pc xs st M := by
  subst hq
  exact fun p e s m args below meth c H locs hcx hP hS ls hl => va_ldcS hcx.1 hcx.2.1 hcx.2.2.2.2.1 (hcx.2.2.2.2.2.2.2.2.2.2.2.2.2.2.1 _ hw) d (k p e s m args below meth c H locs hcx hP hS ls hl)
theorem T.dup {v : Value} (d : decode X.2.1 pc = .ok (.dup, 1)) (hq : pc + 1 = q) (hv : v.category = 1) (k : TJ G X R E cells slots q xs (v :: v :: st) M) : TJ G X R E cells slots pc xs (v :: st) M := by
  subst hq
  exact fun p e s m args below meth c H locs hcx hP hS ls hl => lv_dup hcx.1 hcx.2.1 d hv (k p e s m args below meth c H locs hcx hP hS ls hl)
theorem T.dup2 {v u : Value} (d : decode X.2.1 pc = .ok (.dup2, 1)) (hq : pc + 1 = q) (hv : v.category = 1) (hu : u.category = 1) (k : TJ G X R E cells slots q xs (v :: u :: v :: u :: st) M) : TJ G X R E cells slots pc xs (v :: u :: st) M := by
  subst hq
  exact fun p e s m args below meth c H locs hcx hP hS ls hl => lv_dup2_11 hcx.1 hcx.2.1 d hv hu (k p e s m args below meth c H locs hcx hP hS ls hl)
theorem T.pop {v : Value} (d : decode X.2.1 pc = .ok (.pop, 1)) (hq : pc + 1 = q) (hv : v.category = 1) (k : TJ G X R E cells slots q xs st M) : TJ G X R E cells slots pc xs (v :: st) M := by
  subst hq
  exact fun p e s m args below meth c H locs hcx hP hS ls hl => lv_pop hcx.1 hcx.2.1 d hv (k p e s m args below meth c H locs hcx hP hS ls hl)
theorem T.if_eq {x : Int32} {off : Int} {tgt : Nat} (d : decode X.2.1 pc = .ok (.ifCond .eq off, 3)) (ht : (pc : Int) + off = (tgt : Int)) (hq : pc + 3 = q) (kt : x = 0 → TJ G X R E cells slots tgt xs st M) (kf : ¬ x = 0 → TJ G X R E cells slots q xs st M) : TJ G X R E cells slots pc xs (.int x :: st) M := by
  subst hq
  exact fun p e s m args below meth c H locs hcx hP hS ls hl => lv_if_eq hcx.1 hcx.2.1 d ht (fun h9 => kt h9 p e s m args below meth c H locs hcx hP hS ls hl) (fun h9 => kf h9 p e s m args below meth c H locs hcx hP hS ls hl)
theorem T.if_ne {x : Int32} {off : Int} {tgt : Nat} (d : decode X.2.1 pc = .ok (.ifCond .ne off, 3)) (ht : (pc : Int) + off = (tgt : Int)) (hq : pc + 3 = q) (kt : ¬ x = 0 → TJ G X R E cells slots tgt xs st M) (kf : x = 0 → TJ G X R E cells slots q xs st M) : TJ G X R E cells slots pc xs (.int x :: st) M := by
  subst hq
  exact fun p e s m args below meth c H locs hcx hP hS ls hl => lv_if_ne hcx.1 hcx.2.1 d ht (fun h9 => kt h9 p e s m args below meth c H locs hcx hP hS ls hl) (fun h9 => kf h9 p e s m args below meth c H locs hcx hP hS ls hl)
theorem T.if_lt {x : Int32} {off : Int} {tgt : Nat} (d : decode X.2.1 pc = .ok (.ifCond .lt off, 3)) (ht : (pc : Int) + off = (tgt : Int)) (hq : pc + 3 = q) (kt : x < 0 → TJ G X R E cells slots tgt xs st M) (kf : ¬ x < 0 → TJ G X R E cells slots q xs st M) : TJ G X R E cells slots pc xs (.int x :: st) M := by
  subst hq
  exact fun p e s m args below meth c H locs hcx hP hS ls hl => lv_if_lt hcx.1 hcx.2.1 d ht (fun h9 => kt h9 p e s m args below meth c H locs hcx hP hS ls hl) (fun h9 => kf h9 p e s m args below meth c H locs hcx hP hS ls hl)
theorem T.if_ge {x : Int32} {off : Int} {tgt : Nat} (d : decode X.2.1 pc = .ok (.ifCond .ge off, 3)) (ht : (pc : Int) + off = (tgt : Int)) (hq : pc + 3 = q) (kt : 0 ≤ x → TJ G X R E cells slots tgt xs st M) (kf : ¬ 0 ≤ x → TJ G X R E cells slots q xs st M) : TJ G X R E cells slots pc xs (.int x :: st) M := by
  subst hq
  exact fun p e s m args below meth c H locs hcx hP hS ls hl => lv_if_ge hcx.1 hcx.2.1 d ht (fun h9 => kt h9 p e s m args below meth c H locs hcx hP hS ls hl) (fun h9 => kf h9 p e s m args below meth c H locs hcx hP hS ls hl)
theorem T.if_gt {x : Int32} {off : Int} {tgt : Nat} (d : decode X.2.1 pc = .ok (.ifCond .gt off, 3)) (ht : (pc : Int) + off = (tgt : Int)) (hq : pc + 3 = q) (kt : 0 < x → TJ G X R E cells slots tgt xs st M) (kf : ¬ 0 < x → TJ G X R E cells slots q xs st M) : TJ G X R E cells slots pc xs (.int x :: st) M := by
  subst hq
  exact fun p e s m args below meth c H locs hcx hP hS ls hl => lv_if_gt hcx.1 hcx.2.1 d ht (fun h9 => kt h9 p e s m args below meth c H locs hcx hP hS ls hl) (fun h9 => kf h9 p e s m args below meth c H locs hcx hP hS ls hl)
theorem T.if_le {x : Int32} {off : Int} {tgt : Nat} (d : decode X.2.1 pc = .ok (.ifCond .le off, 3)) (ht : (pc : Int) + off = (tgt : Int)) (hq : pc + 3 = q) (kt : x ≤ 0 → TJ G X R E cells slots tgt xs st M) (kf : ¬ x ≤ 0 → TJ G X R E cells slots q xs st M) : TJ G X R E cells slots pc xs (.int x :: st) M := by
  subst hq
  exact fun p e s m args below meth c H locs hcx hP hS ls hl => lv_if_le hcx.1 hcx.2.1 d ht (fun h9 => kt h9 p e s m args below meth c H locs hcx hP hS ls hl) (fun h9 => kf h9 p e s m args below meth c H locs hcx hP hS ls hl)
theorem T.ic_eq {x y : Int32} {off : Int} {tgt : Nat} (d : decode X.2.1 pc = .ok (.if_icmp .eq off, 3)) (ht : (pc : Int) + off = (tgt : Int)) (hq : pc + 3 = q) (kt : x = y → TJ G X R E cells slots tgt xs st M) (kf : ¬ x = y → TJ G X R E cells slots q xs st M) : TJ G X R E cells slots pc xs (.int y :: .int x :: st) M := by
  subst hq
  exact fun p e s m args below meth c H locs hcx hP hS ls hl => lv_icmp_eq hcx.1 hcx.2.1 d ht (fun h9 => kt h9 p e s m args below meth c H locs hcx hP hS ls hl) (fun h9 => kf h9 p e s m args below meth c H locs hcx hP hS ls hl)
theorem T.ic_ne {x y : Int32} {off : Int} {tgt : Nat} (d : decode X.2.1 pc = .ok (.if_icmp .ne off, 3)) (ht : (pc : Int) + off = (tgt : Int)) (hq : pc + 3 = q) (kt : ¬ x = y → TJ G X R E cells slots tgt xs st M) (kf : x = y → TJ G X R E cells slots q xs st M) : TJ G X R E cells slots pc xs (.int y :: .int x :: st) M := by
  subst hq
  exact fun p e s m args below meth c H locs hcx hP hS ls hl => lv_icmp_ne hcx.1 hcx.2.1 d ht (fun h9 => kt h9 p e s m args below meth c H locs hcx hP hS ls hl) (fun h9 => kf h9 p e s m args below meth c H locs hcx hP hS ls hl)
theorem T.ic_lt {x y : Int32} {off : Int} {tgt : Nat} (d : decode X.2.1 pc = .ok (.if_icmp .lt off, 3)) (ht : (pc : Int) + off = (tgt : Int)) (hq : pc + 3 = q) (kt : x < y → TJ G X R E cells slots tgt xs st M) (kf : ¬ x < y → TJ G X R E cells slots q xs st M) : TJ G X R E cells slots pc xs (.int y :: .int x :: st) M := by
  subst hq
  exact fun p e s m args below meth c H locs hcx hP hS ls hl => lv_icmp_lt hcx.1 hcx.2.1 d ht (fun h9 => kt h9 p e s m args below meth c H locs hcx hP hS ls hl) (fun h9 => kf h9 p e s m args below meth c H locs hcx hP hS ls hl)
theorem T.ic_ge {x y : Int32} {off : Int} {tgt : Nat} (d : decode X.2.1 pc = .ok (.if_icmp .ge off, 3)) (ht : (pc : Int) + off = (tgt : Int)) (hq : pc + 3 = q) (kt : y ≤ x → TJ G X R E cells slots tgt xs st M) (kf : ¬ y ≤ x → TJ G X R E cells slots q xs st M) : TJ G X R E cells slots pc xs (.int y :: .int x :: st) M := by
  subst hq
  exact fun p e s m args below meth c H locs hcx hP hS ls hl => lv_icmp_ge hcx.1 hcx.2.1 d ht (fun h9 => kt h9 p e s m args below meth c H locs hcx hP hS ls hl) (fun h9 => kf h9 p e s m args below meth c H locs hcx hP hS ls hl)
theorem T.ic_gt {x y : Int32} {off : Int} {tgt : Nat} (d : decode X.2.1 pc = .ok (.if_icmp .gt off, 3)) (ht : (pc : Int) + off = (tgt : Int)) (hq : pc + 3 = q) (kt : y < x → TJ G X R E cells slots tgt xs st M) (kf : ¬ y < x → TJ G X R E cells slots q xs st M) : TJ G X R E cells slots pc xs (.int y :: .int x :: st) M := by
  subst hq
  exact fun p e s m args below meth c H locs hcx hP hS ls hl => lv_icmp_gt hcx.1 hcx.2.1 d ht (fun h9 => kt h9 p e s m args below meth c H locs hcx hP hS ls hl) (fun h9 => kf h9 p e s m args below meth c H locs hcx hP hS ls hl)
theorem T.ic_le {x y : Int32} {off : Int} {tgt : Nat} (d : decode X.2.1 pc = .ok (.if_icmp .le off, 3)) (ht : (pc : Int) + off = (tgt : Int)) (hq : pc + 3 = q) (kt : x ≤ y → TJ G X R E cells slots tgt xs st M) (kf : ¬ x ≤ y → TJ G X R E cells slots q xs st M) : TJ G X R E cells slots pc xs (.int y :: .int x :: st) M := by
  subst hq
  exact fun p e s m args below meth c H locs hcx hP hS ls hl => lv_icmp_le hcx.1 hcx.2.1 d ht (fun h9 => kt h9 p e s m args below meth c H locs hcx hP hS ls hl) (fun h9 => kf h9 p e s m args below meth c H locs hcx hP hS ls hl)
theorem T.goto {off : Int} {tgt : Nat} (d : decode X.2.1 pc = .ok (.goto off, 3)) (ht : (pc : Int) + off = (tgt : Int)) (k : TJ G X R E cells slots tgt xs st M) : TJ G X R E cells slots pc xs st M := fun p e s m args below meth c H locs hcx hP hS ls hl => lv_goto hcx.1 hcx.2.1 d ht (k p e s m args below meth c H locs hcx hP hS ls hl)
theorem T.swIn {x : Int32} {dflt lo hi : Int} {offs : Array Int} {len : Nat} {off : Int} {tgt : Nat} (d : decode X.2.1 pc = .ok (.tableswitch dflt lo hi offs, len)) (h1 : ¬ x.toInt < lo) (h2 : ¬ hi < x.toInt) (ho : offs[(x.toInt - lo).toNat]? = some off) (ht : (pc : Int) + off = (tgt : Int)) (k : TJ G X R E cells slots tgt xs st M) : TJ G X R E cells slots pc xs (.int x :: st) M := fun p e s m args below meth c H locs hcx hP hS ls hl => lv_tableIn hcx.1 hcx.2.1 d h1 h2 ho ht (k p e s m args below meth c H locs hcx hP hS ls hl)
theorem T.swOut {x : Int32} {dflt lo hi : Int} {offs : Array Int} {len : Nat} {tgt : Nat} (d : decode X.2.1 pc = .ok (.tableswitch dflt lo hi offs, len)) (h : x.toInt < lo ∨ hi < x.toInt) (ht : (pc : Int) + dflt = (tgt : Int)) (k : TJ G X R E cells slots tgt xs st M) : TJ G X R E cells slots pc xs (.int x :: st) M := fun p e s m args below meth c H locs hcx hP hS ls hl => lv_tableOut hcx.1 hcx.2.1 d h ht (k p e s m args below meth c H locs hcx hP hS ls hl)
theorem sk_L.get {ls : Array Slot} {n : Nat} {xs : List (Option Value)} (h : sk_L ls n xs) {i : Nat} {v : Value} (hi : xs[i]? = some (some v)) : ls[i]? = some (.val v) := h.2.2 i v hi
def sk_ok1 (a : Option Value) : Prop := ∀ v, a = some v → v.category = 1
theorem sk_ok_n : sk_ok1 none := fun _ h => by cases h
theorem sk_ok_i {x : Int32} : sk_ok1 (some (.int x)) := fun _ h => by cases h; rfl
theorem sk_ok_r {x : Nat} : sk_ok1 (some (.ref x)) := fun _ h => by cases h; rfl
theorem sk_hp {xs : List (Option Value)} {k i : Nat} {a : Option Value} (hi : i = k + 1) (h : xs[k]? = some a) (hp : sk_ok1 a) : ∀ j, j + 1 = i → ∀ u, xs[j]? = some (some u) → u.category = 1 := by
  intro j hj u hu
  obtain rfl : j = k := by omega
  rw [h] at hu
  exact hp u (Option.some.inj hu)
/-- the pairs of a list of locals -/
def sk_pr (xs : List (Option Value)) : List (Nat × Value) := (List.range xs.length).filterMap fun i => match xs[i]? with
  | some (some v) => some (i, v)
  | _ => none
theorem sk_pr_mem {xs : List (Option Value)} {q : Nat × Value} : q ∈ sk_pr xs ↔ xs[q.1]? = some (some q.2) := by
  unfold sk_pr
  rw [List.mem_filterMap]
  constructor
  · rintro ⟨i, -, h⟩
    revert h
    cases h2 : xs[i]? with
    | none => intro h; cases h
    | some a =>
      cases a with
      | none => intro h; cases h
      | some v => intro h; cases h; exact h2
  · intro h
    refine ⟨q.1, List.mem_range.mpr (List.getElem?_eq_some_iff.mp h).1, ?_⟩
    rw [h]
theorem sk_L.has {ls : Array Slot} {n : Nat} {xs : List (Option Value)} (h : sk_L ls n xs) : lv_has ls n (sk_pr xs) := ⟨h.1, h.2.1, fun q hq => h.2.2 q.1 q.2 (sk_pr_mem.mp hq)⟩
theorem sk_L.st1 {ls : Array Slot} {n i : Nat} {xs : List (Option Value)} {v : Value} (h9 : lv_has ls n ((i, v) :: (sk_pr xs).filter (fun q => !(q.1 == i) && !(q.1 + 1 == i && q.2.category == 2)))) (hp : ∀ j, j + 1 = i → ∀ u, xs[j]? = some (some u) → u.category = 1) : sk_L ls n (xs.set i (some v)) := by
  refine ⟨h9.1, h9.2.1, fun k u hk => ?_⟩
  rw [List.getElem?_set] at hk
  by_cases hik : i = k
  · subst hik
    by_cases hlt : i < xs.length
    · simp [hlt] at hk; subst hk
      exact h9.2.2 (i, v) List.mem_cons_self
    · simp [hlt] at hk
  · simp [hik] at hk
    refine h9.2.2 (k, u) (List.mem_cons_of_mem _ (List.mem_filter.mpr ⟨sk_pr_mem.mpr hk, ?_⟩))
    have e1 : (k == i) = false := by simp; exact fun q => hik q.symm
    by_cases hj : k + 1 = i
    · have := hp k hj u hk
      simp [e1, this]
    · simp [e1, hj]
theorem sk_L.st2 {ls : Array Slot} {n i : Nat} {xs : List (Option Value)} {v : Value} (h9 : lv_has ls n ((i, v) :: (sk_pr xs).filter (fun q => !(q.1 == i) && (!(q.1 == i + 1) && !(q.1 + 1 == i && q.2.category == 2))))) (hp : ∀ j, j + 1 = i → ∀ u, xs[j]? = some (some u) → u.category = 1) : sk_L ls n ((xs.set i (some v)).set (i + 1) none) := by
  refine ⟨h9.1, h9.2.1, fun k u hk => ?_⟩
  rw [List.getElem?_set, List.getElem?_set] at hk
  by_cases hik1 : i + 1 = k
  · subst hik1
    by_cases hlt : i + 1 < xs.length <;> simp [hlt] at hk
  · by_cases hik : i = k
    · subst hik
      by_cases hlt : i < xs.length
      · simp [hlt] at hk; subst hk
        exact h9.2.2 (i, v) List.mem_cons_self
      · simp [hlt] at hk
    · simp [hik, hik1] at hk
      refine h9.2.2 (k, u) (List.mem_cons_of_mem _ (List.mem_filter.mpr ⟨sk_pr_mem.mpr hk, ?_⟩))
      have e1 : (k == i) = false := by simp; exact fun q => hik q.symm
      have e2 : (k == i + 1) = false := by simp; exact fun q => hik1 q.symm
      by_cases hj : k + 1 = i
      · have := hp k hj u hk
        simp [e1, e2, this]
      · simp [e1, e2, hj]
theorem T.ild_0 {r : List (Option Value)} {x : Int32} (d : decode X.2.1 pc = .ok (.iload_n 0, 1)) (hq : pc + 1 = q) (k : TJ G X R E cells slots q (some (.int x) :: r) (.int x :: st) M) : TJ G X R E cells slots pc (some (.int x) :: r) st M := by
  subst hq
  exact fun p e s m args below meth c H locs hcx hP hS ls hl => lv_iload_n hcx.1 hcx.2.1 d rfl (hl.get rfl) (k p e s m args below meth c H locs hcx hP hS ls hl)
theorem T.lld_0 {r : List (Option Value)} {x : Int64} (d : decode X.2.1 pc = .ok (.lload_n 0, 1)) (hq : pc + 1 = q) (k : TJ G X R E cells slots q (some (.long x) :: r) (.long x :: st) M) : TJ G X R E cells slots pc (some (.long x) :: r) st M := by
  subst hq
  exact fun p e s m args below meth c H locs hcx hP hS ls hl => lv_lload_n hcx.1 hcx.2.1 d rfl (hl.get rfl) (k p e s m args below meth c H locs hcx hP hS ls hl)
theorem T.ald_0 {r : List (Option Value)} {x : Nat} (d : decode X.2.1 pc = .ok (.aload_n 0, 1)) (hq : pc + 1 = q) (k : TJ G X R E cells slots q (some (.ref x) :: r) (.ref x :: st) M) : TJ G X R E cells slots pc (some (.ref x) :: r) st M := by
  subst hq
  exact fun p e s m args below meth c H locs hcx hP hS ls hl => lv_aload_n hcx.1 hcx.2.1 d rfl (hl.get rfl) (k p e s m args below meth c H locs hcx hP hS ls hl)
theorem T.ild_1 {a0 : Option Value} {r : List (Option Value)} {x : Int32} (d : decode X.2.1 pc = .ok (.iload_n 1, 1)) (hq : pc + 1 = q) (k : TJ G X R E cells slots q (a0 :: some (.int x) :: r) (.int x :: st) M) : TJ G X R E cells slots pc (a0 :: some (.int x) :: r) st M := by
  subst hq
  exact fun p e s m args below meth c H locs hcx hP hS ls hl => lv_iload_n hcx.1 hcx.2.1 d rfl (hl.get rfl) (k p e s m args below meth c H locs hcx hP hS ls hl)
theorem T.lld_1 {a0 : Option Value} {r : List (Option Value)} {x : Int64} (d : decode X.2.1 pc = .ok (.lload_n 1, 1)) (hq : pc + 1 = q) (k : TJ G X R E cells slots q (a0 :: some (.long x) :: r) (.long x :: st) M) : TJ G X R E cells slots pc (a0 :: some (.long x) :: r) st M := by
  subst hq
  exact fun p e s m args below meth c H locs hcx hP hS ls hl => lv_lload_n hcx.1 hcx.2.1 d rfl (hl.get rfl) (k p e s m args below meth c H locs hcx hP hS ls hl)
theorem T.ald_1 {a0 : Option Value} {r : List (Option Value)} {x : Nat} (d : decode X.2.1 pc = .ok (.aload_n 1, 1)) (hq : pc + 1 = q) (k : TJ G X R E cells slots q (a0 :: some (.ref x) :: r) (.ref x :: st) M) : TJ G X R E cells slots pc (a0 :: some (.ref x) :: r) st M := by
  subst hq
  exact fun p e s m args below meth c H locs hcx hP hS ls hl => lv_aload_n hcx.1 hcx.2.1 d rfl (hl.get rfl) (k p e s m args below meth c H locs hcx hP hS ls hl)
theorem T.ild_2 {a0 a1 : Option Value} {r : List (Option Value)} {x : Int32} (d : decode X.2.1 pc = .ok (.iload_n 2, 1)) (hq : pc + 1 = q) (k : TJ G X R E cells slots q (a0 :: a1 :: some (.int x) :: r) (.int x :: st) M) : TJ G X R E cells slots pc (a0 :: a1 :: some (.int x) :: r) st M := by
  subst hq
  exact fun p e s m args below meth c H locs hcx hP hS ls hl => lv_iload_n hcx.1 hcx.2.1 d rfl (hl.get rfl) (k p e s m args below meth c H locs hcx hP hS ls hl)
theorem T.lld_2 {a0 a1 : Option Value} {r : List (Option Value)} {x : Int64} (d : decode X.2.1 pc = .ok (.lload_n 2, 1)) (hq : pc + 1 = q) (k : TJ G X R E cells slots q (a0 :: a1 :: some (.long x) :: r) (.long x :: st) M) : TJ G X R E cells slots pc (a0 :: a1 :: some (.long x) :: r) st M := by
  subst hq
  exact fun p e s m args below meth c H locs hcx hP hS ls hl => lv_lload_n hcx.1 hcx.2.1 d rfl (hl.get rfl) (k p e s m args below meth c H locs hcx hP hS ls hl)
theorem T.ald_2 {a0 a1 : Option Value} {r : List (Option Value)} {x : Nat} (d : decode X.2.1 pc = .ok (.aload_n 2, 1)) (hq : pc + 1 = q) (k : TJ G X R E cells slots q (a0 :: a1 :: some (.ref x) :: r) (.ref x :: st) M) : TJ G X R E cells slots pc (a0 :: a1 :: some (.ref x) :: r) st M := by
  subst hq
  exact fun p e s m args below meth c H locs hcx hP hS ls hl => lv_aload_n hcx.1 hcx.2.1 d rfl (hl.get rfl) (k p e s m args below meth c H locs hcx hP hS ls hl)
theorem T.ild_3 {a0 a1 a2 : Option Value} {r : List (Option Value)} {x : Int32} (d : decode X.2.1 pc = .ok (.iload_n 3, 1)) (hq : pc + 1 = q) (k : TJ G X R E cells slots q (a0 :: a1 :: a2 :: some (.int x) :: r) (.int x :: st) M) : TJ G X R E cells slots pc (a0 :: a1 :: a2 :: some (.int x) :: r) st M := by
  subst hq
  exact fun p e s m args below meth c H locs hcx hP hS ls hl => lv_iload_n hcx.1 hcx.2.1 d rfl (hl.get rfl) (k p e s m args below meth c H locs hcx hP hS ls hl)
theorem T.lld_3 {a0 a1 a2 : Option Value} {r : List (Option Value)} {x : Int64} (d : decode X.2.1 pc = .ok (.lload_n 3, 1)) (hq : pc + 1 = q) (k : TJ G X R E cells slots q (a0 :: a1 :: a2 :: some (.long x) :: r) (.long x :: st) M) : TJ G X R E cells slots pc (a0 :: a1 :: a2 :: some (.long x) :: r) st M := by
  subst hq
  exact fun p e s m args below meth c H locs hcx hP hS ls hl => lv_lload_n hcx.1 hcx.2.1 d rfl (hl.get rfl) (k p e s m args below meth c H locs hcx hP hS ls hl)
theorem T.ald_3 {a0 a1 a2 : Option Value} {r : List (Option Value)} {x : Nat} (d : decode X.2.1 pc = .ok (.aload_n 3, 1)) (hq : pc + 1 = q) (k : TJ G X R E cells slots q (a0 :: a1 :: a2 :: some (.ref x) :: r) (.ref x :: st) M) : TJ G X R E cells slots pc (a0 :: a1 :: a2 :: some (.ref x) :: r) st M := by
  subst hq
  exact fun p e s m args below meth c H locs hcx hP hS ls hl => lv_aload_n hcx.1 hcx.2.1 d rfl (hl.get rfl) (k p e s m args below meth c H locs hcx hP hS ls hl)
theorem T.ild_4 {a0 a1 a2 a3 : Option Value} {r : List (Option Value)} {x : Int32} (d : decode X.2.1 pc = .ok (.iload 4, 2)) (hq : pc + 2 = q) (k : TJ G X R E cells slots q (a0 :: a1 :: a2 :: a3 :: some (.int x) :: r) (.int x :: st) M) : TJ G X R E cells slots pc (a0 :: a1 :: a2 :: a3 :: some (.int x) :: r) st M := by
  subst hq
  exact fun p e s m args below meth c H locs hcx hP hS ls hl => lv_iload hcx.1 hcx.2.1 d (hl.get rfl) (k p e s m args below meth c H locs hcx hP hS ls hl)
theorem T.lld_4 {a0 a1 a2 a3 : Option Value} {r : List (Option Value)} {x : Int64} (d : decode X.2.1 pc = .ok (.lload 4, 2)) (hq : pc + 2 = q) (k : TJ G X R E cells slots q (a0 :: a1 :: a2 :: a3 :: some (.long x) :: r) (.long x :: st) M) : TJ G X R E cells slots pc (a0 :: a1 :: a2 :: a3 :: some (.long x) :: r) st M := by
  subst hq
  exact fun p e s m args below meth c H locs hcx hP hS ls hl => lv_lload hcx.1 hcx.2.1 d (hl.get rfl) (k p e s m args below meth c H locs hcx hP hS ls hl)
theorem T.ald_4 {a0 a1 a2 a3 : Option Value} {r : List (Option Value)} {x : Nat} (d : decode X.2.1 pc = .ok (.aload 4, 2)) (hq : pc + 2 = q) (k : TJ G X R E cells slots q (a0 :: a1 :: a2 :: a3 :: some (.ref x) :: r) (.ref x :: st) M) : TJ G X R E cells slots pc (a0 :: a1 :: a2 :: a3 :: some (.ref x) :: r) st M := by
  subst hq
  exact fun p e s m args below meth c H locs hcx hP hS ls hl => lv_aload hcx.1 hcx.2.1 d (hl.get rfl) (k p e s m args below meth c H locs hcx hP hS ls hl)
theorem T.ild_5 {a0 a1 a2 a3 a4 : Option Value} {r : List (Option Value)} {x : Int32} (d : decode X.2.1 pc = .ok (.iload 5, 2)) (hq : pc + 2 = q) (k : TJ G X R E cells slots q (a0 :: a1 :: a2 :: a3 :: a4 :: some (.int x) :: r) (.int x :: st) M) : TJ G X R E cells slots pc (a0 :: a1 :: a2 :: a3 :: a4 :: some (.int x) :: r) st M := by
  subst hq
  exact fun p e s m args below meth c H locs hcx hP hS ls hl => lv_iload hcx.1 hcx.2.1 d (hl.get rfl) (k p e s m args below meth c H locs hcx hP hS ls hl)
theorem T.lld_5 {a0 a1 a2 a3 a4 : Option Value} {r : List (Option Value)} {x : Int64} (d : decode X.2.1 pc = .ok (.lload 5, 2)) (hq : pc + 2 = q) (k : TJ G X R E cells slots q (a0 :: a1 :: a2 :: a3 :: a4 :: some (.long x) :: r) (.long x :: st) M) : TJ G X R E cells slots pc (a0 :: a1 :: a2 :: a3 :: a4 :: some (.long x) :: r) st M := by
  subst hq
  exact fun p e s m args below meth c H locs hcx hP hS ls hl => lv_lload hcx.1 hcx.2.1 d (hl.get rfl) (k p e s m args below meth c H locs hcx hP hS ls hl)
theorem T.ald_5 {a0 a1 a2 a3 a4 : Option Value} {r : List (Option Value)} {x : Nat} (d : decode X.2.1 pc = .ok (.aload 5, 2)) (hq : pc + 2 = q) (k : TJ G X R E cells slots q (a0 :: a1 :: a2 :: a3 :: a4 :: some (.ref x) :: r) (.ref x :: st) M) : TJ G X R E cells slots pc (a0 :: a1 :: a2 :: a3 :: a4 :: some (.ref x) :: r) st M := by
  subst hq
  exact fun p e s m args below meth c H locs hcx hP hS ls hl => lv_aload hcx.1 hcx.2.1 d (hl.get rfl) (k p e s m args below meth c H locs hcx hP hS ls hl)
theorem T.ild_6 {a0 a1 a2 a3 a4 a5 : Option Value} {r : List (Option Value)} {x : Int32} (d : decode X.2.1 pc = .ok (.iload 6, 2)) (hq : pc + 2 = q) (k : TJ G X R E cells slots q (a0 :: a1 :: a2 :: a3 :: a4 :: a5 :: some (.int x) :: r) (.int x :: st) M) : TJ G X R E cells slots pc (a0 :: a1 :: a2 :: a3 :: a4 :: a5 :: some (.int x) :: r) st M := by
  subst hq
  exact fun p e s m args below meth c H locs hcx hP hS ls hl => lv_iload hcx.1 hcx.2.1 d (hl.get rfl) (k p e s m args below meth c H locs hcx hP hS ls hl)
theorem T.lld_6 {a0 a1 a2 a3 a4 a5 : Option Value} {r : List (Option Value)} {x : Int64} (d : decode X.2.1 pc = .ok (.lload 6, 2)) (hq : pc + 2 = q) (k : TJ G X R E cells slots q (a0 :: a1 :: a2 :: a3 :: a4 :: a5 :: some (.long x) :: r) (.long x :: st) M) : TJ G X R E cells slots pc (a0 :: a1 :: a2 :: a3 :: a4 :: a5 :: some (.long x) :: r) st M := by
  subst hq
  exact fun p e s m args below meth c H locs hcx hP hS ls hl => lv_lload hcx.1 hcx.2.1 d (hl.get rfl) (k p e s m args below meth c H locs hcx hP hS ls hl)
theorem T.ald_6 {a0 a1 a2 a3 a4 a5 : Option Value} {r : List (Option Value)} {x : Nat} (d : decode X.2.1 pc = .ok (.aload 6, 2)) (hq : pc + 2 = q) (k : TJ G X R E cells slots q (a0 :: a1 :: a2 :: a3 :: a4 :: a5 :: some (.ref x) :: r) (.ref x :: st) M) : TJ G X R E cells slots pc (a0 :: a1 :: a2 :: a3 :: a4 :: a5 :: some (.ref x) :: r) st M := by
  subst hq
  exact fun p e s m args below meth c H locs hcx hP hS ls hl => lv_aload hcx.1 hcx.2.1 d (hl.get rfl) (k p e s m args below meth c H locs hcx hP hS ls hl)
theorem T.ild_7 {a0 a1 a2 a3 a4 a5 a6 : Option Value} {r : List (Option Value)} {x : Int32} (d : decode X.2.1 pc = .ok (.iload 7, 2)) (hq : pc + 2 = q) (k : TJ G X R E cells slots q (a0 :: a1 :: a2 :: a3 :: a4 :: a5 :: a6 :: some (.int x) :: r) (.int x :: st) M) : TJ G X R E cells slots pc (a0 :: a1 :: a2 :: a3 :: a4 :: a5 :: a6 :: some (.int x) :: r) st M := by
  subst hq
  exact fun p e s m args below meth c H locs hcx hP hS ls hl => lv_iload hcx.1 hcx.2.1 d (hl.get rfl) (k p e s m args below meth c H locs hcx hP hS ls hl)
theorem T.lld_7 {a0 a1 a2 a3 a4 a5 a6 : Option Value} {r : List (Option Value)} {x : Int64} (d : decode X.2.1 pc = .ok (.lload 7, 2)) (hq : pc + 2 = q) (k : TJ G X R E cells slots q (a0 :: a1 :: a2 :: a3 :: a4 :: a5 :: a6 :: some (.long x) :: r) (.long x :: st) M) : TJ G X R E cells slots pc (a0 :: a1 :: a2 :: a3 :: a4 :: a5 :: a6 :: some (.long x) :: r) st M := by
  subst hq
  exact fun p e s m args below meth c H locs hcx hP hS ls hl => lv_lload hcx.1 hcx.2.1 d (hl.get rfl) (k p e s m args below meth c H locs hcx hP hS ls hl)
theorem T.ald_7 {a0 a1 a2 a3 a4 a5 a6 : Option Value} {r : List (Option Value)} {x : Nat} (d : decode X.2.1 pc = .ok (.aload 7, 2)) (hq : pc + 2 = q) (k : TJ G X R E cells slots q (a0 :: a1 :: a2 :: a3 :: a4 :: a5 :: a6 :: some (.ref x) :: r) (.ref x :: st) M) : TJ G X R E cells slots pc (a0 :: a1 :: a2 :: a3 :: a4 :: a5 :: a6 :: some (.ref x) :: r) st M := by
  subst hq
  exact fun p e s m args below meth c H locs hcx hP hS ls hl => lv_aload hcx.1 hcx.2.1 d (hl.get rfl) (k p e s m args below meth c H locs hcx hP hS ls hl)
theorem T.ild_8 {a0 a1 a2 a3 a4 a5 a6 a7 : Option Value} {r : List (Option Value)} {x : Int32} (d : decode X.2.1 pc = .ok (.iload 8, 2)) (hq : pc + 2 = q) (k : TJ G X R E cells slots q (a0 :: a1 :: a2 :: a3 :: a4 :: a5 :: a6 :: a7 :: some (.int x) :: r) (.int x :: st) M) : TJ G X R E cells slots pc (a0 :: a1 :: a2 :: a3 :: a4 :: a5 :: a6 :: a7 :: some (.int x) :: r) st M := by
  subst hq
  exact fun p e s m args below meth c H locs hcx hP hS ls hl => lv_iload hcx.1 hcx.2.1 d (hl.get rfl) (k p e s m args below meth c H locs hcx hP hS ls hl)
theorem T.lld_8 {a0 a1 a2 a3 a4 a5 a6 a7 : Option Value} {r : List (Option Value)} {x : Int64} (d : decode X.2.1 pc = .ok (.lload 8, 2)) (hq : pc + 2 = q) (k : TJ G X R E cells slots q (a0 :: a1 :: a2 :: a3 :: a4 :: a5 :: a6 :: a7 :: some (.long x) :: r) (.long x :: st) M) : TJ G X R E cells slots pc (a0 :: a1 :: a2 :: a3 :: a4 :: a5 :: a6 :: a7 :: some (.long x) :: r) st M := by
  subst hq
  exact fun p e s m args below meth c H locs hcx hP hS ls hl => lv_lload hcx.1 hcx.2.1 d (hl.get rfl) (k p e s m args below meth c H locs hcx hP hS ls hl)
theorem T.ald_8 {a0 a1 a2 a3 a4 a5 a6 a7 : Option Value} {r : List (Option Value)} {x : Nat} (d : decode X.2.1 pc = .ok (.aload 8, 2)) (hq : pc + 2 = q) (k : TJ G X R E cells slots q (a0 :: a1 :: a2 :: a3 :: a4 :: a5 :: a6 :: a7 :: some (.ref x) :: r) (.ref x :: st) M) : TJ G X R E cells slots pc (a0 :: a1 :: a2 :: a3 :: a4 :: a5 :: a6 :: a7 :: some (.ref x) :: r) st M := by
  subst hq
  exact fun p e s m args below meth c H locs hcx hP hS ls hl => lv_aload hcx.1 hcx.2.1 d (hl.get rfl) (k p e s m args below meth c H locs hcx hP hS ls hl)
theorem T.ild_9 {a0 a1 a2 a3 a4 a5 a6 a7 a8 : Option Value} {r : List (Option Value)} {x : Int32} (d : decode X.2.1 pc = .ok (.iload 9, 2)) (hq : pc + 2 = q) (k : TJ G X R E cells slots q (a0 :: a1 :: a2 :: a3 :: a4 :: a5 :: a6 :: a7 :: a8 :: some (.int x) :: r) (.int x :: st) M) : TJ G X R E cells slots pc (a0 :: a1 :: a2 :: a3 :: a4 :: a5 :: a6 :: a7 :: a8 :: some (.int x) :: r) st M := by
  subst hq
  exact fun p e s m args below meth c H locs hcx hP hS ls hl => lv_iload hcx.1 hcx.2.1 d (hl.get rfl) (k p e s m args below meth c H locs hcx hP hS ls hl)
theorem T.lld_9 {a0 a1 a2 a3 a4 a5 a6 a7 a8 : Option Value} {r : List (Option Value)} {x : Int64} (d : decode X.2.1 pc = .ok (.lload 9, 2)) (hq : pc + 2 = q) (k : TJ G X R E cells slots q (a0 :: a1 :: a2 :: a3 :: a4 :: a5 :: a6 :: a7 :: a8 :: some (.long x) :: r) (.long x :: st) M) : TJ G X R E cells slots pc (a0 :: a1 :: a2 :: a3 :: a4 :: a5 :: a6 :: a7 :: a8 :: some (.long x) :: r) st M := by
  subst hq
  exact fun p e s m args below meth c H locs hcx hP hS ls hl => lv_lload hcx.1 hcx.2.1 d (hl.get rfl) (k p e s m args below meth c H locs hcx hP hS ls hl)
theorem T.ald_9 {a0 a1 a2 a3 a4 a5 a6 a7 a8 : Option Value} {r : List (Option Value)} {x : Nat} (d : decode X.2.1 pc = .ok (.aload 9, 2)) (hq : pc + 2 = q) (k : TJ G X R E cells slots q (a0 :: a1 :: a2 :: a3 :: a4 :: a5 :: a6 :: a7 :: a8 :: some (.ref x) :: r) (.ref x :: st) M) : TJ G X R E cells slots pc (a0 :: a1 :: a2 :: a3 :: a4 :: a5 :: a6 :: a7 :: a8 :: some (.ref x) :: r) st M := by
  subst hq
  exact fun p e s m args below meth c H locs hcx hP hS ls hl => lv_aload hcx.1 hcx.2.1 d (hl.get rfl) (k p e s m args below meth c H locs hcx hP hS ls hl)
theorem T.ild_10 {a0 a1 a2 a3 a4 a5 a6 a7 a8 a9 : Option Value} {r : List (Option Value)} {x : Int32} (d : decode X.2.1 pc = .ok (.iload 10, 2)) (hq : pc + 2 = q) (k : TJ G X R E cells slots q (a0 :: a1 :: a2 :: a3 :: a4 :: a5 :: a6 :: a7 :: a8 :: a9 :: some (.int x) :: r) (.int x :: st) M) : TJ G X R E cells slots pc (a0 :: a1 :: a2 :: a3 :: a4 :: a5 :: a6 :: a7 :: a8 :: a9 :: some (.int x) :: r) st M := by
  subst hq
  exact fun p e s m args below meth c H locs hcx hP hS ls hl => lv_iload hcx.1 hcx.2.1 d (hl.get rfl) (k p e s m args below meth c H locs hcx hP hS ls hl)
theorem T.lld_10 {a0 a1 a2 a3 a4 a5 a6 a7 a8 a9 : Option Value} {r : List (Option Value)} {x : Int64} (d : decode X.2.1 pc = .ok (.lload 10, 2)) (hq : pc + 2 = q) (k : TJ G X R E cells slots q (a0 :: a1 :: a2 :: a3 :: a4 :: a5 :: a6 :: a7 :: a8 :: a9 :: some (.long x) :: r) (.long x :: st) M) : TJ G X R E cells slots pc (a0 :: a1 :: a2 :: a3 :: a4 :: a5 :: a6 :: a7 :: a8 :: a9 :: some (.long x) :: r) st M := by
  subst hq
  exact fun p e s m args below meth c H locs hcx hP hS ls hl => lv_lload hcx.1 hcx.2.1 d (hl.get rfl) (k p e s m args below meth c H locs hcx hP hS ls hl)
theorem T.ald_10 {a0 a1 a2 a3 a4 a5 a6 a7 a8 a9 : Option Value} {r : List (Option Value)} {x : Nat} (d : decode X.2.1 pc = .ok (.aload 10, 2)) (hq : pc + 2 = q) (k : TJ G X R E cells slots q (a0 :: a1 :: a2 :: a3 :: a4 :: a5 :: a6 :: a7 :: a8 :: a9 :: some (.ref x) :: r) (.ref x :: st) M) : TJ G X R E cells slots pc (a0 :: a1 :: a2 :: a3 :: a4 :: a5 :: a6 :: a7 :: a8 :: a9 :: some (.ref x) :: r) st M := by
  subst hq
  exact fun p e s m args below meth c H locs hcx hP hS ls hl => lv_aload hcx.1 hcx.2.1 d (hl.get rfl) (k p e s m args below meth c H locs hcx hP hS ls hl)
theorem T.ild_11 {a0 a1 a2 a3 a4 a5 a6 a7 a8 a9 a10 : Option Value} {r : List (Option Value)} {x : Int32} (d : decode X.2.1 pc = .ok (.iload 11, 2)) (hq : pc + 2 = q) (k : TJ G X R E cells slots q (a0 :: a1 :: a2 :: a3 :: a4 :: a5 :: a6 :: a7 :: a8 :: a9 :: a10 :: some (.int x) :: r) (.int x :: st) M) : TJ G X R E cells slots pc (a0 :: a1 :: a2 :: a3 :: a4 :: a5 :: a6 :: a7 :: a8 :: a9 :: a10 :: some (.int x) :: r) st M := by
  subst hq
  exact fun p e s m args below meth c H locs hcx hP hS ls hl => lv_iload hcx.1 hcx.2.1 d (hl.get rfl) (k p e s m args below meth c H locs hcx hP hS ls hl)
theorem T.lld_11 {a0 a1 a2 a3 a4 a5 a6 a7 a8 a9 a10 : Option Value} {r : List (Option Value)} {x : Int64} (d : decode X.2.1 pc = .ok (.lload 11, 2)) (hq : pc + 2 = q) (k : TJ G X R E cells slots q (a0 :: a1 :: a2 :: a3 :: a4 :: a5 :: a6 :: a7 :: a8 :: a9 :: a10 :: some (.long x) :: r) (.long x :: st) M) : TJ G X R E cells slots pc (a0 :: a1 :: a2 :: a3 :: a4 :: a5 :: a6 :: a7 :: a8 :: a9 :: a10 :: some (.long x) :: r) st M := by
  subst hq
  exact fun p e s m args below meth c H locs hcx hP hS ls hl => lv_lload hcx.1 hcx.2.1 d (hl.get rfl) (k p e s m args below meth c H locs hcx hP hS ls hl)
theorem T.ald_11 {a0 a1 a2 a3 a4 a5 a6 a7 a8 a9 a10 : Option Value} {r : List (Option Value)} {x : Nat} (d : decode X.2.1 pc = .ok (.aload 11, 2)) (hq : pc + 2 = q) (k : TJ G X R E cells slots q (a0 :: a1 :: a2 :: a3 :: a4 :: a5 :: a6 :: a7 :: a8 :: a9 :: a10 :: some (.ref x) :: r) (.ref x :: st) M) : TJ G X R E cells slots pc (a0 :: a1 :: a2 :: a3 :: a4 :: a5 :: a6 :: a7 :: a8 :: a9 :: a10 :: some (.ref x) :: r) st M := by
  subst hq
  exact fun p e s m args below meth c H locs hcx hP hS ls hl => lv_aload hcx.1 hcx.2.1 d (hl.get rfl) (k p e s m args below meth c H locs hcx hP hS ls hl)
theorem T.ild_12 {a0 a1 a2 a3 a4 a5 a6 a7 a8 a9 a10 a11 : Option Value} {r : List (Option Value)} {x : Int32} (d : decode X.2.1 pc = .ok (.iload 12, 2)) (hq : pc + 2 = q) (k : TJ G X R E cells slots q (a0 :: a1 :: a2 :: a3 :: a4 :: a5 :: a6 :: a7 :: a8 :: a9 :: a10 :: a11 :: some (.int x) :: r) (.int x :: st) M) : TJ G X R E cells slots pc (a0 :: a1 :: a2 :: a3 :: a4 :: a5 :: a6 :: a7 :: a8 :: a9 :: a10 :: a11 :: some (.int x) :: r) st M := by
  subst hq
  exact fun p e s m args below meth c H locs hcx hP hS ls hl => lv_iload hcx.1 hcx.2.1 d (hl.get rfl) (k p e s m args below meth c H locs hcx hP hS ls hl)
theorem T.lld_12 {a0 a1 a2 a3 a4 a5 a6 a7 a8 a9 a10 a11 : Option Value} {r : List (Option Value)} {x : Int64} (d : decode X.2.1 pc = .ok (.lload 12, 2)) (hq : pc + 2 = q) (k : TJ G X R E cells slots q (a0 :: a1 :: a2 :: a3 :: a4 :: a5 :: a6 :: a7 :: a8 :: a9 :: a10 :: a11 :: some (.long x) :: r) (.long x :: st) M) : TJ G X R E cells slots pc (a0 :: a1 :: a2 :: a3 :: a4 :: a5 :: a6 :: a7 :: a8 :: a9 :: a10 :: a11 :: some (.long x) :: r) st M := by
  subst hq
  exact fun p e s m args below meth c H locs hcx hP hS ls hl => lv_lload hcx.1 hcx.2.1 d (hl.get rfl) (k p e s m args below meth c H locs hcx hP hS ls hl)
theorem T.ald_12 {a0 a1 a2 a3 a4 a5 a6 a7 a8 a9 a10 a11 : Option Value} {r : List (Option Value)} {x : Nat} (d : decode X.2.1 pc = .ok (.aload 12, 2)) (hq : pc + 2 = q) (k : TJ G X R E cells slots q (a0 :: a1 :: a2 :: a3 :: a4 :: a5 :: a6 :: a7 :: a8 :: a9 :: a10 :: a11 :: some (.ref x) :: r) (.ref x :: st) M) : TJ G X R E cells slots pc (a0 :: a1 :: a2 :: a3 :: a4 :: a5 :: a6 :: a7 :: a8 :: a9 :: a10 :: a11 :: some (.ref x) :: r) st M := by
  subst hq
  exact fun p e s m args below meth c H locs hcx hP hS ls hl => lv_aload hcx.1 hcx.2.1 d (hl.get rfl) (k p e s m args below meth c H locs hcx hP hS ls hl)
theorem T.ild_13 {a0 a1 a2 a3 a4 a5 a6 a7 a8 a9 a10 a11 a12 : Option Value} {r : List (Option Value)} {x : Int32} (d : decode X.2.1 pc = .ok (.iload 13, 2)) (hq : pc + 2 = q) (k : TJ G X R E cells slots q (a0 :: a1 :: a2 :: a3 :: a4 :: a5 :: a6 :: a7 :: a8 :: a9 :: a10 :: a11 :: a12 :: some (.int x) :: r) (.int x :: st) M) : TJ G X R E cells slots pc (a0 :: a1 :: a2 :: a3 :: a4 :: a5 :: a6 :: a7 :: a8 :: a9 :: a10 :: a11 :: a12 :: some (.int x) :: r) st M := by
  subst hq
  exact fun p e s m args below meth c H locs hcx hP hS ls hl => lv_iload hcx.1 hcx.2.1 d (hl.get rfl) (k p e s m args below meth c H locs hcx hP hS ls hl)
theorem T.lld_13 {a0 a1 a2 a3 a4 a5 a6 a7 a8 a9 a10 a11 a12 : Option Value} {r : List (Option Value)} {x : Int64} (d : decode X.2.1 pc = .ok (.lload 13, 2)) (hq : pc + 2 = q) (k : TJ G X R E cells slots q (a0 :: a1 :: a2 :: a3 :: a4 :: a5 :: a6 :: a7 :: a8 :: a9 :: a10 :: a11 :: a12 :: some (.long x) :: r) (.long x :: st) M) : TJ G X R E cells slots pc (a0 :: a1 :: a2 :: a3 :: a4 :: a5 :: a6 :: a7 :: a8 :: a9 :: a10 :: a11 :: a12 :: some (.long x) :: r) st M := by
  subst hq
  exact fun p e s m args below meth c H locs hcx hP hS ls hl => lv_lload hcx.1 hcx.2.1 d (hl.get rfl) (k p e s m args below meth c H locs hcx hP hS ls hl)
theorem T.ald_13 {a0 a1 a2 a3 a4 a5 a6 a7 a8 a9 a10 a11 a12 : Option Value} {r : List (Option Value)} {x : Nat} (d : decode X.2.1 pc = .ok (.aload 13, 2)) (hq : pc + 2 = q) (k : TJ G X R E cells slots q (a0 :: a1 :: a2 :: a3 :: a4 :: a5 :: a6 :: a7 :: a8 :: a9 :: a10 :: a11 :: a12 :: some (.ref x) :: r) (.ref x :: st) M) : TJ G X R E cells slots pc (a0 :: a1 :: a2 :: a3 :: a4 :: a5 :: a6 :: a7 :: a8 :: a9 :: a10 :: a11 :: a12 :: some (.ref x) :: r) st M := by
  subst hq
  exact fun p e s m args below meth c H locs hcx hP hS ls hl => lv_aload hcx.1 hcx.2.1 d (hl.get rfl) (k p e s m args below meth c H locs hcx hP hS ls hl)
theorem T.ild_14 {a0 a1 a2 a3 a4 a5 a6 a7 a8 a9 a10 a11 a12 a13 : Option Value} {r : List (Option Value)} {x : Int32} (d : decode X.2.1 pc = .ok (.iload 14, 2)) (hq : pc + 2 = q) (k : TJ G X R E cells slots q (a0 :: a1 :: a2 :: a3 :: a4 :: a5 :: a6 :: a7 :: a8 :: a9 :: a10 :: a11 :: a12 :: a13 :: some (.int x) :: r) (.int x :: st) M) : TJ G X R E cells slots pc (a0 :: a1 :: a2 :: a3 :: a4 :: a5 :: a6 :: a7 :: a8 :: a9 :: a10 :: a11 :: a12 :: a13 :: some (.int x) :: r) st M := by
  subst hq
  exact fun p e s m args below meth c H locs hcx hP hS ls hl => lv_iload hcx.1 hcx.2.1 d (hl.get rfl) (k p e s m args below meth c H locs hcx hP hS ls hl)
theorem T.lld_14 {a0 a1 a2 a3 a4 a5 a6 a7 a8 a9 a10 a11 a12 a13 : Option Value} {r : List (Option Value)} {x : Int64} (d : decode X.2.1 pc = .ok (.lload 14, 2)) (hq : pc + 2 = q) (k : TJ G X R E cells slots q (a0 :: a1 :: a2 :: a3 :: a4 :: a5 :: a6 :: a7 :: a8 :: a9 :: a10 :: a11 :: a12 :: a13 :: some (.long x) :: r) (.long x :: st) M) : TJ G X R E cells slots pc (a0 :: a1 :: a2 :: a3 :: a4 :: a5 :: a6 :: a7 :: a8 :: a9 :: a10 :: a11 :: a12 :: a13 :: some (.long x) :: r) st M := by
  subst hq
  exact fun p e s m args below meth c H locs hcx hP hS ls hl => lv_lload hcx.1 hcx.2.1 d (hl.get rfl) (k p e s m args below meth c H locs hcx hP hS ls hl)
theorem T.ald_14 {a0 a1 a2 a3 a4 a5 a6 a7 a8 a9 a10 a11 a12 a13 : Option Value} {r : List (Option Value)} {x : Nat} (d : decode X.2.1 pc = .ok (.aload 14, 2)) (hq : pc + 2 = q) (k : TJ G X R E cells slots q (a0 :: a1 :: a2 :: a3 :: a4 :: a5 :: a6 :: a7 :: a8 :: a9 :: a10 :: a11 :: a12 :: a13 :: some (.ref x) :: r) (.ref x :: st) M) : TJ G X R E cells slots pc (a0 :: a1 :: a2 :: a3 :: a4 :: a5 :: a6 :: a7 :: a8 :: a9 :: a10 :: a11 :: a12 :: a13 :: some (.ref x) :: r) st M := by
  subst hq
  exact fun p e s m args below meth c H locs hcx hP hS ls hl => lv_aload hcx.1 hcx.2.1 d (hl.get rfl) (k p e s m args below meth c H locs hcx hP hS ls hl)
theorem T.ild_15 {a0 a1 a2 a3 a4 a5 a6 a7 a8 a9 a10 a11 a12 a13 a14 : Option Value} {r : List (Option Value)} {x : Int32} (d : decode X.2.1 pc = .ok (.iload 15, 2)) (hq : pc + 2 = q) (k : TJ G X R E cells slots q (a0 :: a1 :: a2 :: a3 :: a4 :: a5 :: a6 :: a7 :: a8 :: a9 :: a10 :: a11 :: a12 :: a13 :: a14 :: some (.int x) :: r) (.int x :: st) M) : TJ G X R E cells slots pc (a0 :: a1 :: a2 :: a3 :: a4 :: a5 :: a6 :: a7 :: a8 :: a9 :: a10 :: a11 :: a12 :: a13 :: a14 :: some (.int x) :: r) st M := by
  subst hq
  exact fun p e s m args below meth c H locs hcx hP hS ls hl => lv_iload hcx.1 hcx.2.1 d (hl.get rfl) (k p e s m args below meth c H locs hcx hP hS ls hl)
theorem T.lld_15 {a0 a1 a2 a3 a4 a5 a6 a7 a8 a9 a10 a11 a12 a13 a14 : Option Value} {r : List (Option Value)} {x : Int64} (d : decode X.2.1 pc = .ok (.lload 15, 2)) (hq : pc + 2 = q) (k : TJ G X R E cells slots q (a0 :: a1 :: a2 :: a3 :: a4 :: a5 :: a6 :: a7 :: a8 :: a9 :: a10 :: a11 :: a12 :: a13 :: a14 :: some (.long x) :: r) (.long x :: st) M) : TJ G X R E cells slots pc (a0 :: a1 :: a2 :: a3 :: a4 :: a5 :: a6 :: a7 :: a8 :: a9 :: a10 :: a11 :: a12 :: a13 :: a14 :: some (.long x) :: r) st M := by
  subst hq
  exact fun p e s m args below meth c H locs hcx hP hS ls hl => lv_lload hcx.1 hcx.2.1 d (hl.get rfl) (k p e s m args below meth c H locs hcx hP hS ls hl)
theorem T.ald_15 {a0 a1 a2 a3 a4 a5 a6 a7 a8 a9 a10 a11 a12 a13 a14 : Option Value} {r : List (Option Value)} {x : Nat} (d : decode X.2.1 pc = .ok (.aload 15, 2)) (hq : pc + 2 = q) (k : TJ G X R E cells slots q (a0 :: a1 :: a2 :: a3 :: a4 :: a5 :: a6 :: a7 :: a8 :: a9 :: a10 :: a11 :: a12 :: a13 :: a14 :: some (.ref x) :: r) (.ref x :: st) M) : TJ G X R E cells slots pc (a0 :: a1 :: a2 :: a3 :: a4 :: a5 :: a6 :: a7 :: a8 :: a9 :: a10 :: a11 :: a12 :: a13 :: a14 :: some (.ref x) :: r) st M := by
  subst hq
  exact fun p e s m args below meth c H locs hcx hP hS ls hl => lv_aload hcx.1 hcx.2.1 d (hl.get rfl) (k p e s m args below meth c H locs hcx hP hS ls hl)
theorem T.ist_0 {a0 : Option Value} {r : List (Option Value)} {x : Int32} (d : decode X.2.1 pc = .ok (.istore_n 0, 1)) (hq : pc + 1 = q) (hn : 0 < X.2.2.1) (k : TJ G X R E cells slots q (some (.int x) :: r) st M) : TJ G X R E cells slots pc (a0 :: r) (.int x :: st) M := by
  subst hq
  exact fun p e s m args below meth c H locs hcx hP hS ls hl => lv_istore_n hcx.1 hcx.2.1 d rfl hl.has hn rfl (fun ls9 h9 => k p e s m args below meth c H locs hcx hP hS ls9 (sk_L.st1 h9 (fun j hj => absurd hj (Nat.succ_ne_zero j))))
theorem T.ast_0 {a0 : Option Value} {r : List (Option Value)} {x : Nat} (d : decode X.2.1 pc = .ok (.astore_n 0, 1)) (hq : pc + 1 = q) (hn : 0 < X.2.2.1) (k : TJ G X R E cells slots q (some (.ref x) :: r) st M) : TJ G X R E cells slots pc (a0 :: r) (.ref x :: st) M := by
  subst hq
  exact fun p e s m args below meth c H locs hcx hP hS ls hl => lv_astore_n hcx.1 hcx.2.1 d rfl hl.has hn rfl (fun ls9 h9 => k p e s m args below meth c H locs hcx hP hS ls9 (sk_L.st1 h9 (fun j hj => absurd hj (Nat.succ_ne_zero j))))
theorem T.lst_0 {a0 a1 : Option Value} {r : List (Option Value)} {x : Int64} (d : decode X.2.1 pc = .ok (.lstore_n 0, 1)) (hq : pc + 1 = q) (hn : 0 + 1 < X.2.2.1) (k : TJ G X R E cells slots q (some (.long x) :: none :: r) st M) : TJ G X R E cells slots pc (a0 :: a1 :: r) (.long x :: st) M := by
  subst hq
  exact fun p e s m args below meth c H locs hcx hP hS ls hl => lv_lstore_n hcx.1 hcx.2.1 d rfl hl.has hn rfl (fun ls9 h9 => k p e s m args below meth c H locs hcx hP hS ls9 (sk_L.st2 h9 (fun j hj => absurd hj (Nat.succ_ne_zero j))))
theorem T.inc_0 {r : List (Option Value)} {x : Int32} {n : Int} (v : Int32) (d : decode X.2.1 pc = .ok (.iinc 0 n, 3)) (hq : pc + 3 = q) (hv : Int32.ofInt n = v) (hn : 0 < X.2.2.1) (k : TJ G X R E cells slots q (some (.int (x + v)) :: r) st M) : TJ G X R E cells slots pc (some (.int x) :: r) st M := by
  subst hq
  subst hv
  refine fun p e s m args below meth c H locs hcx hP hS ls hl => ?_
  obtain ⟨i9, hi9⟩ := List.mem_iff_getElem?.mp (sk_pr_mem.mpr (show (some (Value.int x) :: r)[(0, Value.int x).1]? = some (some (0, Value.int x).2) from rfl))
  exact lv_iinc hcx.1 hcx.2.1 d hl.has hi9 rfl hn rfl (fun ls9 h9 => k p e s m args below meth c H locs hcx hP hS ls9 (sk_L.st1 h9 (fun j hj => absurd hj (Nat.succ_ne_zero j))))
theorem T.drop_0 {a0 : Option Value} {r : List (Option Value)} (k : TJ G X R E cells slots pc (none :: r) st M) : TJ G X R E cells slots pc (a0 :: r) st M := fun p e s m args below meth c H locs hcx hP hS ls hl => k p e s m args below meth c H locs hcx hP hS ls ⟨hl.1, hl.2.1, fun i v hi => hl.2.2 i v (by
  have e : (none :: r) = (a0 :: r).set 0 none := rfl
  rw [e, List.getElem?_set] at hi
  by_cases h : 0 = i
  · subst h; simp at hi
  · simpa [h] using hi)⟩
theorem T.ist_1 {a0 a1 : Option Value} {r : List (Option Value)} {x : Int32} (d : decode X.2.1 pc = .ok (.istore_n 1, 1)) (hq : pc + 1 = q) (hn : 1 < X.2.2.1) (hp : sk_ok1 a0) (k : TJ G X R E cells slots q (a0 :: some (.int x) :: r) st M) : TJ G X R E cells slots pc (a0 :: a1 :: r) (.int x :: st) M := by
  subst hq
  exact fun p e s m args below meth c H locs hcx hP hS ls hl => lv_istore_n hcx.1 hcx.2.1 d rfl hl.has hn rfl (fun ls9 h9 => k p e s m args below meth c H locs hcx hP hS ls9 (sk_L.st1 h9 (sk_hp (k := 0) rfl rfl hp)))
theorem T.ast_1 {a0 a1 : Option Value} {r : List (Option Value)} {x : Nat} (d : decode X.2.1 pc = .ok (.astore_n 1, 1)) (hq : pc + 1 = q) (hn : 1 < X.2.2.1) (hp : sk_ok1 a0) (k : TJ G X R E cells slots q (a0 :: some (.ref x) :: r) st M) : TJ G X R E cells slots pc (a0 :: a1 :: r) (.ref x :: st) M := by
  subst hq
  exact fun p e s m args below meth c H locs hcx hP hS ls hl => lv_astore_n hcx.1 hcx.2.1 d rfl hl.has hn rfl (fun ls9 h9 => k p e s m args below meth c H locs hcx hP hS ls9 (sk_L.st1 h9 (sk_hp (k := 0) rfl rfl hp)))
theorem T.lst_1 {a0 a1 a2 : Option Value} {r : List (Option Value)} {x : Int64} (d : decode X.2.1 pc = .ok (.lstore_n 1, 1)) (hq : pc + 1 = q) (hn : 1 + 1 < X.2.2.1) (hp : sk_ok1 a0) (k : TJ G X R E cells slots q (a0 :: some (.long x) :: none :: r) st M) : TJ G X R E cells slots pc (a0 :: a1 :: a2 :: r) (.long x :: st) M := by
  subst hq
  exact fun p e s m args below meth c H locs hcx hP hS ls hl => lv_lstore_n hcx.1 hcx.2.1 d rfl hl.has hn rfl (fun ls9 h9 => k p e s m args below meth c H locs hcx hP hS ls9 (sk_L.st2 h9 (sk_hp (k := 0) rfl rfl hp)))
theorem T.inc_1 {a0 : Option Value} {r : List (Option Value)} {x : Int32} {n : Int} (v : Int32) (d : decode X.2.1 pc = .ok (.iinc 1 n, 3)) (hq : pc + 3 = q) (hv : Int32.ofInt n = v) (hn : 1 < X.2.2.1) (hp : sk_ok1 a0) (k : TJ G X R E cells slots q (a0 :: some (.int (x + v)) :: r) st M) : TJ G X R E cells slots pc (a0 :: some (.int x) :: r) st M := by
  subst hq
  subst hv
  refine fun p e s m args below meth c H locs hcx hP hS ls hl => ?_
  obtain ⟨i9, hi9⟩ := List.mem_iff_getElem?.mp (sk_pr_mem.mpr (show (a0 :: some (Value.int x) :: r)[(1, Value.int x).1]? = some (some (1, Value.int x).2) from rfl))
  exact lv_iinc hcx.1 hcx.2.1 d hl.has hi9 rfl hn rfl (fun ls9 h9 => k p e s m args below meth c H locs hcx hP hS ls9 (sk_L.st1 h9 (sk_hp (k := 0) rfl rfl hp)))
theorem T.drop_1 {a0 a1 : Option Value} {r : List (Option Value)} (k : TJ G X R E cells slots pc (a0 :: none :: r) st M) : TJ G X R E cells slots pc (a0 :: a1 :: r) st M := fun p e s m args below meth c H locs hcx hP hS ls hl => k p e s m args below meth c H locs hcx hP hS ls ⟨hl.1, hl.2.1, fun i v hi => hl.2.2 i v (by
  have e : (a0 :: none :: r) = (a0 :: a1 :: r).set 1 none := rfl
  rw [e, List.getElem?_set] at hi
  by_cases h : 1 = i
  · subst h; simp at hi
  · simpa [h] using hi)⟩
theorem T.ist_2 {a0 a1 a2 : Option Value} {r : List (Option Value)} {x : Int32} (d : decode X.2.1 pc = .ok (.istore_n 2, 1)) (hq : pc + 1 = q) (hn : 2 < X.2.2.1) (hp : sk_ok1 a1) (k : TJ G X R E cells slots q (a0 :: a1 :: some (.int x) :: r) st M) : TJ G X R E cells slots pc (a0 :: a1 :: a2 :: r) (.int x :: st) M := by
  subst hq
  exact fun p e s m args below meth c H locs hcx hP hS ls hl => lv_istore_n hcx.1 hcx.2.1 d rfl hl.has hn rfl (fun ls9 h9 => k p e s m args below meth c H locs hcx hP hS ls9 (sk_L.st1 h9 (sk_hp (k := 1) rfl rfl hp)))
theorem T.ast_2 {a0 a1 a2 : Option Value} {r : List (Option Value)} {x : Nat} (d : decode X.2.1 pc = .ok (.astore_n 2, 1)) (hq : pc + 1 = q) (hn : 2 < X.2.2.1) (hp : sk_ok1 a1) (k : TJ G X R E cells slots q (a0 :: a1 :: some (.ref x) :: r) st M) : TJ G X R E cells slots pc (a0 :: a1 :: a2 :: r) (.ref x :: st) M := by
  subst hq
  exact fun p e s m args below meth c H locs hcx hP hS ls hl => lv_astore_n hcx.1 hcx.2.1 d rfl hl.has hn rfl (fun ls9 h9 => k p e s m args below meth c H locs hcx hP hS ls9 (sk_L.st1 h9 (sk_hp (k := 1) rfl rfl hp)))
theorem T.lst_2 {a0 a1 a2 a3 : Option Value} {r : List (Option Value)} {x : Int64} (d : decode X.2.1 pc = .ok (.lstore_n 2, 1)) (hq : pc + 1 = q) (hn : 2 + 1 < X.2.2.1) (hp : sk_ok1 a1) (k : TJ G X R E cells slots q (a0 :: a1 :: some (.long x) :: none :: r) st M) : TJ G X R E cells slots pc (a0 :: a1 :: a2 :: a3 :: r) (.long x :: st) M := by
  subst hq
  exact fun p e s m args below meth c H locs hcx hP hS ls hl => lv_lstore_n hcx.1 hcx.2.1 d rfl hl.has hn rfl (fun ls9 h9 => k p e s m args below meth c H locs hcx hP hS ls9 (sk_L.st2 h9 (sk_hp (k := 1) rfl rfl hp)))
theorem T.inc_2 {a0 a1 : Option Value} {r : List (Option Value)} {x : Int32} {n : Int} (v : Int32) (d : decode X.2.1 pc = .ok (.iinc 2 n, 3)) (hq : pc + 3 = q) (hv : Int32.ofInt n = v) (hn : 2 < X.2.2.1) (hp : sk_ok1 a1) (k : TJ G X R E cells slots q (a0 :: a1 :: some (.int (x + v)) :: r) st M) : TJ G X R E cells slots pc (a0 :: a1 :: some (.int x) :: r) st M := by
  subst hq
  subst hv
  refine fun p e s m args below meth c H locs hcx hP hS ls hl => ?_
  obtain ⟨i9, hi9⟩ := List.mem_iff_getElem?.mp (sk_pr_mem.mpr (show (a0 :: a1 :: some (Value.int x) :: r)[(2, Value.int x).1]? = some (some (2, Value.int x).2) from rfl))
  exact lv_iinc hcx.1 hcx.2.1 d hl.has hi9 rfl hn rfl (fun ls9 h9 => k p e s m args below meth c H locs hcx hP hS ls9 (sk_L.st1 h9 (sk_hp (k := 1) rfl rfl hp)))
theorem T.drop_2 {a0 a1 a2 : Option Value} {r : List (Option Value)} (k : TJ G X R E cells slots pc (a0 :: a1 :: none :: r) st M) : TJ G X R E cells slots pc (a0 :: a1 :: a2 :: r) st M := fun p e s m args below meth c H locs hcx hP hS ls hl => k p e s m args below meth c H locs hcx hP hS ls ⟨hl.1, hl.2.1, fun i v hi => hl.2.2 i v (by
  have e : (a0 :: a1 :: none :: r) = (a0 :: a1 :: a2 :: r).set 2 none := rfl
  rw [e, List.getElem?_set] at hi
  by_cases h : 2 = i
  · subst h; simp at hi
  · simpa [h] using hi)⟩
theorem T.ist_3 {a0 a1 a2 a3 : Option Value} {r : List (Option Value)} {x : Int32} (d : decode X.2.1 pc = .ok (.istore_n 3, 1)) (hq : pc + 1 = q) (hn : 3 < X.2.2.1) (hp : sk_ok1 a2) (k : TJ G X R E cells slots q (a0 :: a1 :: a2 :: some (.int x) :: r) st M) : TJ G X R E cells slots pc (a0 :: a1 :: a2 :: a3 :: r) (.int x :: st) M := by
  subst hq
  exact fun p e s m args below meth c H locs hcx hP hS ls hl => lv_istore_n hcx.1 hcx.2.1 d rfl hl.has hn rfl (fun ls9 h9 => k p e s m args below meth c H locs hcx hP hS ls9 (sk_L.st1 h9 (sk_hp (k := 2) rfl rfl hp)))
theorem T.ast_3 {a0 a1 a2 a3 : Option Value} {r : List (Option Value)} {x : Nat} (d : decode X.2.1 pc = .ok (.astore_n 3, 1)) (hq : pc + 1 = q) (hn : 3 < X.2.2.1) (hp : sk_ok1 a2) (k : TJ G X R E cells slots q (a0 :: a1 :: a2 :: some (.ref x) :: r) st M) : TJ G X R E cells slots pc (a0 :: a1 :: a2 :: a3 :: r) (.ref x :: st) M := by
  subst hq
  exact fun p e s m args below meth c H locs hcx hP hS ls hl => lv_astore_n hcx.1 hcx.2.1 d rfl hl.has hn rfl (fun ls9 h9 => k p e s m args below meth c H locs hcx hP hS ls9 (sk_L.st1 h9 (sk_hp (k := 2) rfl rfl hp)))
theorem T.lst_3 {a0 a1 a2 a3 a4 : Option Value} {r : List (Option Value)} {x : Int64} (d : decode X.2.1 pc = .ok (.lstore_n 3, 1)) (hq : pc + 1 = q) (hn : 3 + 1 < X.2.2.1) (hp : sk_ok1 a2) (k : TJ G X R E cells slots q (a0 :: a1 :: a2 :: some (.long x) :: none :: r) st M) : TJ G X R E cells slots pc (a0 :: a1 :: a2 :: a3 :: a4 :: r) (.long x :: st) M := by
  subst hq
  exact fun p e s m args below meth c H locs hcx hP hS ls hl => lv_lstore_n hcx.1 hcx.2.1 d rfl hl.has hn rfl (fun ls9 h9 => k p e s m args below meth c H locs hcx hP hS ls9 (sk_L.st2 h9 (sk_hp (k := 2) rfl rfl hp)))
theorem T.inc_3 {a0 a1 a2 : Option Value} {r : List (Option Value)} {x : Int32} {n : Int} (v : Int32) (d : decode X.2.1 pc = .ok (.iinc 3 n, 3)) (hq : pc + 3 = q) (hv : Int32.ofInt n = v) (hn : 3 < X.2.2.1) (hp : sk_ok1 a2) (k : TJ G X R E cells slots q (a0 :: a1 :: a2 :: some (.int (x + v)) :: r) st M) : TJ G X R E cells slots pc (a0 :: a1 :: a2 :: some (.int x) :: r) st M := by
  subst hq
  subst hv
  refine fun p e s m args below meth c H locs hcx hP hS ls hl => ?_
  obtain ⟨i9, hi9⟩ := List.mem_iff_getElem?.mp (sk_pr_mem.mpr (show (a0 :: a1 :: a2 :: some (Value.int x) :: r)[(3, Value.int x).1]? = some (some (3, Value.int x).2) from rfl))
  exact lv_iinc hcx.1 hcx.2.1 d hl.has hi9 rfl hn rfl (fun ls9 h9 => k p e s m args below meth c H locs hcx hP hS ls9 (sk_L.st1 h9 (sk_hp (k := 2) rfl rfl hp)))
theorem T.drop_3 {a0 a1 a2 a3 : Option Value} {r : List (Option Value)} (k : TJ G X R E cells slots pc (a0 :: a1 :: a2 :: none :: r) st M) : TJ G X R E cells slots pc (a0 :: a1 :: a2 :: a3 :: r) st M := fun p e s m args below meth c H locs hcx hP hS ls hl => k p e s m args below meth c H locs hcx hP hS ls ⟨hl.1, hl.2.1, fun i v hi => hl.2.2 i v (by
  have e : (a0 :: a1 :: a2 :: none :: r) = (a0 :: a1 :: a2 :: a3 :: r).set 3 none := rfl
  rw [e, List.getElem?_set] at hi
  by_cases h : 3 = i
  · subst h; simp at hi
  · simpa [h] using hi)⟩
theorem T.ist_4 {a0 a1 a2 a3 a4 : Option Value} {r : List (Option Value)} {x : Int32} (d : decode X.2.1 pc = .ok (.istore 4, 2)) (hq : pc + 2 = q) (hn : 4 < X.2.2.1) (hp : sk_ok1 a3) (k : TJ G X R E cells slots q (a0 :: a1 :: a2 :: a3 :: some (.int x) :: r) st M) : TJ G X R E cells slots pc (a0 :: a1 :: a2 :: a3 :: a4 :: r) (.int x :: st) M := by
  subst hq
  exact fun p e s m args below meth c H locs hcx hP hS ls hl => lv_istore hcx.1 hcx.2.1 d hl.has hn rfl (fun ls9 h9 => k p e s m args below meth c H locs hcx hP hS ls9 (sk_L.st1 h9 (sk_hp (k := 3) rfl rfl hp)))
theorem T.ast_4 {a0 a1 a2 a3 a4 : Option Value} {r : List (Option Value)} {x : Nat} (d : decode X.2.1 pc = .ok (.astore 4, 2)) (hq : pc + 2 = q) (hn : 4 < X.2.2.1) (hp : sk_ok1 a3) (k : TJ G X R E cells slots q (a0 :: a1 :: a2 :: a3 :: some (.ref x) :: r) st M) : TJ G X R E cells slots pc (a0 :: a1 :: a2 :: a3 :: a4 :: r) (.ref x :: st) M := by
  subst hq
  exact fun p e s m args below meth c H locs hcx hP hS ls hl => lv_astore hcx.1 hcx.2.1 d hl.has hn rfl (fun ls9 h9 => k p e s m args below meth c H locs hcx hP hS ls9 (sk_L.st1 h9 (sk_hp (k := 3) rfl rfl hp)))
theorem T.lst_4 {a0 a1 a2 a3 a4 a5 : Option Value} {r : List (Option Value)} {x : Int64} (d : decode X.2.1 pc = .ok (.lstore 4, 2)) (hq : pc + 2 = q) (hn : 4 + 1 < X.2.2.1) (hp : sk_ok1 a3) (k : TJ G X R E cells slots q (a0 :: a1 :: a2 :: a3 :: some (.long x) :: none :: r) st M) : TJ G X R E cells slots pc (a0 :: a1 :: a2 :: a3 :: a4 :: a5 :: r) (.long x :: st) M := by
  subst hq
  exact fun p e s m args below meth c H locs hcx hP hS ls hl => lv_lstore hcx.1 hcx.2.1 d hl.has hn rfl (fun ls9 h9 => k p e s m args below meth c H locs hcx hP hS ls9 (sk_L.st2 h9 (sk_hp (k := 3) rfl rfl hp)))
theorem T.inc_4 {a0 a1 a2 a3 : Option Value} {r : List (Option Value)} {x : Int32} {n : Int} (v : Int32) (d : decode X.2.1 pc = .ok (.iinc 4 n, 3)) (hq : pc + 3 = q) (hv : Int32.ofInt n = v) (hn : 4 < X.2.2.1) (hp : sk_ok1 a3) (k : TJ G X R E cells slots q (a0 :: a1 :: a2 :: a3 :: some (.int (x + v)) :: r) st M) : TJ G X R E cells slots pc (a0 :: a1 :: a2 :: a3 :: some (.int x) :: r) st M := by
  subst hq
  subst hv
  refine fun p e s m args below meth c H locs hcx hP hS ls hl => ?_
  obtain ⟨i9, hi9⟩ := List.mem_iff_getElem?.mp (sk_pr_mem.mpr (show (a0 :: a1 :: a2 :: a3 :: some (Value.int x) :: r)[(4, Value.int x).1]? = some (some (4, Value.int x).2) from rfl))
  exact lv_iinc hcx.1 hcx.2.1 d hl.has hi9 rfl hn rfl (fun ls9 h9 => k p e s m args below meth c H locs hcx hP hS ls9 (sk_L.st1 h9 (sk_hp (k := 3) rfl rfl hp)))
theorem T.drop_4 {a0 a1 a2 a3 a4 : Option Value} {r : List (Option Value)} (k : TJ G X R E cells slots pc (a0 :: a1 :: a2 :: a3 :: none :: r) st M) : TJ G X R E cells slots pc (a0 :: a1 :: a2 :: a3 :: a4 :: r) st M := fun p e s m args below meth c H locs hcx hP hS ls hl => k p e s m args below meth c H locs hcx hP hS ls ⟨hl.1, hl.2.1, fun i v hi => hl.2.2 i v (by
  have e : (a0 :: a1 :: a2 :: a3 :: none :: r) = (a0 :: a1 :: a2 :: a3 :: a4 :: r).set 4 none := rfl
  rw [e, List.getElem?_set] at hi
  by_cases h : 4 = i
  · subst h; simp at hi
  · simpa [h] using hi)⟩
theorem T.ist_5 {a0 a1 a2 a3 a4 a5 : Option Value} {r : List (Option Value)} {x : Int32} (d : decode X.2.1 pc = .ok (.istore 5, 2)) (hq : pc + 2 = q) (hn : 5 < X.2.2.1) (hp : sk_ok1 a4) (k : TJ G X R E cells slots q (a0 :: a1 :: a2 :: a3 :: a4 :: some (.int x) :: r) st M) : TJ G X R E cells slots pc (a0 :: a1 :: a2 :: a3 :: a4 :: a5 :: r) (.int x :: st) M := by
  subst hq
  exact fun p e s m args below meth c H locs hcx hP hS ls hl => lv_istore hcx.1 hcx.2.1 d hl.has hn rfl (fun ls9 h9 => k p e s m args below meth c H locs hcx hP hS ls9 (sk_L.st1 h9 (sk_hp (k := 4) rfl rfl hp)))
theorem T.ast_5 {a0 a1 a2 a3 a4 a5 : Option Value} {r : List (Option Value)} {x : Nat} (d : decode X.2.1 pc = .ok (.astore 5, 2)) (hq : pc + 2 = q) (hn : 5 < X.2.2.1) (hp : sk_ok1 a4) (k : TJ G X R E cells slots q (a0 :: a1 :: a2 :: a3 :: a4 :: some (.ref x) :: r) st M) : TJ G X R E cells slots pc (a0 :: a1 :: a2 :: a3 :: a4 :: a5 :: r) (.ref x :: st) M := by
  subst hq
  exact fun p e s m args below meth c H locs hcx hP hS ls hl => lv_astore hcx.1 hcx.2.1 d hl.has hn rfl (fun ls9 h9 => k p e s m args below meth c H locs hcx hP hS ls9 (sk_L.st1 h9 (sk_hp (k := 4) rfl rfl hp)))
theorem T.lst_5 {a0 a1 a2 a3 a4 a5 a6 : Option Value} {r : List (Option Value)} {x : Int64} (d : decode X.2.1 pc = .ok (.lstore 5, 2)) (hq : pc + 2 = q) (hn : 5 + 1 < X.2.2.1) (hp : sk_ok1 a4) (k : TJ G X R E cells slots q (a0 :: a1 :: a2 :: a3 :: a4 :: some (.long x) :: none :: r) st M) : TJ G X R E cells slots pc (a0 :: a1 :: a2 :: a3 :: a4 :: a5 :: a6 :: r) (.long x :: st) M := by
  subst hq
  exact fun p e s m args below meth c H locs hcx hP hS ls hl => lv_lstore hcx.1 hcx.2.1 d hl.has hn rfl (fun ls9 h9 => k p e s m args below meth c H locs hcx hP hS ls9 (sk_L.st2 h9 (sk_hp (k := 4) rfl rfl hp)))
theorem T.inc_5 {a0 a1 a2 a3 a4 : Option Value} {r : List (Option Value)} {x : Int32} {n : Int} (v : Int32) (d : decode X.2.1 pc = .ok (.iinc 5 n, 3)) (hq : pc + 3 = q) (hv : Int32.ofInt n = v) (hn : 5 < X.2.2.1) (hp : sk_ok1 a4) (k : TJ G X R E cells slots q (a0 :: a1 :: a2 :: a3 :: a4 :: some (.int (x + v)) :: r) st M) : TJ G X R E cells slots pc (a0 :: a1 :: a2 :: a3 :: a4 :: some (.int x) :: r) st M := by
  subst hq
  subst hv
  refine fun p e s m args below meth c H locs hcx hP hS ls hl => ?_
  obtain ⟨i9, hi9⟩ := List.mem_iff_getElem?.mp (sk_pr_mem.mpr (show (a0 :: a1 :: a2 :: a3 :: a4 :: some (Value.int x) :: r)[(5, Value.int x).1]? = some (some (5, Value.int x).2) from rfl))
  exact lv_iinc hcx.1 hcx.2.1 d hl.has hi9 rfl hn rfl (fun ls9 h9 => k p e s m args below meth c H locs hcx hP hS ls9 (sk_L.st1 h9 (sk_hp (k := 4) rfl rfl hp)))
theorem T.drop_5 {a0 a1 a2 a3 a4 a5 : Option Value} {r : List (Option Value)} (k : TJ G X R E cells slots pc (a0 :: a1 :: a2 :: a3 :: a4 :: none :: r) st M) : TJ G X R E cells slots pc (a0 :: a1 :: a2 :: a3 :: a4 :: a5 :: r) st M := fun p e s m args below meth c H locs hcx hP hS ls hl => k p e s m args below meth c H locs hcx hP hS ls ⟨hl.1, hl.2.1, fun i v hi => hl.2.2 i v (by
  have e : (a0 :: a1 :: a2 :: a3 :: a4 :: none :: r) = (a0 :: a1 :: a2 :: a3 :: a4 :: a5 :: r).set 5 none := rfl
  rw [e, List.getElem?_set] at hi
  by_cases h : 5 = i
  · subst h; simp at hi
  · simpa [h] using hi)⟩
theorem T.ist_6 {a0 a1 a2 a3 a4 a5 a6 : Option Value} {r : List (Option Value)} {x : Int32} (d : decode X.2.1 pc = .ok (.istore 6, 2)) (hq : pc + 2 = q) (hn : 6 < X.2.2.1) (hp : sk_ok1 a5) (k : TJ G X R E cells slots q (a0 :: a1 :: a2 :: a3 :: a4 :: a5 :: some (.int x) :: r) st M) : TJ G X R E cells slots pc (a0 :: a1 :: a2 :: a3 :: a4 :: a5 :: a6 :: r) (.int x :: st) M := by
  subst hq
  exact fun p e s m args below meth c H locs hcx hP hS ls hl => lv_istore hcx.1 hcx.2.1 d hl.has hn rfl (fun ls9 h9 => k p e s m args below meth c H locs hcx hP hS ls9 (sk_L.st1 h9 (sk_hp (k := 5) rfl rfl hp)))
theorem T.ast_6 {a0 a1 a2 a3 a4 a5 a6 : Option Value} {r : List (Option Value)} {x : Nat} (d : decode X.2.1 pc = .ok (.astore 6, 2)) (hq : pc + 2 = q) (hn : 6 < X.2.2.1) (hp : sk_ok1 a5) (k : TJ G X R E cells slots q (a0 :: a1 :: a2 :: a3 :: a4 :: a5 :: some (.ref x) :: r) st M) : TJ G X R E cells slots pc (a0 :: a1 :: a2 :: a3 :: a4 :: a5 :: a6 :: r) (.ref x :: st) M := by
  subst hq
  exact fun p e s m args below meth c H locs hcx hP hS ls hl => lv_astore hcx.1 hcx.2.1 d hl.has hn rfl (fun ls9 h9 => k p e s m args below meth c H locs hcx hP hS ls9 (sk_L.st1 h9 (sk_hp (k := 5) rfl rfl hp)))
theorem T.lst_6 {a0 a1 a2 a3 a4 a5 a6 a7 : Option Value} {r : List (Option Value)} {x : Int64} (d : decode X.2.1 pc = .ok (.lstore 6, 2)) (hq : pc + 2 = q) (hn : 6 + 1 < X.2.2.1) (hp : sk_ok1 a5) (k : TJ G X R E cells slots q (a0 :: a1 :: a2 :: a3 :: a4 :: a5 :: some (.long x) :: none :: r) st M) : TJ G X R E cells slots pc (a0 :: a1 :: a2 :: a3 :: a4 :: a5 :: a6 :: a7 :: r) (.long x :: st) M := by
  subst hq
  exact fun p e s m args below meth c H locs hcx hP hS ls hl => lv_lstore hcx.1 hcx.2.1 d hl.has hn rfl (fun ls9 h9 => k p e s m args below meth c H locs hcx hP hS ls9 (sk_L.st2 h9 (sk_hp (k := 5) rfl rfl hp)))
theorem T.inc_6 {a0 a1 a2 a3 a4 a5 : Option Value} {r : List (Option Value)} {x : Int32} {n : Int} (v : Int32) (d : decode X.2.1 pc = .ok (.iinc 6 n, 3)) (hq : pc + 3 = q) (hv : Int32.ofInt n = v) (hn : 6 < X.2.2.1) (hp : sk_ok1 a5) (k : TJ G X R E cells slots q (a0 :: a1 :: a2 :: a3 :: a4 :: a5 :: some (.int (x + v)) :: r) st M) : TJ G X R E cells slots pc (a0 :: a1 :: a2 :: a3 :: a4 :: a5 :: some (.int x) :: r) st M := by
  subst hq
  subst hv
  refine fun p e s m args below meth c H locs hcx hP hS ls hl => ?_
  obtain ⟨i9, hi9⟩ := List.mem_iff_getElem?.mp (sk_pr_mem.mpr (show (a0 :: a1 :: a2 :: a3 :: a4 :: a5 :: some (Value.int x) :: r)[(6, Value.int x).1]? = some (some (6, Value.int x).2) from rfl))
  exact lv_iinc hcx.1 hcx.2.1 d hl.has hi9 rfl hn rfl (fun ls9 h9 => k p e s m args below meth c H locs hcx hP hS ls9 (sk_L.st1 h9 (sk_hp (k := 5) rfl rfl hp)))
theorem T.drop_6 {a0 a1 a2 a3 a4 a5 a6 : Option Value} {r : List (Option Value)} (k : TJ G X R E cells slots pc (a0 :: a1 :: a2 :: a3 :: a4 :: a5 :: none :: r) st M) : TJ G X R E cells slots pc (a0 :: a1 :: a2 :: a3 :: a4 :: a5 :: a6 :: r) st M := fun p e s m args below meth c H locs hcx hP hS ls hl => k p e s m args below meth c H locs hcx hP hS ls ⟨hl.1, hl.2.1, fun i v hi => hl.2.2 i v (by
  have e : (a0 :: a1 :: a2 :: a3 :: a4 :: a5 :: none :: r) = (a0 :: a1 :: a2 :: a3 :: a4 :: a5 :: a6 :: r).set 6 none := rfl
  rw [e, List.getElem?_set] at hi
  by_cases h : 6 = i
  · subst h; simp at hi
  · simpa [h] using hi)⟩
theorem T.ist_7 {a0 a1 a2 a3 a4 a5 a6 a7 : Option Value} {r : List (Option Value)} {x : Int32} (d : decode X.2.1 pc = .ok (.istore 7, 2)) (hq : pc + 2 = q) (hn : 7 < X.2.2.1) (hp : sk_ok1 a6) (k : TJ G X R E cells slots q (a0 :: a1 :: a2 :: a3 :: a4 :: a5 :: a6 :: some (.int x) :: r) st M) : TJ G X R E cells slots pc (a0 :: a1 :: a2 :: a3 :: a4 :: a5 :: a6 :: a7 :: r) (.int x :: st) M := by
  subst hq
  exact fun p e s m args below meth c H locs hcx hP hS ls hl => lv_istore hcx.1 hcx.2.1 d hl.has hn rfl (fun ls9 h9 => k p e s m args below meth c H locs hcx hP hS ls9 (sk_L.st1 h9 (sk_hp (k := 6) rfl rfl hp)))
theorem T.ast_7 {a0 a1 a2 a3 a4 a5 a6 a7 : Option Value} {r : List (Option Value)} {x : Nat} (d : decode X.2.1 pc = .ok (.astore 7, 2)) (hq : pc + 2 = q) (hn : 7 < X.2.2.1) (hp : sk_ok1 a6) (k : TJ G X R E cells slots q (a0 :: a1 :: a2 :: a3 :: a4 :: a5 :: a6 :: some (.ref x) :: r) st M) : TJ G X R E cells slots pc (a0 :: a1 :: a2 :: a3 :: a4 :: a5 :: a6 :: a7 :: r) (.ref x :: st) M := by
  subst hq
  exact fun p e s m args below meth c H locs hcx hP hS ls hl => lv_astore hcx.1 hcx.2.1 d hl.has hn rfl (fun ls9 h9 => k p e s m args below meth c H locs hcx hP hS ls9 (sk_L.st1 h9 (sk_hp (k := 6) rfl rfl hp)))
theorem T.lst_7 {a0 a1 a2 a3 a4 a5 a6 a7 a8 : Option Value} {r : List (Option Value)} {x : Int64} (d : decode X.2.1 pc = .ok (.lstore 7, 2)) (hq : pc + 2 = q) (hn : 7 + 1 < X.2.2.1) (hp : sk_ok1 a6) (k : TJ G X R E cells slots q (a0 :: a1 :: a2 :: a3 :: a4 :: a5 :: a6 :: some (.long x) :: none :: r) st M) : TJ G X R E cells slots pc (a0 :: a1 :: a2 :: a3 :: a4 :: a5 :: a6 :: a7 :: a8 :: r) (.long x :: st) M := by
  subst hq
  exact fun p e s m args below meth c H locs hcx hP hS ls hl => lv_lstore hcx.1 hcx.2.1 d hl.has hn rfl (fun ls9 h9 => k p e s m args below meth c H locs hcx hP hS ls9 (sk_L.st2 h9 (sk_hp (k := 6) rfl rfl hp)))
theorem T.inc_7 {a0 a1 a2 a3 a4 a5 a6 : Option Value} {r : List (Option Value)} {x : Int32} {n : Int} (v : Int32) (d : decode X.2.1 pc = .ok (.iinc 7 n, 3)) (hq : pc + 3 = q) (hv : Int32.ofInt n = v) (hn : 7 < X.2.2.1) (hp : sk_ok1 a6) (k : TJ G X R E cells slots q (a0 :: a1 :: a2 :: a3 :: a4 :: a5 :: a6 :: some (.int (x + v)) :: r) st M) : TJ G X R E cells slots pc (a0 :: a1 :: a2 :: a3 :: a4 :: a5 :: a6 :: some (.int x) :: r) st M := by
  subst hq
  subst hv
  refine fun p e s m args below meth c H locs hcx hP hS ls hl => ?_
  obtain ⟨i9, hi9⟩ := List.mem_iff_getElem?.mp (sk_pr_mem.mpr (show (a0 :: a1 :: a2 :: a3 :: a4 :: a5 :: a6 :: some (Value.int x) :: r)[(7, Value.int x).1]? = some (some (7, Value.int x).2) from rfl))
  exact lv_iinc hcx.1 hcx.2.1 d hl.has hi9 rfl hn rfl (fun ls9 h9 => k p e s m args below meth c H locs hcx hP hS ls9 (sk_L.st1 h9 (sk_hp (k := 6) rfl rfl hp)))
theorem T.drop_7 {a0 a1 a2 a3 a4 a5 a6 a7 : Option Value} {r : List (Option Value)} (k : TJ G X R E cells slots pc (a0 :: a1 :: a2 :: a3 :: a4 :: a5 :: a6 :: none :: r) st M) : TJ G X R E cells slots pc (a0 :: a1 :: a2 :: a3 :: a4 :: a5 :: a6 :: a7 :: r) st M := fun p e s m args below meth c H locs hcx hP hS ls hl => k p e s m args below meth c H locs hcx hP hS ls ⟨hl.1, hl.2.1, fun i v hi => hl.2.2 i v (by
  have e : (a0 :: a1 :: a2 :: a3 :: a4 :: a5 :: a6 :: none :: r) = (a0 :: a1 :: a2 :: a3 :: a4 :: a5 :: a6 :: a7 :: r).set 7 none := rfl
  rw [e, List.getElem?_set] at hi
  by_cases h : 7 = i
  · subst h; simp at hi
  · simpa [h] using hi)⟩
theorem T.ist_8 {a0 a1 a2 a3 a4 a5 a6 a7 a8 : Option Value} {r : List (Option Value)} {x : Int32} (d : decode X.2.1 pc = .ok (.istore 8, 2)) (hq : pc + 2 = q) (hn : 8 < X.2.2.1) (hp : sk_ok1 a7) (k : TJ G X R E cells slots q (a0 :: a1 :: a2 :: a3 :: a4 :: a5 :: a6 :: a7 :: some (.int x) :: r) st M) : TJ G X R E cells slots pc (a0 :: a1 :: a2 :: a3 :: a4 :: a5 :: a6 :: a7 :: a8 :: r) (.int x :: st) M := by
  subst hq
  exact fun p e s m args below meth c H locs hcx hP hS ls hl => lv_istore hcx.1 hcx.2.1 d hl.has hn rfl (fun ls9 h9 => k p e s m args below meth c H locs hcx hP hS ls9 (sk_L.st1 h9 (sk_hp (k := 7) rfl rfl hp)))
theorem T.ast_8 {a0 a1 a2 a3 a4 a5 a6 a7 a8 : Option Value} {r : List (Option Value)} {x : Nat} (d : decode X.2.1 pc = .ok (.astore 8, 2)) (hq : pc + 2 = q) (hn : 8 < X.2.2.1) (hp : sk_ok1 a7) (k : TJ G X R E cells slots q (a0 :: a1 :: a2 :: a3 :: a4 :: a5 :: a6 :: a7 :: some (.ref x) :: r) st M) : TJ G X R E cells slots pc (a0 :: a1 :: a2 :: a3 :: a4 :: a5 :: a6 :: a7 :: a8 :: r) (.ref x :: st) M := by
  subst hq
  exact fun p e s m args below meth c H locs hcx hP hS ls hl => lv_astore hcx.1 hcx.2.1 d hl.has hn rfl (fun ls9 h9 => k p e s m args below meth c H locs hcx hP hS ls9 (sk_L.st1 h9 (sk_hp (k := 7) rfl rfl hp)))
theorem T.lst_8 {a0 a1 a2 a3 a4 a5 a6 a7 a8 a9 : Option Value} {r : List (Option Value)} {x : Int64} (d : decode X.2.1 pc = .ok (.lstore 8, 2)) (hq : pc + 2 = q) (hn : 8 + 1 < X.2.2.1) (hp : sk_ok1 a7) (k : TJ G X R E cells slots q (a0 :: a1 :: a2 :: a3 :: a4 :: a5 :: a6 :: a7 :: some (.long x) :: none :: r) st M) : TJ G X R E cells slots pc (a0 :: a1 :: a2 :: a3 :: a4 :: a5 :: a6 :: a7 :: a8 :: a9 :: r) (.long x :: st) M := by
  subst hq
  exact fun p e s m args below meth c H locs hcx hP hS ls hl => lv_lstore hcx.1 hcx.2.1 d hl.has hn rfl (fun ls9 h9 => k p e s m args below meth c H locs hcx hP hS ls9 (sk_L.st2 h9 (sk_hp (k := 7) rfl rfl hp)))
theorem T.inc_8 {a0 a1 a2 a3 a4 a5 a6 a7 : Option Value} {r : List (Option Value)} {x : Int32} {n : Int} (v : Int32) (d : decode X.2.1 pc = .ok (.iinc 8 n, 3)) (hq : pc + 3 = q) (hv : Int32.ofInt n = v) (hn : 8 < X.2.2.1) (hp : sk_ok1 a7) (k : TJ G X R E cells slots q (a0 :: a1 :: a2 :: a3 :: a4 :: a5 :: a6 :: a7 :: some (.int (x + v)) :: r) st M) : TJ G X R E cells slots pc (a0 :: a1 :: a2 :: a3 :: a4 :: a5 :: a6 :: a7 :: some (.int x) :: r) st M := by
  subst hq
  subst hv
  refine fun p e s m args below meth c H locs hcx hP hS ls hl => ?_
  obtain ⟨i9, hi9⟩ := List.mem_iff_getElem?.mp (sk_pr_mem.mpr (show (a0 :: a1 :: a2 :: a3 :: a4 :: a5 :: a6 :: a7 :: some (Value.int x) :: r)[(8, Value.int x).1]? = some (some (8, Value.int x).2) from rfl))
  exact lv_iinc hcx.1 hcx.2.1 d hl.has hi9 rfl hn rfl (fun ls9 h9 => k p e s m args below meth c H locs hcx hP hS ls9 (sk_L.st1 h9 (sk_hp (k := 7) rfl rfl hp)))
theorem T.drop_8 {a0 a1 a2 a3 a4 a5 a6 a7 a8 : Option Value} {r : List (Option Value)} (k : TJ G X R E cells slots pc (a0 :: a1 :: a2 :: a3 :: a4 :: a5 :: a6 :: a7 :: none :: r) st M) : TJ G X R E cells slots pc (a0 :: a1 :: a2 :: a3 :: a4 :: a5 :: a6 :: a7 :: a8 :: r) st M := fun p e s m args below meth c H locs hcx hP hS ls hl => k p e s m args below meth c H locs hcx hP hS ls ⟨hl.1, hl.2.1, fun i v hi => hl.2.2 i v (by
  have e : (a0 :: a1 :: a2 :: a3 :: a4 :: a5 :: a6 :: a7 :: none :: r) = (a0 :: a1 :: a2 :: a3 :: a4 :: a5 :: a6 :: a7 :: a8 :: r).set 8 none := rfl
  rw [e, List.getElem?_set] at hi
  by_cases h : 8 = i
  · subst h; simp at hi
  · simpa [h] using hi)⟩
theorem T.ist_9 {a0 a1 a2 a3 a4 a5 a6 a7 a8 a9 : Option Value} {r : List (Option Value)} {x : Int32} (d : decode X.2.1 pc = .ok (.istore 9, 2)) (hq : pc + 2 = q) (hn : 9 < X.2.2.1) (hp : sk_ok1 a8) (k : TJ G X R E cells slots q (a0 :: a1 :: a2 :: a3 :: a4 :: a5 :: a6 :: a7 :: a8 :: some (.int x) :: r) st M) : TJ G X R E cells slots pc (a0 :: a1 :: a2 :: a3 :: a4 :: a5 :: a6 :: a7 :: a8 :: a9 :: r) (.int x :: st) M := by
  subst hq
  exact fun p e s m args below meth c H locs hcx hP hS ls hl => lv_istore hcx.1 hcx.2.1 d hl.has hn rfl (fun ls9 h9 => k p e s m args below meth c H locs hcx hP hS ls9 (sk_L.st1 h9 (sk_hp (k := 8) rfl rfl hp)))
theorem T.ast_9 {a0 a1 a2 a3 a4 a5 a6 a7 a8 a9 : Option Value} {r : List (Option Value)} {x : Nat} (d : decode X.2.1 pc = .ok (.astore 9, 2)) (hq : pc + 2 = q) (hn : 9 < X.2.2.1) (hp : sk_ok1 a8) (k : TJ G X R E cells slots q (a0 :: a1 :: a2 :: a3 :: a4 :: a5 :: a6 :: a7 :: a8 :: some (.ref x) :: r) st M) : TJ G X R E cells slots pc (a0 :: a1 :: a2 :: a3 :: a4 :: a5 :: a6 :: a7 :: a8 :: a9 :: r) (.ref x :: st) M := by
  subst hq
  exact fun p e s m args below meth c H locs hcx hP hS ls hl => lv_astore hcx.1 hcx.2.1 d hl.has hn rfl (fun ls9 h9 => k p e s m args below meth c H locs hcx hP hS ls9 (sk_L.st1 h9 (sk_hp (k := 8) rfl rfl hp)))
theorem T.lst_9 {a0 a1 a2 a3 a4 a5 a6 a7 a8 a9 a10 : Option Value} {r : List (Option Value)} {x : Int64} (d : decode X.2.1 pc = .ok (.lstore 9, 2)) (hq : pc + 2 = q) (hn : 9 + 1 < X.2.2.1) (hp : sk_ok1 a8) (k : TJ G X R E cells slots q (a0 :: a1 :: a2 :: a3 :: a4 :: a5 :: a6 :: a7 :: a8 :: some (.long x) :: none :: r) st M) : TJ G X R E cells slots pc (a0 :: a1 :: a2 :: a3 :: a4 :: a5 :: a6 :: a7 :: a8 :: a9 :: a10 :: r) (.long x :: st) M := by
  subst hq
  exact fun p e s m args below meth c H locs hcx hP hS ls hl => lv_lstore hcx.1 hcx.2.1 d hl.has hn rfl (fun ls9 h9 => k p e s m args below meth c H locs hcx hP hS ls9 (sk_L.st2 h9 (sk_hp (k := 8) rfl rfl hp)))
theorem T.inc_9 {a0 a1 a2 a3 a4 a5 a6 a7 a8 : Option Value} {r : List (Option Value)} {x : Int32} {n : Int} (v : Int32) (d : decode X.2.1 pc = .ok (.iinc 9 n, 3)) (hq : pc + 3 = q) (hv : Int32.ofInt n = v) (hn : 9 < X.2.2.1) (hp : sk_ok1 a8) (k : TJ G X R E cells slots q (a0 :: a1 :: a2 :: a3 :: a4 :: a5 :: a6 :: a7 :: a8 :: some (.int (x + v)) :: r) st M) : TJ G X R E cells slots pc (a0 :: a1 :: a2 :: a3 :: a4 :: a5 :: a6 :: a7 :: a8 :: some (.int x) :: r) st M := by
  subst hq
  subst hv
  refine fun p e s m args below meth c H locs hcx hP hS ls hl => ?_
  obtain ⟨i9, hi9⟩ := List.mem_iff_getElem?.mp (sk_pr_mem.mpr (show (a0 :: a1 :: a2 :: a3 :: a4 :: a5 :: a6 :: a7 :: a8 :: some (Value.int x) :: r)[(9, Value.int x).1]? = some (some (9, Value.int x).2) from rfl))
  exact lv_iinc hcx.1 hcx.2.1 d hl.has hi9 rfl hn rfl (fun ls9 h9 => k p e s m args below meth c H locs hcx hP hS ls9 (sk_L.st1 h9 (sk_hp (k := 8) rfl rfl hp)))
theorem T.drop_9 {a0 a1 a2 a3 a4 a5 a6 a7 a8 a9 : Option Value} {r : List (Option Value)} (k : TJ G X R E cells slots pc (a0 :: a1 :: a2 :: a3 :: a4 :: a5 :: a6 :: a7 :: a8 :: none :: r) st M) : TJ G X R E cells slots pc (a0 :: a1 :: a2 :: a3 :: a4 :: a5 :: a6 :: a7 :: a8 :: a9 :: r) st M := fun p e s m args below meth c H locs hcx hP hS ls hl => k p e s m args below meth c H locs hcx hP hS ls ⟨hl.1, hl.2.1, fun i v hi => hl.2.2 i v (by
  have e : (a0 :: a1 :: a2 :: a3 :: a4 :: a5 :: a6 :: a7 :: a8 :: none :: r) = (a0 :: a1 :: a2 :: a3 :: a4 :: a5 :: a6 :: a7 :: a8 :: a9 :: r).set 9 none := rfl
  rw [e, List.getElem?_set] at hi
  by_cases h : 9 = i
  · subst h; simp at hi
  · simpa [h] using hi)⟩
theorem T.ist_10 {a0 a1 a2 a3 a4 a5 a6 a7 a8 a9 a10 : Option Value} {r : List (Option Value)} {x : Int32} (d : decode X.2.1 pc = .ok (.istore 10, 2)) (hq : pc + 2 = q) (hn : 10 < X.2.2.1) (hp : sk_ok1 a9) (k : TJ G X R E cells slots q (a0 :: a1 :: a2 :: a3 :: a4 :: a5 :: a6 :: a7 :: a8 :: a9 :: some (.int x) :: r) st M) : TJ G X R E cells slots pc (a0 :: a1 :: a2 :: a3 :: a4 :: a5 :: a6 :: a7 :: a8 :: a9 :: a10 :: r) (.int x :: st) M := by
  subst hq
  exact fun p e s m args below meth c H locs hcx hP hS ls hl => lv_istore hcx.1 hcx.2.1 d hl.has hn rfl (fun ls9 h9 => k p e s m args below meth c H locs hcx hP hS ls9 (sk_L.st1 h9 (sk_hp (k := 9) rfl rfl hp)))
theorem T.ast_10 {a0 a1 a2 a3 a4 a5 a6 a7 a8 a9 a10 : Option Value} {r : List (Option Value)} {x : Nat} (d : decode X.2.1 pc = .ok (.astore 10, 2)) (hq : pc + 2 = q) (hn : 10 < X.2.2.1) (hp : sk_ok1 a9) (k : TJ G X R E cells slots q (a0 :: a1 :: a2 :: a3 :: a4 :: a5 :: a6 :: a7 :: a8 :: a9 :: some (.ref x) :: r) st M) : TJ G X R E cells slots pc (a0 :: a1 :: a2 :: a3 :: a4 :: a5 :: a6 :: a7 :: a8 :: a9 :: a10 :: r) (.ref x :: st) M := by
  subst hq
  exact fun p e s m args below meth c H locs hcx hP hS ls hl => lv_astore hcx.1 hcx.2.1 d hl.has hn rfl (fun ls9 h9 => k p e s m args below meth c H locs hcx hP hS ls9 (sk_L.st1 h9 (sk_hp (k := 9) rfl rfl hp)))
theorem T.lst_10 {a0 a1 a2 a3 a4 a5 a6 a7 a8 a9 a10 a11 : Option Value} {r : List (Option Value)} {x : Int64} (d : decode X.2.1 pc = .ok (.lstore 10, 2)) (hq : pc + 2 = q) (hn : 10 + 1 < X.2.2.1) (hp : sk_ok1 a9) (k : TJ G X R E cells slots q (a0 :: a1 :: a2 :: a3 :: a4 :: a5 :: a6 :: a7 :: a8 :: a9 :: some (.long x) :: none :: r) st M) : TJ G X R E cells slots pc (a0 :: a1 :: a2 :: a3 :: a4 :: a5 :: a6 :: a7 :: a8 :: a9 :: a10 :: a11 :: r) (.long x :: st) M := by
  subst hq
  exact fun p e s m args below meth c H locs hcx hP hS ls hl => lv_lstore hcx.1 hcx.2.1 d hl.has hn rfl (fun ls9 h9 => k p e s m args below meth c H locs hcx hP hS ls9 (sk_L.st2 h9 (sk_hp (k := 9) rfl rfl hp)))
theorem T.inc_10 {a0 a1 a2 a3 a4 a5 a6 a7 a8 a9 : Option Value} {r : List (Option Value)} {x : Int32} {n : Int} (v : Int32) (d : decode X.2.1 pc = .ok (.iinc 10 n, 3)) (hq : pc + 3 = q) (hv : Int32.ofInt n = v) (hn : 10 < X.2.2.1) (hp : sk_ok1 a9) (k : TJ G X R E cells slots q (a0 :: a1 :: a2 :: a3 :: a4 :: a5 :: a6 :: a7 :: a8 :: a9 :: some (.int (x + v)) :: r) st M) : TJ G X R E cells slots pc (a0 :: a1 :: a2 :: a3 :: a4 :: a5 :: a6 :: a7 :: a8 :: a9 :: some (.int x) :: r) st M := by
  subst hq
  subst hv
  refine fun p e s m args below meth c H locs hcx hP hS ls hl => ?_
  obtain ⟨i9, hi9⟩ := List.mem_iff_getElem?.mp (sk_pr_mem.mpr (show (a0 :: a1 :: a2 :: a3 :: a4 :: a5 :: a6 :: a7 :: a8 :: a9 :: some (Value.int x) :: r)[(10, Value.int x).1]? = some (some (10, Value.int x).2) from rfl))
  exact lv_iinc hcx.1 hcx.2.1 d hl.has hi9 rfl hn rfl (fun ls9 h9 => k p e s m args below meth c H locs hcx hP hS ls9 (sk_L.st1 h9 (sk_hp (k := 9) rfl rfl hp)))
theorem T.drop_10 {a0 a1 a2 a3 a4 a5 a6 a7 a8 a9 a10 : Option Value} {r : List (Option Value)} (k : TJ G X R E cells slots pc (a0 :: a1 :: a2 :: a3 :: a4 :: a5 :: a6 :: a7 :: a8 :: a9 :: none :: r) st M) : TJ G X R E cells slots pc (a0 :: a1 :: a2 :: a3 :: a4 :: a5 :: a6 :: a7 :: a8 :: a9 :: a10 :: r) st M := fun p e s m args below meth c H locs hcx hP hS ls hl => k p e s m args below meth c H locs hcx hP hS ls ⟨hl.1, hl.2.1, fun i v hi => hl.2.2 i v (by
  have e : (a0 :: a1 :: a2 :: a3 :: a4 :: a5 :: a6 :: a7 :: a8 :: a9 :: none :: r) = (a0 :: a1 :: a2 :: a3 :: a4 :: a5 :: a6 :: a7 :: a8 :: a9 :: a10 :: r).set 10 none := rfl
  rw [e, List.getElem?_set] at hi
  by_cases h : 10 = i
  · subst h; simp at hi
  · simpa [h] using hi)⟩
theorem T.ist_11 {a0 a1 a2 a3 a4 a5 a6 a7 a8 a9 a10 a11 : Option Value} {r : List (Option Value)} {x : Int32} (d : decode X.2.1 pc = .ok (.istore 11, 2)) (hq : pc + 2 = q) (hn : 11 < X.2.2.1) (hp : sk_ok1 a10) (k : TJ G X R E cells slots q (a0 :: a1 :: a2 :: a3 :: a4 :: a5 :: a6 :: a7 :: a8 :: a9 :: a10 :: some (.int x) :: r) st M) : TJ G X R E cells slots pc (a0 :: a1 :: a2 :: a3 :: a4 :: a5 :: a6 :: a7 :: a8 :: a9 :: a10 :: a11 :: r) (.int x :: st) M := by
  subst hq
  exact fun p e s m args below meth c H locs hcx hP hS ls hl => lv_istore hcx.1 hcx.2.1 d hl.has hn rfl (fun ls9 h9 => k p e s m args below meth c H locs hcx hP hS ls9 (sk_L.st1 h9 (sk_hp (k := 10) rfl rfl hp)))
theorem T.ast_11 {a0 a1 a2 a3 a4 a5 a6 a7 a8 a9 a10 a11 : Option Value} {r : List (Option Value)} {x : Nat} (d : decode X.2.1 pc = .ok (.astore 11, 2)) (hq : pc + 2 = q) (hn : 11 < X.2.2.1) (hp : sk_ok1 a10) (k : TJ G X R E cells slots q (a0 :: a1 :: a2 :: a3 :: a4 :: a5 :: a6 :: a7 :: a8 :: a9 :: a10 :: some (.ref x) :: r) st M) : TJ G X R E cells slots pc (a0 :: a1 :: a2 :: a3 :: a4 :: a5 :: a6 :: a7 :: a8 :: a9 :: a10 :: a11 :: r) (.ref x :: st) M := by
  subst hq
  exact fun p e s m args below meth c H locs hcx hP hS ls hl => lv_astore hcx.1 hcx.2.1 d hl.has hn rfl (fun ls9 h9 => k p e s m args below meth c H locs hcx hP hS ls9 (sk_L.st1 h9 (sk_hp (k := 10) rfl rfl hp)))
theorem T.lst_11 {a0 a1 a2 a3 a4 a5 a6 a7 a8 a9 a10 a11 a12 : Option Value} {r : List (Option Value)} {x : Int64} (d : decode X.2.1 pc = .ok (.lstore 11, 2)) (hq : pc + 2 = q) (hn : 11 + 1 < X.2.2.1) (hp : sk_ok1 a10) (k : TJ G X R E cells slots q (a0 :: a1 :: a2 :: a3 :: a4 :: a5 :: a6 :: a7 :: a8 :: a9 :: a10 :: some (.long x) :: none :: r) st M) : TJ G X R E cells slots pc (a0 :: a1 :: a2 :: a3 :: a4 :: a5 :: a6 :: a7 :: a8 :: a9 :: a10 :: a11 :: a12 :: r) (.long x :: st) M := by
  subst hq
  exact fun p e s m args below meth c H locs hcx hP hS ls hl => lv_lstore hcx.1 hcx.2.1 d hl.has hn rfl (fun ls9 h9 => k p e s m args below meth c H locs hcx hP hS ls9 (sk_L.st2 h9 (sk_hp (k := 10) rfl rfl hp)))
theorem T.inc_11 {a0 a1 a2 a3 a4 a5 a6 a7 a8 a9 a10 : Option Value} {r : List (Option Value)} {x : Int32} {n : Int} (v : Int32) (d : decode X.2.1 pc = .ok (.iinc 11 n, 3)) (hq : pc + 3 = q) (hv : Int32.ofInt n = v) (hn : 11 < X.2.2.1) (hp : sk_ok1 a10) (k : TJ G X R E cells slots q (a0 :: a1 :: a2 :: a3 :: a4 :: a5 :: a6 :: a7 :: a8 :: a9 :: a10 :: some (.int (x + v)) :: r) st M) : TJ G X R E cells slots pc (a0 :: a1 :: a2 :: a3 :: a4 :: a5 :: a6 :: a7 :: a8 :: a9 :: a10 :: some (.int x) :: r) st M := by
  subst hq
  subst hv
  refine fun p e s m args below meth c H locs hcx hP hS ls hl => ?_
  obtain ⟨i9, hi9⟩ := List.mem_iff_getElem?.mp (sk_pr_mem.mpr (show (a0 :: a1 :: a2 :: a3 :: a4 :: a5 :: a6 :: a7 :: a8 :: a9 :: a10 :: some (Value.int x) :: r)[(11, Value.int x).1]? = some (some (11, Value.int x).2) from rfl))
  exact lv_iinc hcx.1 hcx.2.1 d hl.has hi9 rfl hn rfl (fun ls9 h9 => k p e s m args below meth c H locs hcx hP hS ls9 (sk_L.st1 h9 (sk_hp (k := 10) rfl rfl hp)))
theorem T.drop_11 {a0 a1 a2 a3 a4 a5 a6 a7 a8 a9 a10 a11 : Option Value} {r : List (Option Value)} (k : TJ G X R E cells slots pc (a0 :: a1 :: a2 :: a3 :: a4 :: a5 :: a6 :: a7 :: a8 :: a9 :: a10 :: none :: r) st M) : TJ G X R E cells slots pc (a0 :: a1 :: a2 :: a3 :: a4 :: a5 :: a6 :: a7 :: a8 :: a9 :: a10 :: a11 :: r) st M := fun p e s m args below meth c H locs hcx hP hS ls hl => k p e s m args below meth c H locs hcx hP hS ls ⟨hl.1, hl.2.1, fun i v hi => hl.2.2 i v (by
  have e : (a0 :: a1 :: a2 :: a3 :: a4 :: a5 :: a6 :: a7 :: a8 :: a9 :: a10 :: none :: r) = (a0 :: a1 :: a2 :: a3 :: a4 :: a5 :: a6 :: a7 :: a8 :: a9 :: a10 :: a11 :: r).set 11 none := rfl
  rw [e, List.getElem?_set] at hi
  by_cases h : 11 = i
  · subst h; simp at hi
  · simpa [h] using hi)⟩
theorem T.ist_12 {a0 a1 a2 a3 a4 a5 a6 a7 a8 a9 a10 a11 a12 : Option Value} {r : List (Option Value)} {x : Int32} (d : decode X.2.1 pc = .ok (.istore 12, 2)) (hq : pc + 2 = q) (hn : 12 < X.2.2.1) (hp : sk_ok1 a11) (k : TJ G X R E cells slots q (a0 :: a1 :: a2 :: a3 :: a4 :: a5 :: a6 :: a7 :: a8 :: a9 :: a10 :: a11 :: some (.int x) :: r) st M) : TJ G X R E cells slots pc (a0 :: a1 :: a2 :: a3 :: a4 :: a5 :: a6 :: a7 :: a8 :: a9 :: a10 :: a11 :: a12 :: r) (.int x :: st) M := by
  subst hq
  exact fun p e s m args below meth c H locs hcx hP hS ls hl => lv_istore hcx.1 hcx.2.1 d hl.has hn rfl (fun ls9 h9 => k p e s m args below meth c H locs hcx hP hS ls9 (sk_L.st1 h9 (sk_hp (k := 11) rfl rfl hp)))
theorem T.ast_12 {a0 a1 a2 a3 a4 a5 a6 a7 a8 a9 a10 a11 a12 : Option Value} {r : List (Option Value)} {x : Nat} (d : decode X.2.1 pc = .ok (.astore 12, 2)) (hq : pc + 2 = q) (hn : 12 < X.2.2.1) (hp : sk_ok1 a11) (k : TJ G X R E cells slots q (a0 :: a1 :: a2 :: a3 :: a4 :: a5 :: a6 :: a7 :: a8 :: a9 :: a10 :: a11 :: some (.ref x) :: r) st M) : TJ G X R E cells slots pc (a0 :: a1 :: a2 :: a3 :: a4 :: a5 :: a6 :: a7 :: a8 :: a9 :: a10 :: a11 :: a12 :: r) (.ref x :: st) M := by
  subst hq
  exact fun p e s m args below meth c H locs hcx hP hS ls hl => lv_astore hcx.1 hcx.2.1 d hl.has hn rfl (fun ls9 h9 => k p e s m args below meth c H locs hcx hP hS ls9 (sk_L.st1 h9 (sk_hp (k := 11) rfl rfl hp)))
theorem T.lst_12 {a0 a1 a2 a3 a4 a5 a6 a7 a8 a9 a10 a11 a12 a13 : Option Value} {r : List (Option Value)} {x : Int64} (d : decode X.2.1 pc = .ok (.lstore 12, 2)) (hq : pc + 2 = q) (hn : 12 + 1 < X.2.2.1) (hp : sk_ok1 a11) (k : TJ G X R E cells slots q (a0 :: a1 :: a2 :: a3 :: a4 :: a5 :: a6 :: a7 :: a8 :: a9 :: a10 :: a11 :: some (.long x) :: none :: r) st M) : TJ G X R E cells slots pc (a0 :: a1 :: a2 :: a3 :: a4 :: a5 :: a6 :: a7 :: a8 :: a9 :: a10 :: a11 :: a12 :: a13 :: r) (.long x :: st) M := by
  subst hq
  exact fun p e s m args below meth c H locs hcx hP hS ls hl => lv_lstore hcx.1 hcx.2.1 d hl.has hn rfl (fun ls9 h9 => k p e s m args below meth c H locs hcx hP hS ls9 (sk_L.st2 h9 (sk_hp (k := 11) rfl rfl hp)))
theorem T.inc_12 {a0 a1 a2 a3 a4 a5 a6 a7 a8 a9 a10 a11 : Option Value} {r : List (Option Value)} {x : Int32} {n : Int} (v : Int32) (d : decode X.2.1 pc = .ok (.iinc 12 n, 3)) (hq : pc + 3 = q) (hv : Int32.ofInt n = v) (hn : 12 < X.2.2.1) (hp : sk_ok1 a11) (k : TJ G X R E cells slots q (a0 :: a1 :: a2 :: a3 :: a4 :: a5 :: a6 :: a7 :: a8 :: a9 :: a10 :: a11 :: some (.int (x + v)) :: r) st M) : TJ G X R E cells slots pc (a0 :: a1 :: a2 :: a3 :: a4 :: a5 :: a6 :: a7 :: a8 :: a9 :: a10 :: a11 :: some (.int x) :: r) st M := by
  subst hq
  subst hv
  refine fun p e s m args below meth c H locs hcx hP hS ls hl => ?_
  obtain ⟨i9, hi9⟩ := List.mem_iff_getElem?.mp (sk_pr_mem.mpr (show (a0 :: a1 :: a2 :: a3 :: a4 :: a5 :: a6 :: a7 :: a8 :: a9 :: a10 :: a11 :: some (Value.int x) :: r)[(12, Value.int x).1]? = some (some (12, Value.int x).2) from rfl))
  exact lv_iinc hcx.1 hcx.2.1 d hl.has hi9 rfl hn rfl (fun ls9 h9 => k p e s m args below meth c H locs hcx hP hS ls9 (sk_L.st1 h9 (sk_hp (k := 11) rfl rfl hp)))
theorem T.drop_12 {a0 a1 a2 a3 a4 a5 a6 a7 a8 a9 a10 a11 a12 : Option Value} {r : List (Option Value)} (k : TJ G X R E cells slots pc (a0 :: a1 :: a2 :: a3 :: a4 :: a5 :: a6 :: a7 :: a8 :: a9 :: a10 :: a11 :: none :: r) st M) : TJ G X R E cells slots pc (a0 :: a1 :: a2 :: a3 :: a4 :: a5 :: a6 :: a7 :: a8 :: a9 :: a10 :: a11 :: a12 :: r) st M := fun p e s m args below meth c H locs hcx hP hS ls hl => k p e s m args below meth c H locs hcx hP hS ls ⟨hl.1, hl.2.1, fun i v hi => hl.2.2 i v (by
  have e : (a0 :: a1 :: a2 :: a3 :: a4 :: a5 :: a6 :: a7 :: a8 :: a9 :: a10 :: a11 :: none :: r) = (a0 :: a1 :: a2 :: a3 :: a4 :: a5 :: a6 :: a7 :: a8 :: a9 :: a10 :: a11 :: a12 :: r).set 12 none := rfl
  rw [e, List.getElem?_set] at hi
  by_cases h : 12 = i
  · subst h; simp at hi
  · simpa [h] using hi)⟩
theorem T.ist_13 {a0 a1 a2 a3 a4 a5 a6 a7 a8 a9 a10 a11 a12 a13 : Option Value} {r : List (Option Value)} {x : Int32} (d : decode X.2.1 pc = .ok (.istore 13, 2)) (hq : pc + 2 = q) (hn : 13 < X.2.2.1) (hp : sk_ok1 a12) (k : TJ G X R E cells slots q (a0 :: a1 :: a2 :: a3 :: a4 :: a5 :: a6 :: a7 :: a8 :: a9 :: a10 :: a11 :: a12 :: some (.int x) :: r) st M) : TJ G X R E cells slots pc (a0 :: a1 :: a2 :: a3 :: a4 :: a5 :: a6 :: a7 :: a8 :: a9 :: a10 :: a11 :: a12 :: a13 :: r) (.int x :: st) M := by
  subst hq
  exact fun p e s m args below meth c H locs hcx hP hS ls hl => lv_istore hcx.1 hcx.2.1 d hl.has hn rfl (fun ls9 h9 => k p e s m args below meth c H locs hcx hP hS ls9 (sk_L.st1 h9 (sk_hp (k := 12) rfl rfl hp)))
theorem T.ast_13 {a0 a1 a2 a3 a4 a5 a6 a7 a8 a9 a10 a11 a12 a13 : Option Value} {r : List (Option Value)} {x : Nat} (d : decode X.2.1 pc = .ok (.astore 13, 2)) (hq : pc + 2 = q) (hn : 13 < X.2.2.1) (hp : sk_ok1 a12) (k : TJ G X R E cells slots q (a0 :: a1 :: a2 :: a3 :: a4 :: a5 :: a6 :: a7 :: a8 :: a9 :: a10 :: a11 :: a12 :: some (.ref x) :: r) st M) : TJ G X R E cells slots pc (a0 :: a1 :: a2 :: a3 :: a4 :: a5 :: a6 :: a7 :: a8 :: a9 :: a10 :: a11 :: a12 :: a13 :: r) (.ref x :: st) M := by
  subst hq
  exact fun p e s m args below meth c H locs hcx hP hS ls hl => lv_astore hcx.1 hcx.2.1 d hl.has hn rfl (fun ls9 h9 => k p e s m args below meth c H locs hcx hP hS ls9 (sk_L.st1 h9 (sk_hp (k := 12) rfl rfl hp)))
theorem T.lst_13 {a0 a1 a2 a3 a4 a5 a6 a7 a8 a9 a10 a11 a12 a13 a14 : Option Value} {r : List (Option Value)} {x : Int64} (d : decode X.2.1 pc = .ok (.lstore 13, 2)) (hq : pc + 2 = q) (hn : 13 + 1 < X.2.2.1) (hp : sk_ok1 a12) (k : TJ G X R E cells slots q (a0 :: a1 :: a2 :: a3 :: a4 :: a5 :: a6 :: a7 :: a8 :: a9 :: a10 :: a11 :: a12 :: some (.long x) :: none :: r) st M) : TJ G X R E cells slots pc (a0 :: a1 :: a2 :: a3 :: a4 :: a5 :: a6 :: a7 :: a8 :: a9 :: a10 :: a11 :: a12 :: a13 :: a14 :: r) (.long x :: st) M := by
  subst hq
  exact fun p e s m args below meth c H locs hcx hP hS ls hl => lv_lstore hcx.1 hcx.2.1 d hl.has hn rfl (fun ls9 h9 => k p e s m args below meth c H locs hcx hP hS ls9 (sk_L.st2 h9 (sk_hp (k := 12) rfl rfl hp)))
theorem T.inc_13 {a0 a1 a2 a3 a4 a5 a6 a7 a8 a9 a10 a11 a12 : Option Value} {r : List (Option Value)} {x : Int32} {n : Int} (v : Int32) (d : decode X.2.1 pc = .ok (.iinc 13 n, 3)) (hq : pc + 3 = q) (hv : Int32.ofInt n = v) (hn : 13 < X.2.2.1) (hp : sk_ok1 a12) (k : TJ G X R E cells slots q (a0 :: a1 :: a2 :: a3 :: a4 :: a5 :: a6 :: a7 :: a8 :: a9 :: a10 :: a11 :: a12 :: some (.int (x + v)) :: r) st M) : TJ G X R E cells slots pc (a0 :: a1 :: a2 :: a3 :: a4 :: a5 :: a6 :: a7 :: a8 :: a9 :: a10 :: a11 :: a12 :: some (.int x) :: r) st M := by
  subst hq
  subst hv
  refine fun p e s m args below meth c H locs hcx hP hS ls hl => ?_
  obtain ⟨i9, hi9⟩ := List.mem_iff_getElem?.mp (sk_pr_mem.mpr (show (a0 :: a1 :: a2 :: a3 :: a4 :: a5 :: a6 :: a7 :: a8 :: a9 :: a10 :: a11 :: a12 :: some (Value.int x) :: r)[(13, Value.int x).1]? = some (some (13, Value.int x).2) from rfl))
  exact lv_iinc hcx.1 hcx.2.1 d hl.has hi9 rfl hn rfl (fun ls9 h9 => k p e s m args below meth c H locs hcx hP hS ls9 (sk_L.st1 h9 (sk_hp (k := 12) rfl rfl hp)))
theorem T.drop_13 {a0 a1 a2 a3 a4 a5 a6 a7 a8 a9 a10 a11 a12 a13 : Option Value} {r : List (Option Value)} (k : TJ G X R E cells slots pc (a0 :: a1 :: a2 :: a3 :: a4 :: a5 :: a6 :: a7 :: a8 :: a9 :: a10 :: a11 :: a12 :: none :: r) st M) : TJ G X R E cells slots pc (a0 :: a1 :: a2 :: a3 :: a4 :: a5 :: a6 :: a7 :: a8 :: a9 :: a10 :: a11 :: a12 :: a13 :: r) st M := fun p e s m args below meth c H locs hcx hP hS ls hl => k p e s m args below meth c H locs hcx hP hS ls ⟨hl.1, hl.2.1, fun i v hi => hl.2.2 i v (by
  have e : (a0 :: a1 :: a2 :: a3 :: a4 :: a5 :: a6 :: a7 :: a8 :: a9 :: a10 :: a11 :: a12 :: none :: r) = (a0 :: a1 :: a2 :: a3 :: a4 :: a5 :: a6 :: a7 :: a8 :: a9 :: a10 :: a11 :: a12 :: a13 :: r).set 13 none := rfl
  rw [e, List.getElem?_set] at hi
  by_cases h : 13 = i
  · subst h; simp at hi
  · simpa [h] using hi)⟩
theorem T.ist_14 {a0 a1 a2 a3 a4 a5 a6 a7 a8 a9 a10 a11 a12 a13 a14 : Option Value} {r : List (Option Value)} {x : Int32} (d : decode X.2.1 pc = .ok (.istore 14, 2)) (hq : pc + 2 = q) (hn : 14 < X.2.2.1) (hp : sk_ok1 a13) (k : TJ G X R E cells slots q (a0 :: a1 :: a2 :: a3 :: a4 :: a5 :: a6 :: a7 :: a8 :: a9 :: a10 :: a11 :: a12 :: a13 :: some (.int x) :: r) st M) : TJ G X R E cells slots pc (a0 :: a1 :: a2 :: a3 :: a4 :: a5 :: a6 :: a7 :: a8 :: a9 :: a10 :: a11 :: a12 :: a13 :: a14 :: r) (.int x :: st) M := by
  subst hq
  exact fun p e s m args below meth c H locs hcx hP hS ls hl => lv_istore hcx.1 hcx.2.1 d hl.has hn rfl (fun ls9 h9 => k p e s m args below meth c H locs hcx hP hS ls9 (sk_L.st1 h9 (sk_hp (k := 13) rfl rfl hp)))
theorem T.ast_14 {a0 a1 a2 a3 a4 a5 a6 a7 a8 a9 a10 a11 a12 a13 a14 : Option Value} {r : List (Option Value)} {x : Nat} (d : decode X.2.1 pc = .ok (.astore 14, 2)) (hq : pc + 2 = q) (hn : 14 < X.2.2.1) (hp : sk_ok1 a13) (k : TJ G X R E cells slots q (a0 :: a1 :: a2 :: a3 :: a4 :: a5 :: a6 :: a7 :: a8 :: a9 :: a10 :: a11 :: a12 :: a13 :: some (.ref x) :: r) st M) : TJ G X R E cells slots pc (a0 :: a1 :: a2 :: a3 :: a4 :: a5 :: a6 :: a7 :: a8 :: a9 :: a10 :: a11 :: a12 :: a13 :: a14 :: r) (.ref x :: st) M := by
  subst hq
  exact fun p e s m args below meth c H locs hcx hP hS ls hl => lv_astore hcx.1 hcx.2.1 d hl.has hn rfl (fun ls9 h9 => k p e s m args below meth c H locs hcx hP hS ls9 (sk_L.st1 h9 (sk_hp (k := 13) rfl rfl hp)))
theorem T.lst_14 {a0 a1 a2 a3 a4 a5 a6 a7 a8 a9 a10 a11 a12 a13 a14 a15 : Option Value} {r : List (Option Value)} {x : Int64} (d : decode X.2.1 pc = .ok (.lstore 14, 2)) (hq : pc + 2 = q) (hn : 14 + 1 < X.2.2.1) (hp : sk_ok1 a13) (k : TJ G X R E cells slots q (a0 :: a1 :: a2 :: a3 :: a4 :: a5 :: a6 :: a7 :: a8 :: a9 :: a10 :: a11 :: a12 :: a13 :: some (.long x) :: none :: r) st M) : TJ G X R E cells slots pc (a0 :: a1 :: a2 :: a3 :: a4 :: a5 :: a6 :: a7 :: a8 :: a9 :: a10 :: a11 :: a12 :: a13 :: a14 :: a15 :: r) (.long x :: st) M := by
  subst hq
  exact fun p e s m args below meth c H locs hcx hP hS ls hl => lv_lstore hcx.1 hcx.2.1 d hl.has hn rfl (fun ls9 h9 => k p e s m args below meth c H locs hcx hP hS ls9 (sk_L.st2 h9 (sk_hp (k := 13) rfl rfl hp)))
theorem T.inc_14 {a0 a1 a2 a3 a4 a5 a6 a7 a8 a9 a10 a11 a12 a13 : Option Value} {r : List (Option Value)} {x : Int32} {n : Int} (v : Int32) (d : decode X.2.1 pc = .ok (.iinc 14 n, 3)) (hq : pc + 3 = q) (hv : Int32.ofInt n = v) (hn : 14 < X.2.2.1) (hp : sk_ok1 a13) (k : TJ G X R E cells slots q (a0 :: a1 :: a2 :: a3 :: a4 :: a5 :: a6 :: a7 :: a8 :: a9 :: a10 :: a11 :: a12 :: a13 :: some (.int (x + v)) :: r) st M) : TJ G X R E cells slots pc (a0 :: a1 :: a2 :: a3 :: a4 :: a5 :: a6 :: a7 :: a8 :: a9 :: a10 :: a11 :: a12 :: a13 :: some (.int x) :: r) st M := by
  subst hq
  subst hv
  refine fun p e s m args below meth c H locs hcx hP hS ls hl => ?_
  obtain ⟨i9, hi9⟩ := List.mem_iff_getElem?.mp (sk_pr_mem.mpr (show (a0 :: a1 :: a2 :: a3 :: a4 :: a5 :: a6 :: a7 :: a8 :: a9 :: a10 :: a11 :: a12 :: a13 :: some (Value.int x) :: r)[(14, Value.int x).1]? = some (some (14, Value.int x).2) from rfl))
  exact lv_iinc hcx.1 hcx.2.1 d hl.has hi9 rfl hn rfl (fun ls9 h9 => k p e s m args below meth c H locs hcx hP hS ls9 (sk_L.st1 h9 (sk_hp (k := 13) rfl rfl hp)))
theorem T.drop_14 {a0 a1 a2 a3 a4 a5 a6 a7 a8 a9 a10 a11 a12 a13 a14 : Option Value} {r : List (Option Value)} (k : TJ G X R E cells slots pc (a0 :: a1 :: a2 :: a3 :: a4 :: a5 :: a6 :: a7 :: a8 :: a9 :: a10 :: a11 :: a12 :: a13 :: none :: r) st M) : TJ G X R E cells slots pc (a0 :: a1 :: a2 :: a3 :: a4 :: a5 :: a6 :: a7 :: a8 :: a9 :: a10 :: a11 :: a12 :: a13 :: a14 :: r) st M := fun p e s m args below meth c H locs hcx hP hS ls hl => k p e s m args below meth c H locs hcx hP hS ls ⟨hl.1, hl.2.1, fun i v hi => hl.2.2 i v (by
  have e : (a0 :: a1 :: a2 :: a3 :: a4 :: a5 :: a6 :: a7 :: a8 :: a9 :: a10 :: a11 :: a12 :: a13 :: none :: r) = (a0 :: a1 :: a2 :: a3 :: a4 :: a5 :: a6 :: a7 :: a8 :: a9 :: a10 :: a11 :: a12 :: a13 :: a14 :: r).set 14 none := rfl
  rw [e, List.getElem?_set] at hi
  by_cases h : 14 = i
  · subst h; simp at hi
  · simpa [h] using hi)⟩
theorem T.ist_15 {a0 a1 a2 a3 a4 a5 a6 a7 a8 a9 a10 a11 a12 a13 a14 a15 : Option Value} {r : List (Option Value)} {x : Int32} (d : decode X.2.1 pc = .ok (.istore 15, 2)) (hq : pc + 2 = q) (hn : 15 < X.2.2.1) (hp : sk_ok1 a14) (k : TJ G X R E cells slots q (a0 :: a1 :: a2 :: a3 :: a4 :: a5 :: a6 :: a7 :: a8 :: a9 :: a10 :: a11 :: a12 :: a13 :: a14 :: some (.int x) :: r) st M) : TJ G X R E cells slots pc (a0 :: a1 :: a2 :: a3 :: a4 :: a5 :: a6 :: a7 :: a8 :: a9 :: a10 :: a11 :: a12 :: a13 :: a14 :: a15 :: r) (.int x :: st) M := by
  subst hq
  exact fun p e s m args below meth c H locs hcx hP hS ls hl => lv_istore hcx.1 hcx.2.1 d hl.has hn rfl (fun ls9 h9 => k p e s m args below meth c H locs hcx hP hS ls9 (sk_L.st1 h9 (sk_hp (k := 14) rfl rfl hp)))
theorem T.ast_15 {a0 a1 a2 a3 a4 a5 a6 a7 a8 a9 a10 a11 a12 a13 a14 a15 : Option Value} {r : List (Option Value)} {x : Nat} (d : decode X.2.1 pc = .ok (.astore 15, 2)) (hq : pc + 2 = q) (hn : 15 < X.2.2.1) (hp : sk_ok1 a14) (k : TJ G X R E cells slots q (a0 :: a1 :: a2 :: a3 :: a4 :: a5 :: a6 :: a7 :: a8 :: a9 :: a10 :: a11 :: a12 :: a13 :: a14 :: some (.ref x) :: r) st M) : TJ G X R E cells slots pc (a0 :: a1 :: a2 :: a3 :: a4 :: a5 :: a6 :: a7 :: a8 :: a9 :: a10 :: a11 :: a12 :: a13 :: a14 :: a15 :: r) (.ref x :: st) M := by
  subst hq
  exact fun p e s m args below meth c H locs hcx hP hS ls hl => lv_astore hcx.1 hcx.2.1 d hl.has hn rfl (fun ls9 h9 => k p e s m args below meth c H locs hcx hP hS ls9 (sk_L.st1 h9 (sk_hp (k := 14) rfl rfl hp)))
theorem T.inc_15 {a0 a1 a2 a3 a4 a5 a6 a7 a8 a9 a10 a11 a12 a13 a14 : Option Value} {r : List (Option Value)} {x : Int32} {n : Int} (v : Int32) (d : decode X.2.1 pc = .ok (.iinc 15 n, 3)) (hq : pc + 3 = q) (hv : Int32.ofInt n = v) (hn : 15 < X.2.2.1) (hp : sk_ok1 a14) (k : TJ G X R E cells slots q (a0 :: a1 :: a2 :: a3 :: a4 :: a5 :: a6 :: a7 :: a8 :: a9 :: a10 :: a11 :: a12 :: a13 :: a14 :: some (.int (x + v)) :: r) st M) : TJ G X R E cells slots pc (a0 :: a1 :: a2 :: a3 :: a4 :: a5 :: a6 :: a7 :: a8 :: a9 :: a10 :: a11 :: a12 :: a13 :: a14 :: some (.int x) :: r) st M := by
  subst hq
  subst hv
  refine fun p e s m args below meth c H locs hcx hP hS ls hl => ?_
  obtain ⟨i9, hi9⟩ := List.mem_iff_getElem?.mp (sk_pr_mem.mpr (show (a0 :: a1 :: a2 :: a3 :: a4 :: a5 :: a6 :: a7 :: a8 :: a9 :: a10 :: a11 :: a12 :: a13 :: a14 :: some (Value.int x) :: r)[(15, Value.int x).1]? = some (some (15, Value.int x).2) from rfl))
  exact lv_iinc hcx.1 hcx.2.1 d hl.has hi9 rfl hn rfl (fun ls9 h9 => k p e s m args below meth c H locs hcx hP hS ls9 (sk_L.st1 h9 (sk_hp (k := 14) rfl rfl hp)))
theorem T.drop_15 {a0 a1 a2 a3 a4 a5 a6 a7 a8 a9 a10 a11 a12 a13 a14 a15 : Option Value} {r : List (Option Value)} (k : TJ G X R E cells slots pc (a0 :: a1 :: a2 :: a3 :: a4 :: a5 :: a6 :: a7 :: a8 :: a9 :: a10 :: a11 :: a12 :: a13 :: a14 :: none :: r) st M) : TJ G X R E cells slots pc (a0 :: a1 :: a2 :: a3 :: a4 :: a5 :: a6 :: a7 :: a8 :: a9 :: a10 :: a11 :: a12 :: a13 :: a14 :: a15 :: r) st M := fun p e s m args below meth c H locs hcx hP hS ls hl => k p e s m args below meth c H locs hcx hP hS ls ⟨hl.1, hl.2.1, fun i v hi => hl.2.2 i v (by
  have e : (a0 :: a1 :: a2 :: a3 :: a4 :: a5 :: a6 :: a7 :: a8 :: a9 :: a10 :: a11 :: a12 :: a13 :: a14 :: none :: r) = (a0 :: a1 :: a2 :: a3 :: a4 :: a5 :: a6 :: a7 :: a8 :: a9 :: a10 :: a11 :: a12 :: a13 :: a14 :: a15 :: r).set 15 none := rfl
  rw [e, List.getElem?_set] at hi
  by_cases h : 15 = i
  · subst h; simp at hi
  · simpa [h] using hi)⟩
end SKR
