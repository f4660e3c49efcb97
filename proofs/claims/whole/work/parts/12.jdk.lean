/-! the JDK's own: bit counts -/
def us64 (x : Int64) (k : Int32) : Int64 := (x.toUInt64 >>> (k.toInt64.toUInt64 &&& Int64.toUInt64 63)).toInt64
def us32 (x k : Int32) : Int32 := (x.toUInt32 >>> (k.toUInt32 &&& Int32.toUInt32 31)).toInt32
def bc64 (x : Int64) : Int32 :=
  let a := x - (us64 x 1 &&& 6148914691236517205)
  let b := (a &&& 3689348814741910323) + (us64 a 2 &&& 3689348814741910323)
  let c := (b + us64 b 4) &&& 1085102592571150095
  let e := c + us64 c 8
  let f := e + us64 e 16
  let g := f + us64 f 32
  g.toInt32 &&& 127
def bc32 (x : Int32) : Int32 :=
  let a := x - (us32 x 1 &&& 1431655765)
  let b := (a &&& 858993459) + (us32 a 2 &&& 858993459)
  let c := (b + us32 b 4) &&& 252645135
  let e := c + us32 c 8
  let f := e + us32 e 16
  f &&& 63
theorem c_bc64 {G : sk_G} {d : Nat} {M : sk_M} {x : Int64} : Ctr G mJ13_bitCount_95d88 d 0 0 [.long x] M (rI fun r M' => r = bc64 x ∧ M' = M) noX := by
  refine Ctr.of 0 (by decide) (Nat.le_of_ble_eq_true rfl) ?_
  refine T.lld_0 (q := 1) dJ13_bitCount_95d88_0 rfl ?_
  refine T.lld_0 (q := 2) dJ13_bitCount_95d88_1 rfl ?_
  refine T.iconst (q := 3) (1) dJ13_bitCount_95d88_2 rfl (by decide) ?_
  refine T.lushr (q := 4) dJ13_bitCount_95d88_3 rfl ?_
  refine T.ldc2 (q := 7) (6148914691236517205) dJ13_bitCount_95d88_4 rfl w_J13_c314 ?_
  refine T.land (q := 8) dJ13_bitCount_95d88_7 rfl ?_
  refine T.lsub (q := 9) dJ13_bitCount_95d88_8 rfl ?_
  refine T.lst_0 (q := 10) dJ13_bitCount_95d88_9 rfl (by decide) ?_
  refine T.lld_0 (q := 11) dJ13_bitCount_95d88_10 rfl ?_
  refine T.ldc2 (q := 14) (3689348814741910323) dJ13_bitCount_95d88_11 rfl w_J13_c316 ?_
  refine T.land (q := 15) dJ13_bitCount_95d88_14 rfl ?_
  refine T.lld_0 (q := 16) dJ13_bitCount_95d88_15 rfl ?_
  refine T.iconst (q := 17) (2) dJ13_bitCount_95d88_16 rfl (by decide) ?_
  refine T.lushr (q := 18) dJ13_bitCount_95d88_17 rfl ?_
  refine T.ldc2 (q := 21) (3689348814741910323) dJ13_bitCount_95d88_18 rfl w_J13_c316 ?_
  refine T.land (q := 22) dJ13_bitCount_95d88_21 rfl ?_
  refine T.ladd (q := 23) dJ13_bitCount_95d88_22 rfl ?_
  refine T.lst_0 (q := 24) dJ13_bitCount_95d88_23 rfl (by decide) ?_
  refine T.lld_0 (q := 25) dJ13_bitCount_95d88_24 rfl ?_
  refine T.lld_0 (q := 26) dJ13_bitCount_95d88_25 rfl ?_
  refine T.iconst (q := 27) (4) dJ13_bitCount_95d88_26 rfl (by decide) ?_
  refine T.lushr (q := 28) dJ13_bitCount_95d88_27 rfl ?_
  refine T.ladd (q := 29) dJ13_bitCount_95d88_28 rfl ?_
  refine T.ldc2 (q := 32) (1085102592571150095) dJ13_bitCount_95d88_29 rfl w_J13_c318 ?_
  refine T.land (q := 33) dJ13_bitCount_95d88_32 rfl ?_
  refine T.lst_0 (q := 34) dJ13_bitCount_95d88_33 rfl (by decide) ?_
  refine T.lld_0 (q := 35) dJ13_bitCount_95d88_34 rfl ?_
  refine T.lld_0 (q := 36) dJ13_bitCount_95d88_35 rfl ?_
  refine T.bipush (q := 38) (8) dJ13_bitCount_95d88_36 rfl (by decide) ?_
  refine T.lushr (q := 39) dJ13_bitCount_95d88_38 rfl ?_
  refine T.ladd (q := 40) dJ13_bitCount_95d88_39 rfl ?_
  refine T.lst_0 (q := 41) dJ13_bitCount_95d88_40 rfl (by decide) ?_
  refine T.lld_0 (q := 42) dJ13_bitCount_95d88_41 rfl ?_
  refine T.lld_0 (q := 43) dJ13_bitCount_95d88_42 rfl ?_
  refine T.bipush (q := 45) (16) dJ13_bitCount_95d88_43 rfl (by decide) ?_
  refine T.lushr (q := 46) dJ13_bitCount_95d88_45 rfl ?_
  refine T.ladd (q := 47) dJ13_bitCount_95d88_46 rfl ?_
  refine T.lst_0 (q := 48) dJ13_bitCount_95d88_47 rfl (by decide) ?_
  refine T.lld_0 (q := 49) dJ13_bitCount_95d88_48 rfl ?_
  refine T.lld_0 (q := 50) dJ13_bitCount_95d88_49 rfl ?_
  refine T.bipush (q := 52) (32) dJ13_bitCount_95d88_50 rfl (by decide) ?_
  refine T.lushr (q := 53) dJ13_bitCount_95d88_52 rfl ?_
  refine T.ladd (q := 54) dJ13_bitCount_95d88_53 rfl ?_
  refine T.lst_0 (q := 55) dJ13_bitCount_95d88_54 rfl (by decide) ?_
  refine T.lld_0 (q := 56) dJ13_bitCount_95d88_55 rfl ?_
  refine T.l2i (q := 57) dJ13_bitCount_95d88_56 rfl ?_
  refine T.bipush (q := 59) (127) dJ13_bitCount_95d88_57 rfl (by decide) ?_
  refine T.iand (q := 60) dJ13_bitCount_95d88_59 rfl ?_
  exact T.retI rfl dJ13_bitCount_95d88_60 (by decide) (by decide) ⟨rfl, rfl⟩
theorem c_bc32 {G : sk_G} {d : Nat} {M : sk_M} {x : Int32} : Ctr G mJ6_bitCount_0f7a4 d 0 0 [.int x] M (rI fun r M' => r = bc32 x ∧ M' = M) noX := by
  refine Ctr.of 0 (by decide) (Nat.le_of_ble_eq_true rfl) ?_
  refine T.ild_0 (q := 1) dJ6_bitCount_0f7a4_0 rfl ?_
  refine T.ild_0 (q := 2) dJ6_bitCount_0f7a4_1 rfl ?_
  refine T.iconst (q := 3) (1) dJ6_bitCount_0f7a4_2 rfl (by decide) ?_
  refine T.iushr (q := 4) dJ6_bitCount_0f7a4_3 rfl ?_
  refine T.ldcw (q := 7) (1431655765) dJ6_bitCount_0f7a4_4 rfl w_J6_c265 ?_
  refine T.iand (q := 8) dJ6_bitCount_0f7a4_7 rfl ?_
  refine T.isub (q := 9) dJ6_bitCount_0f7a4_8 rfl ?_
  refine T.ist_0 (q := 10) dJ6_bitCount_0f7a4_9 rfl (by decide) ?_
  refine T.ild_0 (q := 11) dJ6_bitCount_0f7a4_10 rfl ?_
  refine T.ldcw (q := 14) (858993459) dJ6_bitCount_0f7a4_11 rfl w_J6_c266 ?_
  refine T.iand (q := 15) dJ6_bitCount_0f7a4_14 rfl ?_
  refine T.ild_0 (q := 16) dJ6_bitCount_0f7a4_15 rfl ?_
  refine T.iconst (q := 17) (2) dJ6_bitCount_0f7a4_16 rfl (by decide) ?_
  refine T.iushr (q := 18) dJ6_bitCount_0f7a4_17 rfl ?_
  refine T.ldcw (q := 21) (858993459) dJ6_bitCount_0f7a4_18 rfl w_J6_c266 ?_
  refine T.iand (q := 22) dJ6_bitCount_0f7a4_21 rfl ?_
  refine T.iadd (q := 23) dJ6_bitCount_0f7a4_22 rfl ?_
  refine T.ist_0 (q := 24) dJ6_bitCount_0f7a4_23 rfl (by decide) ?_
  refine T.ild_0 (q := 25) dJ6_bitCount_0f7a4_24 rfl ?_
  refine T.ild_0 (q := 26) dJ6_bitCount_0f7a4_25 rfl ?_
  refine T.iconst (q := 27) (4) dJ6_bitCount_0f7a4_26 rfl (by decide) ?_
  refine T.iushr (q := 28) dJ6_bitCount_0f7a4_27 rfl ?_
  refine T.iadd (q := 29) dJ6_bitCount_0f7a4_28 rfl ?_
  refine T.ldcw (q := 32) (252645135) dJ6_bitCount_0f7a4_29 rfl w_J6_c267 ?_
  refine T.iand (q := 33) dJ6_bitCount_0f7a4_32 rfl ?_
  refine T.ist_0 (q := 34) dJ6_bitCount_0f7a4_33 rfl (by decide) ?_
  refine T.ild_0 (q := 35) dJ6_bitCount_0f7a4_34 rfl ?_
  refine T.ild_0 (q := 36) dJ6_bitCount_0f7a4_35 rfl ?_
  refine T.bipush (q := 38) (8) dJ6_bitCount_0f7a4_36 rfl (by decide) ?_
  refine T.iushr (q := 39) dJ6_bitCount_0f7a4_38 rfl ?_
  refine T.iadd (q := 40) dJ6_bitCount_0f7a4_39 rfl ?_
  refine T.ist_0 (q := 41) dJ6_bitCount_0f7a4_40 rfl (by decide) ?_
  refine T.ild_0 (q := 42) dJ6_bitCount_0f7a4_41 rfl ?_
  refine T.ild_0 (q := 43) dJ6_bitCount_0f7a4_42 rfl ?_
  refine T.bipush (q := 45) (16) dJ6_bitCount_0f7a4_43 rfl (by decide) ?_
  refine T.iushr (q := 46) dJ6_bitCount_0f7a4_45 rfl ?_
  refine T.iadd (q := 47) dJ6_bitCount_0f7a4_46 rfl ?_
  refine T.ist_0 (q := 48) dJ6_bitCount_0f7a4_47 rfl (by decide) ?_
  refine T.ild_0 (q := 49) dJ6_bitCount_0f7a4_48 rfl ?_
  refine T.bipush (q := 51) (63) dJ6_bitCount_0f7a4_49 rfl (by decide) ?_
  refine T.iand (q := 52) dJ6_bitCount_0f7a4_51 rfl ?_
  exact T.retI rfl dJ6_bitCount_0f7a4_52 (by decide) (by decide) ⟨rfl, rfl⟩
/-! a truth as an int; bits of those with P; a sum -/
noncomputable def bI (p : Prop) : Int32 := by
  classical
  exact if p then 1 else 0
theorem bI_t {p : Prop} (h : p) : bI p = 1 := by simp [bI, h]
theorem bI_f {p : Prop} (h : ¬ p) : bI p = 0 := by simp [bI, h]
theorem bI_01 (p : Prop) : bI p = 0 ∨ bI p = 1 := by
  by_cases h : p
  · exact Or.inr (bI_t h)
  · exact Or.inl (bI_f h)
theorem bI_z {p : Prop} : bI p = 0 ↔ ¬ p := ⟨fun h q => by rw [bI_t q] at h; exact absurd h (by decide), bI_f⟩
theorem bI_n {p : Prop} : ¬ bI p = 0 ↔ p := ⟨fun h => Classical.byContradiction fun q => h (bI_f q), fun h q => bI_z.mp q h⟩
theorem bI_1 {p : Prop} : bI p = 1 ↔ p := ⟨fun h => Classical.byContradiction fun q => by rw [bI_f q] at h; exact absurd h (by decide), bI_t⟩
theorem bI_nar (p : Prop) : narrow .boolean (.int (bI p)) = .int (bI p) := by rcases bI_01 p with h | h <;> rw [h] <;> rfl
theorem bI_if {p : Prop} [Decidable p] : (if p then (1 : Int32) else 0) = bI p := by
  by_cases h : p
  · rw [if_pos h, bI_t h]
  · rw [if_neg h, bI_f h]
theorem bI_cg {p q : Prop} (h : p ↔ q) : bI p = bI q := by rw [propext h]
noncomputable def bitsP (P : Nat → Prop) : Nat → Int32
  | 0 => 0
  | n + 1 => by
    classical
    exact if P n then bitsP P n ||| (1 <<< (nI n &&& 31)) else bitsP P n
theorem bitsP_t {P : Nat → Prop} {n : Nat} (h : P n) : bitsP P n ||| (1 <<< (nI n &&& 31)) = bitsP P (n + 1) := by simp [bitsP, h]
theorem bitsP_f {P : Nat → Prop} {n : Nat} (h : ¬ P n) : bitsP P n = bitsP P (n + 1) := by simp [bitsP, h]
def sumI (f : Nat → Int32) : Nat → Int32
  | 0 => 0
  | n + 1 => sumI f n + f n
