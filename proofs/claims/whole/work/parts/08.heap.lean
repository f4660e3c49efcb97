/-! rules: fields, arrays, calls, returns, throws -/
section SKH
variable {G : sk_G} {X : sk_X} {R : Room} {E : sk_E} {cells slots pc q : Nat} {xs : List (Option Value)} {st : List Value} {M : sk_M}
def sk_wok (w : Cond) : Bool := decide (w ∈ lw_tbl) && goodWord w
/-- a field of the object in cell c -/
theorem T.getf {c ci k i : Nat} {C : String} {T : u_T} {N : Nat} (hc : vwCl[ci]? = some (C, T, N)) (hci : ci < 10) (hkd : sk_kd c = ci) (hln : sk_ln c = N) (hlt : c < 159) (hk : k < N) (hin : ∀ w ∈ u_ws C T N, w ∈ sk_w) (hown : (T k).1 = C)
    (hw : sk_wok (.fieldLink X.1.cls i C (T k).2.1 (T k).2.2.1) = true) (d : decode X.2.1 pc = .ok (.getfield i, 3)) (hq : pc + 3 = q) (kk : TJ G X R E cells slots q xs (sk_fv G.2.2.1 M c k :: st) M) : TJ G X R E cells slots pc xs (.ref (G.2.2.1 c) :: st) M := by
  subst hq
  intro p e s m args below meth co H locs hcx hP hS ls hl
  refine va_get (C := C) (T := T) (N := N) (ci := ci) (ref := C) (own := X.1.cls) hcx.1 hcx.2.1 hcx.2.2.2.2.2.1 hin hcx.2.2.2.2.1 hcx.2.2.2.2.2.2.2.2.1 hP c (by rw [sk_at hlt, sk_ce_obj hkd hci]) hc k hk (hcx.2.2.2.2.2.1 _ (sk_w_in hw)) (fun x h => by rw [hown] at h; exact h) (sk_fld hln hk) d ?_
  exact kk p e s m args below meth co H locs hcx hP hS ls hl
theorem T.putf {c ci k i : Nat} {C : String} {T : u_T} {N : Nat} {v : Int32} {ty : FieldType} (ty0 : Nat → FieldType) (hc : vwCl[ci]? = some (C, T, N)) (hci : ci < 10) (hkd : sk_kd c = ci) (hln : sk_ln c = N) (hlt : c < 159) (hk : k < N) (hin : ∀ w ∈ u_ws C T N, w ∈ sk_w) (hown : (T k).1 = C)
    (hty : ∀ k, k < N → parseFieldDescriptor (T k).2.2.1 = some (ty0 k)) (hnm : ∀ a, a < N → ∀ b, b < N → a ≠ b → (T a).2.1 ≠ (T b).2.1) (hfin : (T k).2.2.2 = false) (hd : parseFieldDescriptor (T k).2.2.1 = some ty) (hr : sk_rf c k = none) (hn : narrow ty (.int v) = .int v) (hfit : fits ty (.int v) = true)
    (hw : sk_wok (.fieldLink X.1.cls i C (T k).2.1 (T k).2.2.1) = true) (d : decode X.2.1 pc = .ok (.putfield i, 3)) (hq : pc + 3 = q) (kk : TJ G X R E cells slots q xs st (sk_si M c k v)) : TJ G X R E cells slots pc xs (.int v :: .ref (G.2.2.1 c) :: st) M := by
  subst hq
  intro p e s m args below meth co H locs hcx hP hS ls hl
  refine va_put (C := C) (T := T) (N := N) (ci := ci) (ref := C) (own := X.1.cls) hcx.1 hcx.2.1 hcx.2.2.2.2.2.1 hin ty0 hty hnm hcx.2.2.2.2.1 hcx.2.2.2.2.2.2.2.2.1 hP (sk_D hcx.2.2.2.2.2.2.2.2.2.1) hS c (by rw [sk_at hlt, sk_ce_obj hkd hci]) hc k hk (hcx.2.2.2.2.2.1 _ (sk_w_in hw)) (fun x h => by rw [hown] at h; exact h) hfin hd hn hfit (by simp [hln, hk]) d ?_
  intro H1 locs1 hP1 _ hS1
  rw [sk_set_fld hkd hci hr] at hP1
  exact kk p e s m args below meth co H1 locs1 hcx hP1 hS1 ls hl
theorem T.iald {c n : Nat} {i : Int32} (hkd : sk_kd c = 10) (hln : sk_ln c = n) (hlt : c < 159) (d : decode X.2.1 pc = .ok (.iaload, 1)) (hq : pc + 1 = q) (hin : vp_in i n) (kk : TJ G X R E cells slots q xs (.int (M.1 c i.toNatClampNeg) :: st) M) : TJ G X R E cells slots pc xs (.int i :: .ref (G.2.2.1 c) :: st) M := by
  subst hq hln
  intro p e s m args below meth co H locs hcx hP hS ls hl
  exact va_iald hcx.1 hcx.2.1 hcx.2.2.2.2.2.2.2.2.1 hP c 0 (by rw [sk_at hlt, sk_ce_int hkd (by decide) (by decide) (by decide)]) rfl hin d (kk p e s m args below meth co H locs hcx hP hS ls hl)
theorem T.zald {c n : Nat} {i : Int32} (hkd : sk_kd c = 12) (hln : sk_ln c = n) (hlt : c < 159) (d : decode X.2.1 pc = .ok (.baload, 1)) (hq : pc + 1 = q) (hin : vp_in i n) (kk : TJ G X R E cells slots q xs (.int (M.1 c i.toNatClampNeg) :: st) M) : TJ G X R E cells slots pc xs (.int i :: .ref (G.2.2.1 c) :: st) M := by
  subst hq hln
  intro p e s m args below meth co H locs hcx hP hS ls hl
  exact va_zald hcx.1 hcx.2.1 hcx.2.2.2.2.2.2.2.2.1 hP c 2 (by rw [sk_at hlt, sk_ce_int hkd (by decide) (by decide) (by decide)]) rfl hin d (kk p e s m args below meth co H locs hcx hP hS ls hl)
theorem T.bald {c n : Nat} {i : Int32} (hkd : sk_kd c = 13) (hln : sk_ln c = n) (hlt : c < 159) (d : decode X.2.1 pc = .ok (.baload, 1)) (hq : pc + 1 = q) (hin : vp_in i n) (kk : TJ G X R E cells slots q xs (.int (M.1 c i.toNatClampNeg) :: st) M) : TJ G X R E cells slots pc xs (.int i :: .ref (G.2.2.1 c) :: st) M := by
  subst hq hln
  intro p e s m args below meth co H locs hcx hP hS ls hl
  exact va_bald hcx.1 hcx.2.1 hcx.2.2.2.2.2.2.2.2.1 hP c 3 (by rw [sk_at hlt, sk_ce_int hkd (by decide) (by decide) (by decide)]) rfl hin d (kk p e s m args below meth co H locs hcx hP hS ls hl)
theorem T.lald {c n : Nat} {i : Int32} (hkd : sk_kd c = 11) (hln : sk_ln c = n) (hlt : c < 159) (d : decode X.2.1 pc = .ok (.laload, 1)) (hq : pc + 1 = q) (hin : vp_in i n) (kk : TJ G X R E cells slots q xs (.long (M.2 c i.toNatClampNeg) :: st) M) : TJ G X R E cells slots pc xs (.int i :: .ref (G.2.2.1 c) :: st) M := by
  subst hq hln
  intro p e s m args below meth co H locs hcx hP hS ls hl
  exact va_lald hcx.1 hcx.2.1 hcx.2.2.2.2.2.2.2.2.1 hP c 1 (by rw [sk_at hlt, sk_ce_long hkd]) rfl hin d (kk p e s m args below meth co H locs hcx hP hS ls hl)
/-- a State out of Memory's row -/
theorem T.aald {i : Int32} (d : decode X.2.1 pc = .ok (.aaload, 1)) (hq : pc + 1 = q) (hin : vp_in i 10) (kk : TJ G X R E cells slots q xs (.ref (G.2.2.1 (20 + 10 * i.toNatClampNeg)) :: st) M) : TJ G X R E cells slots pc xs (.int i :: .ref (G.2.2.1 124) :: st) M := by
  subst hq
  intro p e s m args below meth co H locs hcx hP hS ls hl
  exact va_aldq hcx.1 hcx.2.1 hcx.2.2.2.2.2.2.2.2.1 hP 124 4 (C := "SafeKnown$State") (n := 10) (f := fun k => some (G.2.2.1 (20 + 10 * k))) (by rw [sk_at (by decide), sk_ce_ref rfl]; rfl) rfl hin d (kk p e s m args below meth co H locs hcx hP hS ls hl)
theorem T.iast {c n : Nat} {i v : Int32} (hkd : sk_kd c = 10) (hln : sk_ln c = n) (hlt : c < 159) (d : decode X.2.1 pc = .ok (.iastore, 1)) (hq : pc + 1 = q) (hin : vp_in i n) (kk : TJ G X R E cells slots q xs st (sk_si M c i.toNatClampNeg v)) : TJ G X R E cells slots pc xs (.int v :: .int i :: .ref (G.2.2.1 c) :: st) M := by
  subst hq hln
  intro p e s m args below meth co H locs hcx hP hS ls hl
  refine va_iast hcx.1 hcx.2.1 hcx.2.2.2.2.2.2.2.2.1 hP (sk_D hcx.2.2.2.2.2.2.2.2.2.1) hS c 0 (by rw [sk_at hlt, sk_ce_int hkd (by decide) (by decide) (by decide)]) rfl hin d (fun H1 locs1 hP1 _ hS1 => ?_)
  rw [sk_set_int hkd (by decide) (by decide) (by decide)] at hP1
  exact kk p e s m args below meth co H1 locs1 hcx hP1 hS1 ls hl
theorem T.zast {c n : Nat} {i v : Int32} (hkd : sk_kd c = 12) (hln : sk_ln c = n) (hlt : c < 159) (d : decode X.2.1 pc = .ok (.bastore, 1)) (hq : pc + 1 = q) (hin : vp_in i n) (kk : TJ G X R E cells slots q xs st (sk_si M c i.toNatClampNeg (vp_nar .boolean v))) : TJ G X R E cells slots pc xs (.int v :: .int i :: .ref (G.2.2.1 c) :: st) M := by
  subst hq hln
  intro p e s m args below meth co H locs hcx hP hS ls hl
  refine va_zast hcx.1 hcx.2.1 hcx.2.2.2.2.2.2.2.2.1 hP (sk_D hcx.2.2.2.2.2.2.2.2.2.1) hS c 2 (by rw [sk_at hlt, sk_ce_int hkd (by decide) (by decide) (by decide)]) rfl hin d (fun H1 locs1 hP1 _ hS1 => ?_)
  rw [sk_set_int hkd (by decide) (by decide) (by decide)] at hP1
  exact kk p e s m args below meth co H1 locs1 hcx hP1 hS1 ls hl
theorem T.bast {c n : Nat} {i v : Int32} (hkd : sk_kd c = 13) (hln : sk_ln c = n) (hlt : c < 159) (d : decode X.2.1 pc = .ok (.bastore, 1)) (hq : pc + 1 = q) (hin : vp_in i n) (kk : TJ G X R E cells slots q xs st (sk_si M c i.toNatClampNeg (vp_nar .byte v))) : TJ G X R E cells slots pc xs (.int v :: .int i :: .ref (G.2.2.1 c) :: st) M := by
  subst hq hln
  intro p e s m args below meth co H locs hcx hP hS ls hl
  refine va_bast hcx.1 hcx.2.1 hcx.2.2.2.2.2.2.2.2.1 hP (sk_D hcx.2.2.2.2.2.2.2.2.2.1) hS c 3 (by rw [sk_at hlt, sk_ce_int hkd (by decide) (by decide) (by decide)]) rfl hin d (fun H1 locs1 hP1 _ hS1 => ?_)
  rw [sk_set_int hkd (by decide) (by decide) (by decide)] at hP1
  exact kk p e s m args below meth co H1 locs1 hcx hP1 hS1 ls hl
theorem T.last {c n : Nat} {i : Int32} {v : Int64} (hkd : sk_kd c = 11) (hln : sk_ln c = n) (hlt : c < 159) (d : decode X.2.1 pc = .ok (.lastore, 1)) (hq : pc + 1 = q) (hin : vp_in i n) (kk : TJ G X R E cells slots q xs st (sk_sl M c i.toNatClampNeg v)) : TJ G X R E cells slots pc xs (.long v :: .int i :: .ref (G.2.2.1 c) :: st) M := by
  subst hq hln
  intro p e s m args below meth co H locs hcx hP hS ls hl
  refine va_last hcx.1 hcx.2.1 hcx.2.2.2.2.2.2.2.2.1 hP (sk_D hcx.2.2.2.2.2.2.2.2.2.1) hS c 1 (by rw [sk_at hlt, sk_ce_long hkd]) rfl hin d (fun H1 locs1 hP1 _ hS1 => ?_)
  rw [sk_set_long hkd] at hP1
  exact kk p e s m args below meth co H1 locs1 hcx hP1 hS1 ls hl
theorem T.alenI {c : Nat} (v : Int32) (hkd : sk_kd c = 10) (hlt : c < 159) (hv : Int32.ofNat (sk_ln c) = v) (d : decode X.2.1 pc = .ok (.arraylength, 1)) (hq : pc + 1 = q) (kk : TJ G X R E cells slots q xs (.int v :: st) M) : TJ G X R E cells slots pc xs (.ref (G.2.2.1 c) :: st) M := by
  subst hq
  intro p e s m args below meth co H locs hcx hP hS ls hl
  exact va_alen hcx.1 hcx.2.1 hcx.2.2.2.2.2.2.2.2.1 hP c 0 (by rw [sk_at hlt, sk_ce_int hkd (by decide) (by decide) (by decide)]) rfl hv d (kk p e s m args below meth co H locs hcx hP hS ls hl)
theorem T.alenL {c : Nat} (v : Int32) (hkd : sk_kd c = 11) (hlt : c < 159) (hv : Int32.ofNat (sk_ln c) = v) (d : decode X.2.1 pc = .ok (.arraylength, 1)) (hq : pc + 1 = q) (kk : TJ G X R E cells slots q xs (.int v :: st) M) : TJ G X R E cells slots pc xs (.ref (G.2.2.1 c) :: st) M := by
  subst hq
  intro p e s m args below meth co H locs hcx hP hS ls hl
  exact va_alen hcx.1 hcx.2.1 hcx.2.2.2.2.2.2.2.2.1 hP c 1 (by rw [sk_at hlt, sk_ce_long hkd]) rfl hv d (kk p e s m args below meth co H locs hcx hP hS ls hl)
/-- the Strings of the constant pools -/
theorem T.strF {i j : Nat} {n9 d9 : String} {v : Value} (hi : i < sk_SN) (hn : (n9 = "coder" ∧ d9 = "B" ∧ v = .int 0) ∨ (n9 = "value" ∧ d9 = "[B" ∧ v = .ref (G.2.2.2.2.2 i))) (hw : sk_wok (.fieldLink X.1.cls j "java/lang/String" n9 d9) = true) (d : decode X.2.1 pc = .ok (.getfield j, 3)) (hq : pc + 3 = q)
    (kk : TJ G X R E cells slots q xs (v :: st) M) : TJ G X R E cells slots pc xs (.ref (G.2.2.2.2.1 i) :: st) M := by
  subst hq
  intro p e s m args below meth co H locs hcx hP hS ls hl
  have hs := hcx.2.2.2.2.2.2.2.2.2.2.2.2.2.1.2 i hi
  rcases hn with ⟨rfl, rfl, rfl⟩ | ⟨rfl, rfl, rfl⟩
  · exact vk_getf (ref := "java/lang/String") hcx.1 hcx.2.1 hs.2.1 hS hcx.2.2.2.2.1 (hcx.2.2.2.2.2.1 _ (sk_w_in hw)) (fun _ h => h) d (kk p e s m args below meth co H locs hcx hP hS ls hl)
  · exact vk_getf (ref := "java/lang/String") hcx.1 hcx.2.1 hs.2.2.1 hS hcx.2.2.2.2.1 (hcx.2.2.2.2.2.1 _ (sk_w_in hw)) (fun _ h => h) d (kk p e s m args below meth co H locs hcx hP hS ls hl)
theorem T.strLen {i : Nat} (hi : i < sk_SN) (d : decode X.2.1 pc = .ok (.arraylength, 1)) (hq : pc + 1 = q) (kk : TJ G X R E cells slots q xs (.int (nI (sk_Sl.getD i 0)) :: st) M) : TJ G X R E cells slots pc xs (.ref (G.2.2.2.2.2 i) :: st) M := by
  subst hq
  intro p e s m args below meth co H locs hcx hP hS ls hl
  exact va_tlen hcx.1 hcx.2.1 (hcx.2.2.2.2.2.2.2.2.2.2.2.2.2.1.2 i hi).2.2.2 hS rfl d (kk p e s m args below meth co H locs hcx hP hS ls hl)
theorem T.strB {i : Nat} {j : Int32} (hi : i < sk_SN) (d : decode X.2.1 pc = .ok (.baload, 1)) (hq : pc + 1 = q) (hin : vp_in j (sk_Sl.getD i 0)) (kk : TJ G X R E cells slots q xs (.int ((sk_Sb.getD i []).getD j.toNatClampNeg 0) :: st) M) : TJ G X R E cells slots pc xs (.int j :: .ref (G.2.2.2.2.2 i) :: st) M := by
  subst hq
  intro p e s m args below meth co H locs hcx hP hS ls hl
  exact va_tb hcx.1 hcx.2.1 (hcx.2.2.2.2.2.2.2.2.2.2.2.2.2.1.2 i hi).2.2.2 hS hin rfl d (kk p e s m args below meth co H locs hcx hP hS ls hl)
theorem T.compact {j : Nat} (hw : sk_wok (.fieldLink X.1.cls j "java/lang/String" "COMPACT_STRINGS" "Z") = true) (d : decode X.2.1 pc = .ok (.getstatic j, 3)) (hq : pc + 3 = q) (kk : TJ G X R E cells slots q xs (.int 1 :: st) M) : TJ G X R E cells slots pc xs st M := by
  subst hq
  intro p e s m args below meth co H locs hcx hP hS ls hl
  exact va_gets (ref := "java/lang/String") hcx.1 hcx.2.1 hcx.2.2.2.2.2.2.2.2.2.2.2.2.2.1.1 hS hcx.2.2.2.2.1 (hcx.2.2.2.2.2.1 _ (sk_w_in hw)) (fun _ h => h) d (kk p e s m args below meth co H locs hcx hP hS ls hl)
/-- Math -/
theorem T.mmin {i : Nat} {x y : Int32} (hw : [Cond.methodLink X.1.cls i Lib.Math.min.name, .static Lib.Math.min.name, .initialized "java/lang/Math", .code Lib.Math.min.name Lib.Math.min.code 2 (some .int)].all sk_wok = true) (hf : 1 ≤ R.frames) (hlo : (st.map fun v => v.category).sum + 13 ≤ R.locals) (hc : cells ≤ R.cells) (hs : slots ≤ R.slots) (d : decode X.2.1 pc = .ok (.invokestatic i, 3)) (hq : pc + 3 = q)
    (kk : TJ G X R E cells slots q xs (.int (if y < x then y else x) :: st) M) : TJ G X R E cells slots pc xs (.int y :: .int x :: st) M := by
  subst hq
  simp only [List.all_cons, List.all_nil, Bool.and_eq_true, and_true] at hw
  intro p e s m args below meth co H locs hcx hP hS ls hl
  exact va_mmin hcx.1 hcx.2.1 (hcx.2.2.2.1.trans hl.1.symm) hcx.2.2.2.2.1 (hcx.2.2.2.2.2.1 _ (sk_w_in hw.1)) (hcx.2.2.2.2.2.1 _ (sk_w_in hw.2.1)) (hcx.2.2.2.2.2.1 _ (sk_w_in hw.2.2.1)) (hcx.2.2.2.2.2.1 _ (sk_w_in hw.2.2.2)) hf hlo hc hs d (kk p e s m args below meth co H locs hcx hP hS ls hl)
theorem T.mmax {i : Nat} {x y : Int32} (hw : [Cond.methodLink X.1.cls i Lib.Math.max.name, .static Lib.Math.max.name, .initialized "java/lang/Math", .code Lib.Math.max.name Lib.Math.max.code 2 (some .int)].all sk_wok = true) (hf : 1 ≤ R.frames) (hlo : (st.map fun v => v.category).sum + 13 ≤ R.locals) (hc : cells ≤ R.cells) (hs : slots ≤ R.slots) (d : decode X.2.1 pc = .ok (.invokestatic i, 3)) (hq : pc + 3 = q)
    (kk : TJ G X R E cells slots q xs (.int (if x < y then y else x) :: st) M) : TJ G X R E cells slots pc xs (.int y :: .int x :: st) M := by
  subst hq
  simp only [List.all_cons, List.all_nil, Bool.and_eq_true, and_true] at hw
  intro p e s m args below meth co H locs hcx hP hS ls hl
  exact va_mmax hcx.1 hcx.2.1 (hcx.2.2.2.1.trans hl.1.symm) hcx.2.2.2.2.1 (hcx.2.2.2.2.2.1 _ (sk_w_in hw.1)) (hcx.2.2.2.2.2.1 _ (sk_w_in hw.2.1)) (hcx.2.2.2.2.2.1 _ (sk_w_in hw.2.2.1)) (hcx.2.2.2.2.2.1 _ (sk_w_in hw.2.2.2)) hf hlo hc hs d (kk p e s m args below meth co H locs hcx hP hS ls hl)
theorem T.mabs {i : Nat} {x : Int32} (hw : [Cond.methodLink X.1.cls i Lib.Math.abs.name, .static Lib.Math.abs.name, .initialized "java/lang/Math", .code Lib.Math.abs.name Lib.Math.abs.code 1 (some .int)].all sk_wok = true) (hf : 1 ≤ R.frames) (hlo : (st.map fun v => v.category).sum + 13 ≤ R.locals) (hc : cells ≤ R.cells) (hs : slots ≤ R.slots) (d : decode X.2.1 pc = .ok (.invokestatic i, 3)) (hq : pc + 3 = q)
    (kk : TJ G X R E cells slots q xs (.int (if 0 ≤ x then x else 0 - x) :: st) M) : TJ G X R E cells slots pc xs (.int x :: st) M := by
  subst hq
  simp only [List.all_cons, List.all_nil, Bool.and_eq_true, and_true] at hw
  intro p e s m args below meth co H locs hcx hP hS ls hl
  exact va_mabs hcx.1 hcx.2.1 (hcx.2.2.2.1.trans hl.1.symm) hcx.2.2.2.2.1 (hcx.2.2.2.2.2.1 _ (sk_w_in hw.1)) (hcx.2.2.2.2.2.1 _ (sk_w_in hw.2.1)) (hcx.2.2.2.2.2.1 _ (sk_w_in hw.2.2.1)) (hcx.2.2.2.2.2.1 _ (sk_w_in hw.2.2.2)) hf hlo hc hs d (kk p e s m args below meth co H locs hcx hP hS ls hl)
/-- System.arraycopy of whole rows -/
theorem T.copyI {i c0 c1 : Nat} {n : Int32} {N : Nat} (hw : [Cond.methodLink X.1.cls i arraycopyName, .native arraycopyName, .static arraycopyName, .initialized "java/lang/System"].all sk_wok = true) (hk0 : sk_kd c0 = 10) (hk1 : sk_kd c1 = 10) (hl0 : c0 < 159) (hl1 : c1 < 159) (hn0 : sk_ln c0 = N) (hn1 : sk_ln c1 = N) (hn : n = nI N) (hN : N < 2 ^ 31)
    (hf : 1 ≤ R.frames) (hlo : (st.map fun v => v.category).sum + (nativeFrameWords "java/lang/System" "arraycopy" 5 + 11) ≤ R.locals) (d : decode X.2.1 pc = .ok (.invokestatic i, 3)) (hq : pc + 3 = q)
    (kk : TJ G X R E cells slots q xs st (sk_ri M c1 (va_cpy (M.1 c0) (M.1 c1) 0 0 N))) : TJ G X R E cells slots pc xs (.int n :: .int 0 :: .ref (G.2.2.1 c1) :: .int 0 :: .ref (G.2.2.1 c0) :: st) M := by
  subst hq hn
  simp only [List.all_cons, List.all_nil, Bool.and_eq_true, and_true] at hw
  intro p e s m args below meth co H locs hcx hP hS ls hl
  refine va_copyi hcx.1 hcx.2.1 (hcx.2.2.2.1.trans hl.1.symm) hcx.2.2.2.2.1 (hcx.2.2.2.2.2.1 _ (sk_w_in hw.1)) (hcx.2.2.2.2.2.1 _ (sk_w_in hw.2.1)) (hcx.2.2.2.2.2.1 _ (sk_w_in hw.2.2.1)) (hcx.2.2.2.2.2.1 _ (sk_w_in hw.2.2.2)) hcx.2.2.2.2.2.2.2.2.1 hP (sk_D hcx.2.2.2.2.2.2.2.2.2.1) hS c0 c1 0 0
    (ty := .int) (by rw [sk_at hl0, sk_ce_int hk0 (by decide) (by decide) (by decide)]) (by rw [sk_at hl1, sk_ce_int hk1 (by decide) (by decide) (by decide)]) rfl rfl rfl (by decide) (by decide) (nI_pos hN) (by rw [nI_clamp hN, hn0]; exact Nat.le_of_eq (Nat.zero_add _)) (by rw [nI_clamp hN, hn1]; exact Nat.le_of_eq (Nat.zero_add _)) (fun _ _ => rfl) hf hlo d ?_
  intro H1 locs1 hP1 _ hS1
  rw [nI_clamp hN, sk_set_ri hk1 (by decide) (by decide) (by decide)] at hP1
  exact kk p e s m args below meth co H1 locs1 hcx hP1 hS1 ls hl
theorem T.copyL {i c0 c1 : Nat} {n : Int32} {N : Nat} (hw : [Cond.methodLink X.1.cls i arraycopyName, .native arraycopyName, .static arraycopyName, .initialized "java/lang/System"].all sk_wok = true) (hk0 : sk_kd c0 = 11) (hk1 : sk_kd c1 = 11) (hl0 : c0 < 159) (hl1 : c1 < 159) (hn0 : sk_ln c0 = N) (hn1 : sk_ln c1 = N) (hn : n = nI N) (hN : N < 2 ^ 31)
    (hf : 1 ≤ R.frames) (hlo : (st.map fun v => v.category).sum + (nativeFrameWords "java/lang/System" "arraycopy" 5 + 11) ≤ R.locals) (d : decode X.2.1 pc = .ok (.invokestatic i, 3)) (hq : pc + 3 = q)
    (kk : TJ G X R E cells slots q xs st (sk_rl M c1 (va_cpy (M.2 c0) (M.2 c1) 0 0 N))) : TJ G X R E cells slots pc xs (.int n :: .int 0 :: .ref (G.2.2.1 c1) :: .int 0 :: .ref (G.2.2.1 c0) :: st) M := by
  subst hq hn
  simp only [List.all_cons, List.all_nil, Bool.and_eq_true, and_true] at hw
  intro p e s m args below meth co H locs hcx hP hS ls hl
  refine va_copyl hcx.1 hcx.2.1 (hcx.2.2.2.1.trans hl.1.symm) hcx.2.2.2.2.1 (hcx.2.2.2.2.2.1 _ (sk_w_in hw.1)) (hcx.2.2.2.2.2.1 _ (sk_w_in hw.2.1)) (hcx.2.2.2.2.2.1 _ (sk_w_in hw.2.2.1)) (hcx.2.2.2.2.2.1 _ (sk_w_in hw.2.2.2)) hcx.2.2.2.2.2.2.2.2.1 hP (sk_D hcx.2.2.2.2.2.2.2.2.2.1) hS c0 c1 1 1
    (ty := .long) (by rw [sk_at hl0, sk_ce_long hk0]) (by rw [sk_at hl1, sk_ce_long hk1]) rfl rfl rfl (by decide) (by decide) (nI_pos hN) (by rw [nI_clamp hN, hn0]; exact Nat.le_of_eq (Nat.zero_add _)) (by rw [nI_clamp hN, hn1]; exact Nat.le_of_eq (Nat.zero_add _)) (fun _ _ => rfl) hf hlo d ?_
  intro H1 locs1 hP1 _ hS1
  rw [nI_clamp hN, sk_set_rl hk1] at hP1
  exact kk p e s m args below meth co H1 locs1 hcx hP1 hS1 ls hl
/-- returns -/
theorem T.zret {v : Int32} {mc ms : Nat} {po : Option Value → sk_M → Prop} {xp : String → sk_M → Prop} {ty : FieldType} (hr : X.2.2.2.1 = some ty) (hn : narrow ty (.int v) = .int v) (d : decode X.2.1 pc = .ok (.ireturn, 1)) (hc : cells ≤ mc) (hs : slots ≤ ms) (hp : po (some (.int v)) M) : TJ G X R (sk_K G mc ms po xp) cells slots pc xs [.int v] M := by
  intro p e s m args below meth co H locs hcx hP hS ls hl
  refine vx_ret (W.widen hc hs ?_)
  exact W.zret hcx.1 hcx.2.1 (hcx.2.2.1.trans hr) hn (fun t ht _ => ⟨⟨some (.int v), M, rfl, hp, by rw [ht]; exact hP⟩, hS.F ht⟩) hS.2.2 d hcx.2.2.2.2.2.2.1
theorem T.iret {v : Int32} {mc ms : Nat} {po : Option Value → sk_M → Prop} {xp : String → sk_M → Prop} (hr : X.2.2.2.1 = some .int) (d : decode X.2.1 pc = .ok (.ireturn, 1)) (hc : cells ≤ mc) (hs : slots ≤ ms) (hp : po (some (.int v)) M) : TJ G X R (sk_K G mc ms po xp) cells slots pc xs [.int v] M := T.zret hr rfl d hc hs hp
theorem T.lret {v : Int64} {mc ms : Nat} {po : Option Value → sk_M → Prop} {xp : String → sk_M → Prop} (hr : X.2.2.2.1 = some .long) (d : decode X.2.1 pc = .ok (.lreturn, 1)) (hc : cells ≤ mc) (hs : slots ≤ ms) (hp : po (some (.long v)) M) : TJ G X R (sk_K G mc ms po xp) cells slots pc xs [.long v] M := by
  intro p e s m args below meth co H locs hcx hP hS ls hl
  refine vx_ret (W.widen hc hs ?_)
  exact W.lret hcx.1 hcx.2.1 (hcx.2.2.1.trans hr) (fun t ht _ => ⟨⟨some (.long v), M, rfl, hp, by rw [ht]; exact hP⟩, hS.F ht⟩) hS.2.2 d hcx.2.2.2.2.2.2.1
theorem T.vret {mc ms : Nat} {po : Option Value → sk_M → Prop} {xp : String → sk_M → Prop} (hr : X.2.2.2.1 = none) (d : decode X.2.1 pc = .ok (.return_, 1)) (hc : cells ≤ mc) (hs : slots ≤ ms) (hp : po none M) : TJ G X R (sk_K G mc ms po xp) cells slots pc xs [] M := by
  intro p e s m args below meth co H locs hcx hP hS ls hl
  refine vx_ret (W.widen hc hs ?_)
  exact W.vret hcx.1 hcx.2.1 (hcx.2.2.1.trans hr) (fun t ht _ => ⟨⟨none, M, rfl, hp, by rw [ht]; exact hP⟩, hS.F ht⟩) hS.2.2 d hcx.2.2.2.2.2.2.1
end SKH
