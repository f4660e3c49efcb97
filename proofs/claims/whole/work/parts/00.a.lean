theorem sk_wide : True := by
  have := @Jvm.Stand.thenCaughtThrough
  trivial
abbrev sk_M : Type := (Nat → Nat → Int32) × (Nat → Nat → Int64)
abbrev sk_G : Type := Launch × va_G × (Nat → Nat) × (Nat → ClassId) × (Nat → Nat) × (Nat → Nat)
def sk_kdT : List Nat := [7, 6, 10, 3, 14, 0, 1, 10, 10, 10, 4, 10, 12, 10, 10, 10, 10, 10, 2, 10, 8, 10, 10, 10, 10, 10, 11, 11, 11, 11, 11, 13, 10, 10, 10, 10, 10, 10, 11]
def sk_lnT : List Nat := [9, 6, 400, 3, 10, 6, 6, 108, 36, 36, 16, 216, 216, 36, 7129, 1296, 64, 18, 4, 6, 27, 2260, 1411, 1411, 562, 5620, 144, 144, 144, 144, 1440, 400, 5, 400, 108, 7129, 6, 64, 1]
def sk_lnS : List Nat := [21, 6, 6, 6, 12, 12, 12, 108, 480, 144]
def sk_rfT : List (List (Option Nat)) := [[some 121, some 0, some 10, some 123, some 125, some 126, some 130, some 138], [some 122], [], [some 124], [], [some 121, some 0], [some 121, some 127, some 128, some 129], [], [], [],
  [some 0, some 131, some 132, some 133, some 134, some 135, some 136, some 137], [], [], [], [], [], [], [], [some 139], [],
  [none, some 141, some 142, some 143, some 144, some 145, some 146, some 147, some 148, some 149, some 150, none, none, some 151, none, none, none, none, none, none, some 152, none, some 153, some 154, some 155, some 156, some 157]]
/-- kind: under 10 an object of that class; 10 int[], 11 long[], 12 boolean[], 13 byte[], 14 State[] -/
def sk_kd (c : Nat) : Nat := if c < 120 then (if c % 10 = 0 then 5 else if c % 10 = 9 then 11 else 10) else sk_kdT.getD (c - 120) 10
def sk_ln (c : Nat) : Nat := if c < 120 then sk_lnS.getD (c % 10) 0 else sk_lnT.getD (c - 120) 0
def sk_rf (c k : Nat) : Option Nat := if c < 120 then (if c % 10 = 0 then (if 12 ≤ k then (if k ≤ 20 then some (c + (k - 11)) else none) else none) else none) else if c = 124 then some (20 + 10 * k) else (sk_rfT.getD (c - 120) []).getD k none
def sk_fv (ad : Nat → Nat) (M : sk_M) (c k : Nat) : Value := match sk_rf c k with
  | some j => .ref (ad j)
  | none => .int (M.1 c k)
def sk_ce (ad : Nat → Nat) (cA : Nat → ClassId) (M : sk_M) (c : Nat) : va_E :=
  if sk_kd c < 10 then .inr (sk_kd c, (List.range (sk_ln c)).map (sk_fv ad M c))
  else if sk_kd c = 11 then .inl (cA 11, sk_ln c, .inr (.inl (M.2 c)))
  else if sk_kd c = 14 then .inl (cA 14, sk_ln c, .inr (.inr (.inr (.inr (fun k => (sk_rf c k).map ad)))))
  else .inl (cA (sk_kd c), sk_ln c, .inl (M.1 c))
def sk_ws (ad : Nat → Nat) (cA : Nat → ClassId) (M : sk_M) : va_W := (List.range 159).map fun c => (ad c, sk_ce ad cA M c)
def sk_tys (cA : Nat → ClassId) : List (ClassId × FieldType) := [(cA 10, .int), (cA 11, .long), (cA 12, .boolean), (cA 13, .byte), (cA 14, .object "SafeKnown$State")]
def sk_si (M : sk_M) (c i : Nat) (v : Int32) : sk_M := (fun c' => if c' = c then upd (M.1 c) i v else M.1 c', M.2)
def sk_sl (M : sk_M) (c i : Nat) (v : Int64) : sk_M := (M.1, fun c' => if c' = c then vp_updL (M.2 c) i v else M.2 c')
/-- a whole row put in place of another -/
def sk_ri (M : sk_M) (c : Nat) (f : Nat → Int32) : sk_M := (fun c' => if c' = c then f else M.1 c', M.2)
def sk_rl (M : sk_M) (c : Nat) (f : Nat → Int64) : sk_M := (M.1, fun c' => if c' = c then f else M.2 c')
def sk_A (ad : Nat → Nat) (sz : Nat) : Nat → Prop := fun q => (∃ k : Nat, k < 159 ∧ q = ad k) ∨ sz ≤ q
def sk_inj (ad : Nat → Nat) : Prop := ∀ i j : Nat, i < 159 → j < 159 → ad i = ad j → i = j
theorem sk_at {ad : Nat → Nat} {cA : Nat → ClassId} {M : sk_M} {c : Nat} (h : c < 159) : (sk_ws ad cA M)[c]? = some (ad c, sk_ce ad cA M c) := by
  simp [sk_ws, h]
theorem sk_at_lt {ad : Nat → Nat} {cA : Nat → ClassId} {M : sk_M} {c : Nat} {q : Nat × va_E} (h : (sk_ws ad cA M)[c]? = some q) : c < 159 ∧ q = (ad c, sk_ce ad cA M c) := by
  have h1 : c < 159 := by
    have h2 := (List.getElem?_eq_some_iff.mp h).1
    simpa [sk_ws] using h2
  rw [sk_at h1] at h
  exact ⟨h1, (Option.some.inj h).symm⟩
theorem sk_set {ad : Nat → Nat} {cA : Nat → ClassId} {M M' : sk_M} {c : Nat} {e : va_E} (h1 : ∀ j, j ≠ c → sk_ce ad cA M' j = sk_ce ad cA M j) (h2 : e = sk_ce ad cA M' c) : (sk_ws ad cA M).set c (ad c, e) = sk_ws ad cA M' := by
  subst h2
  apply List.ext_getElem?
  intro i
  rw [List.getElem?_set]
  by_cases hi : i < 159
  · by_cases hc : c = i
    · subst hc
      simp [sk_ws, hi]
    · simp only [hc, if_false, sk_at hi, h1 i (fun q => hc q.symm)]
  · have e1 : (sk_ws ad cA M)[i]? = none := by simp [sk_ws]; omega
    have e2 : (sk_ws ad cA M')[i]? = none := by simp [sk_ws]; omega
    rw [e1, e2]
    by_cases hc : c = i
    · subst hc
      have : ¬ c < (sk_ws ad cA M).length := by simp [sk_ws]; omega
      simp [this]
    · simp [hc]
theorem sk_ce_int {ad : Nat → Nat} {cA : Nat → ClassId} {M : sk_M} {c t : Nat} (h : sk_kd c = t) (h1 : ¬ t < 10) (h2 : t ≠ 11) (h3 : t ≠ 14) : sk_ce ad cA M c = .inl (cA t, sk_ln c, .inl (M.1 c)) := by
  simp [sk_ce, h, h1, h2, h3]
theorem sk_ce_long {ad : Nat → Nat} {cA : Nat → ClassId} {M : sk_M} {c : Nat} (h : sk_kd c = 11) : sk_ce ad cA M c = .inl (cA 11, sk_ln c, .inr (.inl (M.2 c))) := by
  simp [sk_ce, h]
theorem sk_ce_ref {ad : Nat → Nat} {cA : Nat → ClassId} {M : sk_M} {c : Nat} (h : sk_kd c = 14) : sk_ce ad cA M c = .inl (cA 14, sk_ln c, .inr (.inr (.inr (.inr (fun k => (sk_rf c k).map ad))))) := by
  simp [sk_ce, h]
theorem sk_ce_obj {ad : Nat → Nat} {cA : Nat → ClassId} {M : sk_M} {c t : Nat} (h : sk_kd c = t) (h1 : t < 10) : sk_ce ad cA M c = .inr (t, (List.range (sk_ln c)).map (sk_fv ad M c)) := by
  simp [sk_ce, h, h1]
theorem sk_fv_eq {ad : Nat → Nat} {M M' : sk_M} {c : Nat} (h : M'.1 c = M.1 c) : sk_fv ad M' c = sk_fv ad M c := by
  funext k
  unfold sk_fv
  rw [h]
theorem sk_ce_eq {ad : Nat → Nat} {cA : Nat → ClassId} {M M' : sk_M} {c : Nat} (h1 : M'.1 c = M.1 c) (h2 : M'.2 c = M.2 c) : sk_ce ad cA M' c = sk_ce ad cA M c := by
  unfold sk_ce
  rw [sk_fv_eq h1, h1, h2]
theorem sk_si_ne {M : sk_M} {c i j : Nat} {v : Int32} (h : j ≠ c) : (sk_si M c i v).1 j = M.1 j := by simp [sk_si, h]
theorem sk_sl_ne {M : sk_M} {c i j : Nat} {v : Int64} (h : j ≠ c) : (sk_sl M c i v).2 j = M.2 j := by simp [sk_sl, h]
theorem sk_si_at {M : sk_M} {c i : Nat} {v : Int32} : (sk_si M c i v).1 c = upd (M.1 c) i v := by simp [sk_si]
theorem sk_sl_at {M : sk_M} {c i : Nat} {v : Int64} : (sk_sl M c i v).2 c = vp_updL (M.2 c) i v := by simp [sk_sl]
theorem sk_set_int {ad : Nat → Nat} {cA : Nat → ClassId} {M : sk_M} {c t i : Nat} {v : Int32} (h : sk_kd c = t) (h1 : ¬ t < 10) (h2 : t ≠ 11) (h3 : t ≠ 14) : (sk_ws ad cA M).set c (ad c, .inl (cA t, sk_ln c, .inl (upd (M.1 c) i v))) = sk_ws ad cA (sk_si M c i v) :=
  sk_set (fun j hj => sk_ce_eq (sk_si_ne hj) rfl) (by rw [sk_ce_int h h1 h2 h3, sk_si_at])
theorem sk_set_long {ad : Nat → Nat} {cA : Nat → ClassId} {M : sk_M} {c i : Nat} {v : Int64} (h : sk_kd c = 11) : (sk_ws ad cA M).set c (ad c, .inl (cA 11, sk_ln c, .inr (.inl (vp_updL (M.2 c) i v)))) = sk_ws ad cA (sk_sl M c i v) :=
  sk_set (fun j hj => sk_ce_eq rfl (sk_sl_ne hj)) (by rw [sk_ce_long h, sk_sl_at])
theorem sk_set_ri {ad : Nat → Nat} {cA : Nat → ClassId} {M : sk_M} {c t : Nat} {f : Nat → Int32} (h : sk_kd c = t) (h1 : ¬ t < 10) (h2 : t ≠ 11) (h3 : t ≠ 14) : (sk_ws ad cA M).set c (ad c, .inl (cA t, sk_ln c, .inl f)) = sk_ws ad cA (sk_ri M c f) :=
  sk_set (fun j hj => sk_ce_eq (by simp [sk_ri, hj]) rfl) (by rw [sk_ce_int h h1 h2 h3]; simp [sk_ri])
theorem sk_set_rl {ad : Nat → Nat} {cA : Nat → ClassId} {M : sk_M} {c : Nat} {f : Nat → Int64} (h : sk_kd c = 11) : (sk_ws ad cA M).set c (ad c, .inl (cA 11, sk_ln c, .inr (.inl f))) = sk_ws ad cA (sk_rl M c f) :=
  sk_set (fun j hj => sk_ce_eq rfl (by simp [sk_rl, hj])) (by rw [sk_ce_long h]; simp [sk_rl])
theorem sk_set_fld {ad : Nat → Nat} {cA : Nat → ClassId} {M : sk_M} {c t k : Nat} {v : Int32} (h : sk_kd c = t) (h1 : t < 10) (hr : sk_rf c k = none) : (sk_ws ad cA M).set c (ad c, .inr (t, ((List.range (sk_ln c)).map (sk_fv ad M c)).set k (.int v))) = sk_ws ad cA (sk_si M c k v) := by
  refine sk_set (fun j hj => sk_ce_eq (sk_si_ne hj) rfl) ?_
  rw [sk_ce_obj h h1]
  refine congrArg (fun q => (Sum.inr (t, q) : va_E)) ?_
  apply List.ext_getElem?
  intro i
  rw [List.getElem?_set]
  by_cases hi : i < sk_ln c
  · by_cases hk : k = i
    · subst hk
      simp [hi, sk_fv, hr, sk_si_at, upd]
    · have e1 : sk_fv ad (sk_si M c k v) c i = sk_fv ad M c i := by
        unfold sk_fv
        rw [sk_si_at]
        cases sk_rf c i with
        | some j => rfl
        | none => simp only [upd, if_neg (fun q : i = k => hk q.symm)]
      simp [hk, hi, e1]
  · by_cases hk : k = i
    · subst hk; simp [hi]
    · simp [hk, hi]
theorem sk_D {ad : Nat → Nat} {cA : Nat → ClassId} {M : sk_M} {sz : Nat} (h : sk_inj ad) : va_D (sk_A ad sz) (sk_ws ad cA M) := by
  refine ⟨fun i j p q hp hq e => ?_, fun k q hq => ?_⟩
  · obtain ⟨h1, rfl⟩ := sk_at_lt hp
    obtain ⟨h2, rfl⟩ := sk_at_lt hq
    exact h i j h1 h2 e
  · obtain ⟨h1, rfl⟩ := sk_at_lt hq
    exact Or.inl ⟨k, h1, rfl⟩
theorem sk_fld {ad : Nat → Nat} {M : sk_M} {c k n : Nat} (hn : sk_ln c = n) (hk : k < n) : ((List.range (sk_ln c)).map (sk_fv ad M c))[k]? = some (sk_fv ad M c k) := by
  subst hn
  simp [hk]
theorem sk_fv_i {ad : Nat → Nat} {M : sk_M} {c k : Nat} (h : sk_rf c k = none) : sk_fv ad M c k = .int (M.1 c k) := by simp [sk_fv, h]
theorem sk_fv_r {ad : Nat → Nat} {M : sk_M} {c k j : Nat} (h : sk_rf c k = some j) : sk_fv ad M c k = .ref (ad j) := by simp [sk_fv, h]

/-- a method: its name, code, locals, answer's type, handlers -/
abbrev sk_X : Type := MethodName × ByteArray × Nat × Option FieldType × List (Nat × Nat × Nat × Nat)
def sk_cw (X : sk_X) : Cond := .code X.1 X.2.1 X.2.2.1 X.2.2.2.1
def sk_St : List (String × Nat × String × Nat) := [("SafeKnown$BankReader", 57, "vault", 0), ("SafeKnownModel", 189, "vault", 0), ("SafeKnown$BankReader", 95, "worth", 1), ("SafeKnownModel", 152, "worth", 1), ("SafeKnown$BankReader", 113, "guard", 2), ("SafeKnownModel", 162, "guard", 2), ("SafeKnown$BankReader", 66, "person", 3), ("SafeKnownModel", 194, "person", 3), ("SafeKnown$BankReader", 77, "open", 4), ("SafeKnownModel", 199, "open", 4), ("SafeKnown$BankReader", 71, "never", 5), ("SafeKnownModel", 201, "never", 5), ("SafeKnown$BankReader", 118, "by", 6), ("SafeKnownModel", 187, "by", 6), ("SafeKnown$BankReader", 79, "change", 7), ("SafeKnownModel", 207, "change", 7), ("SafeKnown$LawReader", 63, "click", 8), ("SafeKnownModel", 258, "click", 8), ("SafeKnown$LawReader", 57, "mute", 9), ("SafeKnownModel", 260, "mute", 9), ("SafeKnown$LawReader", 77, "if", 10), ("SafeKnownModel", 262, "if", 10), ("SafeKnown$LawReader", 93, "not", 11), ("SafeKnownModel", 240, "not", 11), ("SafeKnown$LawReader", 100, "same", 12), ("SafeKnownModel", 230, "same", 12), ("SafeKnown$LawReader", 102, "next", 13), ("SafeKnownModel", 232, "next", 13), ("SafeKnown$LawReader", 123, "wheel", 14), ("SafeKnownModel", 215, "wheel", 14), ("SafeKnown$LawReader", 118, "told", 15), ("SafeKnownModel", 217, "told", 15), ("SafeKnown$LawReader", 120, "code", 16), ("SafeKnownModel", 219, "code", 16), ("SafeKnown$LawReader", 122, "apart", 17), ("SafeKnownModel", 221, "apart", 17), ("SafeKnown$LawReader", 89, "and", 18), ("SafeKnownModel", 251, "and", 18), ("SafeKnown$LawReader", 91, "or", 19), ("SafeKnownModel", 256, "or", 19), ("SafeKnown", 89, "the text is wrong", 20), ("SafeKnown", 99, "there are twelve texts", 21), ("SafeKnown", 366, "there is no such vault", 22), ("SafeKnown", 157, "there is no such thing of a vault", 23), ("SafeKnown", 368, "there is no such person", 24), ("SafeKnown", 372, "there is no such wheel", 25), ("SafeKnown", 190, "a wheel goes from 0 to 5", 26), ("SafeKnown", 370, "there is no such code", 27), ("SafeKnown", 204, "the vault is guarded today", 28), ("SafeKnown", 374, "both are one", 29), ("SafeKnown", 237, "a weekday is 0 to 6", 30), ("SafeKnown", 239, "days are 1 to 60", 31), ("SafeKnown", 300, "there is no such contract", 32), ("SafeKnown", 318, "there is no such thing of a contract", 33), ("SafeKnown", 326, "a row is 0 to 6 long", 34), ("SafeKnown", 376, "a trial is of 0 to 40 days", 35), ("SafeKnown", 347, "there is no such thing of a row", 36)]
def sk_SN : Nat := 37
def sk_Sl : List Nat := [5, 5, 5, 6, 4, 5, 2, 6, 5, 4, 2, 3, 4, 4, 5, 4, 4, 5, 3, 2, 17, 22, 22, 33, 23, 22, 24, 21, 26, 12, 19, 16, 25, 36, 20, 26, 31]
def sk_Sb : List (List Int32) := [[118, 97, 117, 108, 116], [119, 111, 114, 116, 104], [103, 117, 97, 114, 100], [112, 101, 114, 115, 111, 110], [111, 112, 101, 110], [110, 101, 118, 101, 114], [98, 121], [99, 104, 97, 110, 103, 101], [99, 108, 105, 99, 107], [109, 117, 116, 101], [105, 102], [110, 111, 116], [115, 97, 109, 101], [110, 101, 120, 116], [119, 104, 101, 101, 108], [116, 111, 108, 100], [99, 111, 100, 101], [97, 112, 97, 114, 116], [97, 110, 100], [111, 114], [116, 104, 101, 32, 116, 101, 120, 116, 32, 105, 115, 32, 119, 114, 111, 110, 103], [116, 104, 101, 114, 101, 32, 97, 114, 101, 32, 116, 119, 101, 108, 118, 101, 32, 116, 101, 120, 116, 115], [116, 104, 101, 114, 101, 32, 105, 115, 32, 110, 111, 32, 115, 117, 99, 104, 32, 118, 97, 117, 108, 116], [116, 104, 101, 114, 101, 32, 105, 115, 32, 110, 111, 32, 115, 117, 99, 104, 32, 116, 104, 105, 110, 103, 32, 111, 102, 32, 97, 32, 118, 97, 117, 108, 116], [116, 104, 101, 114, 101, 32, 105, 115, 32, 110, 111, 32, 115, 117, 99, 104, 32, 112, 101, 114, 115, 111, 110], [116, 104, 101, 114, 101, 32, 105, 115, 32, 110, 111, 32, 115, 117, 99, 104, 32, 119, 104, 101, 101, 108], [97, 32, 119, 104, 101, 101, 108, 32, 103, 111, 101, 115, 32, 102, 114, 111, 109, 32, 48, 32, 116, 111, 32, 53], [116, 104, 101, 114, 101, 32, 105, 115, 32, 110, 111, 32, 115, 117, 99, 104, 32, 99, 111, 100, 101], [116, 104, 101, 32, 118, 97, 117, 108, 116, 32, 105, 115, 32, 103, 117, 97, 114, 100, 101, 100, 32, 116, 111, 100, 97, 121], [98, 111, 116, 104, 32, 97, 114, 101, 32, 111, 110, 101], [97, 32, 119, 101, 101, 107, 100, 97, 121, 32, 105, 115, 32, 48, 32, 116, 111, 32, 54], [100, 97, 121, 115, 32, 97, 114, 101, 32, 49, 32, 116, 111, 32, 54, 48], [116, 104, 101, 114, 101, 32, 105, 115, 32, 110, 111, 32, 115, 117, 99, 104, 32, 99, 111, 110, 116, 114, 97, 99, 116], [116, 104, 101, 114, 101, 32, 105, 115, 32, 110, 111, 32, 115, 117, 99, 104, 32, 116, 104, 105, 110, 103, 32, 111, 102, 32, 97, 32, 99, 111, 110, 116, 114, 97, 99, 116], [97, 32, 114, 111, 119, 32, 105, 115, 32, 48, 32, 116, 111, 32, 54, 32, 108, 111, 110, 103], [97, 32, 116, 114, 105, 97, 108, 32, 105, 115, 32, 111, 102, 32, 48, 32, 116, 111, 32, 52, 48, 32, 100, 97, 121, 115], [116, 104, 101, 114, 101, 32, 105, 115, 32, 110, 111, 32, 115, 117, 99, 104, 32, 116, 104, 105, 110, 103, 32, 111, 102, 32, 97, 32, 114, 111, 119]]
def sk_Ex : List String := ["java/lang/IllegalArgumentException", "java/lang/UnsupportedOperationException", "java/lang/IndexOutOfBoundsException", "java/util/NoSuchElementException", "java/lang/IllegalStateException"]
def sk_Np : List (String × String) := [("java/lang/UnsupportedOperationException", "java/lang/IllegalArgumentException"), ("java/util/NoSuchElementException", "java/lang/IndexOutOfBoundsException"), ("java/lang/IllegalArgumentException", "java/lang/IndexOutOfBoundsException"), ("java/lang/IllegalStateException", "java/lang/IndexOutOfBoundsException")]
def sk_De : List MethodName := [⟨"java/lang/RuntimeException", "<init>", "(Ljava/lang/String;)V"⟩, ⟨"java/lang/Exception", "<init>", "(Ljava/lang/String;)V"⟩, ⟨"java/lang/Throwable", "<init>", "(Ljava/lang/String;)V"⟩]
def sk_R (d mc ms : Nat) : Room := { frames := d, cells := mc, slots := ms, locals := 64 * d }
/-- the locals: what stands in place i, or nothing is said -/
def sk_L (ls : Array Slot) (n : Nat) (xs : List (Option Value)) : Prop := ls.size = n ∧ lv_wf ls ∧ ∀ (i : Nat) (v : Value), xs[i]? = some (some v) → ls[i]? = some (.val v)
abbrev sk_E : Type := List Frame → Array Value → State → State → Prop
/-- the locals at the entry -/
def sk_en : List Value → List (Option Value)
  | [] => []
  | .long x :: r => some (.long x) :: none :: sk_en r
  | .double x :: r => some (.double x) :: none :: sk_en r
  | v :: r => some v :: sk_en r
theorem sk_en_args (vs : List Value) : ∀ (k i : Nat) (v : Value), (sk_en vs)[i]? = some (some v) → (k + i, v) ∈ lv_args k vs := by
  induction vs with
  | nil => intro k i v h; simp [sk_en] at h
  | cons a r ih =>
    intro k i v h
    cases a with
    | long x =>
      match i with
      | 0 => simp [sk_en] at h; subst h; simp [lv_args]
      | 1 => simp [sk_en] at h
      | i + 2 =>
        simp only [sk_en, List.getElem?_cons_succ] at h
        have h2 := ih (k + 2) i v h
        rw [show k + (i + 2) = k + 2 + i by omega]
        simp only [lv_args, Value.category, List.mem_cons]
        exact Or.inr h2
    | double x =>
      match i with
      | 0 => simp [sk_en] at h; subst h; simp [lv_args]
      | 1 => simp [sk_en] at h
      | i + 2 =>
        simp only [sk_en, List.getElem?_cons_succ] at h
        have h2 := ih (k + 2) i v h
        rw [show k + (i + 2) = k + 2 + i by omega]
        simp only [lv_args, Value.category, List.mem_cons]
        exact Or.inr h2
    | _ =>
      match i with
      | 0 => simp [sk_en] at h; subst h; simp [lv_args]
      | i + 1 =>
        simp only [sk_en, List.getElem?_cons_succ] at h
        have h2 := ih (k + 1) i v h
        rw [show k + (i + 1) = k + 1 + i by omega]
        simp only [lv_args, Value.category, List.mem_cons]
        exact Or.inr h2
theorem sk_L.of {ls : Array Slot} {n : Nat} {vs : List Value} (h : lv_has ls n (lv_args 0 vs)) : sk_L ls n (sk_en vs) :=
  ⟨h.1, h.2.1, fun i v hi => h.2.2 (i, v) (by have := sk_en_args vs 0 i v hi; rwa [Nat.zero_add] at this)⟩
theorem sk_L.nones {ls : Array Slot} {n : Nat} {xs : List (Option Value)} (h : sk_L ls n xs) (k : Nat) : sk_L ls n (xs ++ List.replicate k none) := by
  refine ⟨h.1, h.2.1, fun i v hi => h.2.2 i v ?_⟩
  by_cases q : i < xs.length
  · rwa [List.getElem?_append_left q] at hi
  · rw [List.getElem?_append_right (by omega)] at hi
    by_cases q2 : i - xs.length < k
    · simp [List.getElem?_replicate, q2] at hi
    · simp [List.getElem?_replicate, q2] at hi
def rI (f : Int32 → sk_M → Prop) : Option Value → sk_M → Prop := fun v M => ∃ r : Int32, v = some (.int r) ∧ f r M
def rL (f : Int64 → sk_M → Prop) : Option Value → sk_M → Prop := fun v M => ∃ r : Int64, v = some (.long r) ∧ f r M
def rV (f : sk_M → Prop) : Option Value → sk_M → Prop := fun v M => v = none ∧ f M
abbrev noX : String → sk_M → Prop := fun _ _ => False
def sk_sb (b : Nat) : Prop := b < 120 ∧ b % 10 = 0
theorem sk_s0 : sk_sb 0 := ⟨by decide, by decide⟩
theorem sk_s1 : sk_sb 10 := ⟨by decide, by decide⟩
theorem sk_sm {j : Nat} (h : j < 10) : sk_sb (20 + 10 * j) := ⟨by omega, by omega⟩
theorem sk_kS {b : Nat} (h : sk_sb b) : sk_kd b = 5 ∧ sk_ln b = 21 ∧ b < 159 := by
  obtain ⟨h1, h2⟩ := h
  exact ⟨by simp [sk_kd, h1, h2], by simp [sk_ln, h1, h2, sk_lnS], by omega⟩
theorem sk_rS {b k : Nat} (h : sk_sb b) (h1 : 12 ≤ k) (h2 : k ≤ 20) : sk_rf b k = some (b + (k - 11)) := by
  obtain ⟨h3, h4⟩ := h
  simp [sk_rf, h1, h2, h3, h4]
theorem sk_rS0 {b k : Nat} (h : sk_sb b) (h1 : k < 12) : sk_rf b k = none := by
  obtain ⟨h3, h4⟩ := h
  have : ¬ 12 ≤ k := by omega
  simp [sk_rf, this, h3, h4]
theorem sk_aS {b j : Nat} (h : sk_sb b) (h1 : 1 ≤ j) (h2 : j ≤ 8) : sk_kd (b + j) = 10 ∧ sk_ln (b + j) = sk_lnS.getD j 0 ∧ b + j < 159 := by
  obtain ⟨h3, h4⟩ := h
  have e1 : b + j < 120 := by omega
  have e2 : (b + j) % 10 = j := by omega
  have e3 : ¬ j = 0 := by omega
  have e4 : ¬ j = 9 := by omega
  exact ⟨by simp [sk_kd, e1, e2, e3, e4], by simp [sk_ln, e1, e2], by omega⟩
theorem sk_kn {b : Nat} (h : sk_sb b) : sk_kd (b + 9) = 11 ∧ sk_ln (b + 9) = 144 ∧ b + 9 < 159 := by
  obtain ⟨h3, h4⟩ := h
  have e1 : b + 9 < 120 := by omega
  have e2 : (b + 9) % 10 = 9 := by omega
  exact ⟨by simp [sk_kd, e1, e2], by simp [sk_ln, e1, e2, sk_lnS], by omega⟩
def us64 (x : Int64) (k : Int32) : Int64 := (x.toUInt64 >>> (k.toInt64.toUInt64 &&& Int64.toUInt64 63)).toInt64
def us32 (x k : Int32) : Int32 := (x.toUInt32 >>> (k.toUInt32 &&& Int32.toUInt32 31)).toInt32
def bc64 (x : Int64) : Int32 :=
  let a := x - (us64 x 1 &&& 6148914691236517205)
  let b := (a &&& 3689348814741910323) + (us64 a 2 &&& 3689348814741910323)
  let c := (b + us64 b 4) &&& 1085102592571150095
  let e := c + us64 c 8
  let f := e + us64 e 16
  let g := f + us64 f 32
  g.toInt32 &&& 127
def bc32 (x : Int32) : Int32 :=
  let a := x - (us32 x 1 &&& 1431655765)
  let b := (a &&& 858993459) + (us32 a 2 &&& 858993459)
  let c := (b + us32 b 4) &&& 252645135
  let e := c + us32 c 8
  let f := e + us32 e 16
  f &&& 63
noncomputable def bI (p : Prop) : Int32 := by
  classical
  exact if p then 1 else 0
theorem bI_t {p : Prop} (h : p) : bI p = 1 := by simp [bI, h]
theorem bI_f {p : Prop} (h : ¬ p) : bI p = 0 := by simp [bI, h]
theorem bI_01 (p : Prop) : bI p = 0 ∨ bI p = 1 := by
  by_cases h : p
  · exact Or.inr (bI_t h)
  · exact Or.inl (bI_f h)
theorem bI_z {p : Prop} : bI p = 0 ↔ ¬ p := ⟨fun h q => by rw [bI_t q] at h; exact absurd h (by decide), bI_f⟩
theorem bI_n {p : Prop} : ¬ bI p = 0 ↔ p := ⟨fun h => Classical.byContradiction fun q => h (bI_f q), fun h q => bI_z.mp q h⟩
theorem bI_1 {p : Prop} : bI p = 1 ↔ p := ⟨fun h => Classical.byContradiction fun q => by rw [bI_f q] at h; exact absurd h (by decide), bI_t⟩
theorem bI_nar (p : Prop) : narrow .boolean (.int (bI p)) = .int (bI p) := by rcases bI_01 p with h | h <;> rw [h] <;> rfl
theorem bI_if {p : Prop} [Decidable p] : (if p then (1 : Int32) else 0) = bI p := by
  by_cases h : p
  · rw [if_pos h, bI_t h]
  · rw [if_neg h, bI_f h]
theorem bI_cg {p q : Prop} (h : p ↔ q) : bI p = bI q := by rw [propext h]
noncomputable def bitsP (P : Nat → Prop) : Nat → Int32
  | 0 => 0
  | n + 1 => by
    classical
    exact if P n then bitsP P n ||| (1 <<< (nI n &&& 31)) else bitsP P n
theorem bitsP_t {P : Nat → Prop} {n : Nat} (h : P n) : bitsP P n ||| (1 <<< (nI n &&& 31)) = bitsP P (n + 1) := by simp [bitsP, h]
theorem bitsP_f {P : Nat → Prop} {n : Nat} (h : ¬ P n) : bitsP P n = bitsP P (n + 1) := by simp [bitsP, h]
def sumI (f : Nat → Int32) : Nat → Int32
  | 0 => 0
  | n + 1 => sumI f n + f n

theorem sk_lit (n : Nat) : (OfNat.ofNat n : Int32) = nI n := rfl
theorem sk_mod (a d : Nat) : a - a / d * d = a % d := by
  have h := Nat.div_add_mod a d
  rw [Nat.mul_comm] at h
  omega
theorem sk_a1 {b : Nat} (h : sk_sb b) : sk_kd (b + 1) = 10 ∧ sk_ln (b + 1) = 6 ∧ b + 1 < 159 := sk_aS h (by decide) (by decide)
theorem sk_a2 {b : Nat} (h : sk_sb b) : sk_kd (b + 2) = 10 ∧ sk_ln (b + 2) = 6 ∧ b + 2 < 159 := sk_aS h (by decide) (by decide)
theorem sk_a3 {b : Nat} (h : sk_sb b) : sk_kd (b + 3) = 10 ∧ sk_ln (b + 3) = 6 ∧ b + 3 < 159 := sk_aS h (by decide) (by decide)
theorem sk_a4 {b : Nat} (h : sk_sb b) : sk_kd (b + 4) = 10 ∧ sk_ln (b + 4) = 12 ∧ b + 4 < 159 := sk_aS h (by decide) (by decide)
theorem sk_a5 {b : Nat} (h : sk_sb b) : sk_kd (b + 5) = 10 ∧ sk_ln (b + 5) = 12 ∧ b + 5 < 159 := sk_aS h (by decide) (by decide)
theorem sk_a6 {b : Nat} (h : sk_sb b) : sk_kd (b + 6) = 10 ∧ sk_ln (b + 6) = 12 ∧ b + 6 < 159 := sk_aS h (by decide) (by decide)
theorem sk_a7 {b : Nat} (h : sk_sb b) : sk_kd (b + 7) = 10 ∧ sk_ln (b + 7) = 108 ∧ b + 7 < 159 := sk_aS h (by decide) (by decide)
theorem sk_a8 {b : Nat} (h : sk_sb b) : sk_kd (b + 8) = 10 ∧ sk_ln (b + 8) = 480 ∧ b + 8 < 159 := sk_aS h (by decide) (by decide)
theorem vin {x : Int32} {n N : Nat} (e : x = nI n) (h : n < N) (hN : N < 2 ^ 31) : vp_in x N := by rw [e]; exact vp_in_nI h hN
/-- how many codes a row of four words leaves -/
def leftP (k : Nat → Int64) (at9 : Nat) : Nat → Int32
  | 0 => 0
  | n + 1 => leftP k at9 n + bc64 (k (at9 + n))
/-- the sound of a turning, by a row of clicks -/
def sndC (f : Nat → Int32) (t c : Nat) : Int32 := f (t / 36 * 6 + c / 36) + f (36 + t / 6 % 6 * 6 + c / 6 % 6) + f (72 + t % 6 * 6 + c % 6)
def isG (M : sk_M) (b dy v : Nat) : Prop := (M.1 (b + 2) v >>> (nI (dy % 7) &&& 31)) &&& 1 = 1
def isO (M : sk_M) (b c : Nat) : Prop := ¬ M.1 (b + 6) c = -1
theorem sk_cpw : nativeFrameWords "java/lang/System" "arraycopy" 5 + 11 ≤ 64 := by decide +kernel
/-- least and greatest of f a .. f (a + n) -/
def mnR (f : Nat → Int32) (a : Nat) : Nat → Int32
  | 0 => f a
  | n + 1 => if f (a + (n + 1)) < mnR f a n then f (a + (n + 1)) else mnR f a n
def mxR (f : Nat → Int32) (a : Nat) : Nat → Int32
  | 0 => f a
  | n + 1 => if mxR f a n < f (a + (n + 1)) then f (a + (n + 1)) else mxR f a n
def wRng (f : Nat → Int32) (w t : Nat) : Int32 := mxR f (36 * w + 6 * t) 5 - mnR f (36 * w + 6 * t) 5
def kMask (w : Nat) : Int64 := if w = 3 then 16777215 else -1
/-- what all of a set know of a word -/
def shP (k : Nat → Int64) (set : Int32) (v w : Nat) : Nat → Int64
  | 0 => kMask w
  | n + 1 => if (set >>> (nI n &&& 31)) &&& 1 = 1 then shP k set v w n &&& k (4 * (6 * n + v) + w) else shP k set v w n
def laP (k : Nat → Int64) (set : Int32) (v np : Nat) : Nat → Int32
  | 0 => 0
  | n + 1 => laP k set v np n + bc64 (shP k set v n np)
/-- whether a code can be by these words -/
def kbit (k : Nat → Int64) (at9 c : Nat) : Prop := (k (at9 + c / 64) >>> ((nI (c % 64)).toInt64 &&& 63)) &&& 1 = 1
/-- a row of four words: all codes can be -/
def fk (M : sk_M) (c a : Nat) : Nat → sk_M
  | 0 => M
  | n + 1 => sk_sl (fk M c a n) c (a + n) (kMask n)
theorem fk_1 (M : sk_M) (c a : Nat) : ∀ n, (fk M c a n).1 = M.1
  | 0 => rfl
  | n + 1 => fk_1 M c a n
def lf (M : sk_M) (c t f : Nat) : Nat → sk_M
  | 0 => M
  | n + 1 => sk_sl (lf M c t f n) c (t + n) ((lf M c t f n).2 c (t + n) &&& (lf M c t f n).2 c (f + n))
theorem lf_1 (M : sk_M) (c t f : Nat) : ∀ n, (lf M c t f n).1 = M.1
  | 0 => rfl
  | n + 1 => lf_1 M c t f n
/-- all people forget a vault -/
def knA (M : sk_M) (c v : Nat) : Nat → sk_M
  | 0 => M
  | n + 1 => fk (knA M c v n) c (4 * (6 * n + v)) 4
theorem knA_1 (M : sk_M) (c v : Nat) : ∀ n, (knA M c v n).1 = M.1
  | 0 => rfl
  | n + 1 => (fk_1 _ _ _ _).trans (knA_1 M c v n)
def tA (M : sk_M) (b v : Nat) (c : Int32) : sk_M := sk_si (sk_si M (b + 1) v c) b 9 (M.1 b 9 &&& ((1 <<< (nI v &&& 31)) ^^^ (-1)))
def qrl (M : sk_M) (b c k : Nat) : Prop := M.1 (b + 4) k = M.1 (b + 4) c ∧ M.1 (b + 5) k = M.1 (b + 5) c ∧ ¬ bI (isO M b k) = bI (isO M b c)
/-- a cell of the log, a rows ago -/
def rwC (M : sk_M) (b nr a k : Nat) : Int32 := M.1 (b + 8) ((nr + 79 - a) % 80 * 6 + k)
def thr (M : sk_M) (b nr c a : Nat) : Prop := rwC M b nr a 1 = M.1 (b + 4) c ∧ rwC M b nr a 2 = M.1 (b + 5) c
def kep (M : sk_M) (b nr c a : Nat) : Prop := rwC M b nr a 5 = 1 ∧ ¬ M.1 (b + 6) c < rwC M b nr a 0
def hitP (M : sk_M) (b nr c a : Nat) : Prop := thr M b nr c a ∧ (isO M b c → kep M b nr c a)
def brk (M : sk_M) (b nr rw9 c : Nat) : Prop := (isO M b c ∧ M.1 (b + 6) c < M.1 b 5 ∧ ¬ ∃ a, a < rw9 ∧ hitP M b nr c a) ∨ (¬ isO M b c ∧ ∃ a, a < rw9 ∧ hitP M b nr c a)
theorem nImin {a b : Nat} (ha : a < 2 ^ 31) (hb : b < 2 ^ 31) : (if nI b < nI a then nI b else nI a) = nI (min a b) := by
  by_cases h : b < a
  · rw [if_pos (nI_lt h ha), Nat.min_eq_right (by omega)]
  · rw [if_neg (nI_nlt (by omega) hb), Nat.min_eq_left (by omega)]
def wrL (M : sk_M) (b nr : Nat) (dy p v c h op : Int32) : sk_M := sk_si (sk_si (sk_si (sk_si (sk_si (sk_si M (b + 8) (nr * 6) dy) (b + 8) (nr * 6 + 1) p) (b + 8) (nr * 6 + 2) v) (b + 8) (nr * 6 + 3) c) (b + 8) (nr * 6 + 4) h) (b + 8) (nr * 6 + 5) op
def wrM (M : sk_M) (b nr rw9 : Nat) (dy p v c h op : Int32) : sk_M := sk_si (sk_si (wrL M b nr dy p v c h op) b 11 (nI ((nr + 1) % 80))) b 10 (nI (min 80 (rw9 + 1)))
theorem wrL_b {M : sk_M} {b nr k : Nat} {dy p v c h op : Int32} (hk : k ≠ b + 8) : (wrL M b nr dy p v c h op).1 k = M.1 k := by simp only [wrL, sk_si_ne hk]
def z4 (M : sk_M) (c a : Nat) : Nat → sk_M
  | 0 => M
  | n + 1 => sk_sl (z4 M c a n) c (a + n) 0
theorem z4_1 (M : sk_M) (c a : Nat) : ∀ n, (z4 M c a n).1 = M.1
  | 0 => rfl
  | n + 1 => z4_1 M c a n
def orB (M : sk_M) (c a : Nat) (f : Nat → Nat) : Nat → sk_M
  | 0 => M
  | n + 1 => sk_sl (orB M c a f n) c (a + f n / 64) ((orB M c a f n).2 c (a + f n / 64) ||| ((1 : Int64) <<< ((nI (f n % 64)).toInt64 &&& 63)))
theorem orB_1 (M : sk_M) (c a : Nat) (f : Nat → Nat) : ∀ n, (orB M c a f n).1 = M.1
  | 0 => rfl
  | n + 1 => orB_1 M c a f n
/-- all forget all -/
def knB (M : sk_M) (c p : Nat) : Nat → sk_M
  | 0 => M
  | n + 1 => fk (knB M c p n) c (4 * (6 * p + n)) 4
theorem knB_1 (M : sk_M) (c p : Nat) : ∀ n, (knB M c p n).1 = M.1
  | 0 => rfl
  | n + 1 => (fk_1 _ _ _ _).trans (knB_1 M c p n)
def knC (M : sk_M) (c nv : Nat) : Nat → sk_M
  | 0 => M
  | n + 1 => knB (knC M c nv n) c n nv
theorem knC_1 (M : sk_M) (c nv : Nat) : ∀ n, (knC M c nv n).1 = M.1
  | 0 => rfl
  | n + 1 => (knB_1 _ _ _ _).trans (knC_1 M c nv n)
def obA (M : sk_M) (b : Nat) (ln : Int32) : sk_M := sk_si (sk_ri M (b + 7) (va_cpy (M.1 127) (M.1 (b + 7)) 0 0 108)) b 4 ln
def cpF (M : sk_M) (b o : Nat) : Nat → sk_M
  | 0 => M
  | n + 1 => sk_si (cpF M b o n) b n ((cpF M b o n).1 o n)
def cpA (M : sk_M) (b o : Nat) (ls : List (Nat × Nat)) : sk_M := ls.foldl (fun A q => sk_ri A (b + q.1) (va_cpy (A.1 (o + q.1)) (A.1 (b + q.1)) 0 0 q.2)) M
def cpS (M : sk_M) (b o : Nat) : sk_M :=
  let A := cpA (cpF M b o 12) b o [(1, 6), (2, 6), (3, 6), (4, 12), (5, 12), (6, 12), (7, 108), (8, 480)]
  sk_rl A (b + 9) (va_cpy (A.2 (o + 9)) (A.2 (b + 9)) 0 0 144)
def nxt (s : Int32) : Int32 := 1103515245 * s + 12345
def drw (s : Int32) : Int32 := us32 (nxt s) 16 &&& 32767
def jr (x y : Int32) : Int32 := x - x / y * y
abbrev LK : Type := Int32 × (Nat → Int32) × Int32 × Int32
def lkV (ch : Int32) (k : LK) (v : Nat) : LK := if ch ≤ jr (drw k.1) 100 then (nxt k.1, k.2.1, k.2.2.1, k.2.2.2) else (nxt (nxt k.1), upd k.2.1 v (jr (drw (nxt k.1)) 216), k.2.2.1 + 1, k.2.2.2 ||| (1 <<< (nI v &&& 31)))
def lkD (ch : Int32) (k : LK) : Nat → LK
  | 0 => k
  | n + 1 => lkV ch (lkD ch k n) n
def lkN (ch : Int32) (nv : Nat) (k : LK) : Nat → LK
  | 0 => k
  | n + 1 => lkD ch (lkN ch nv k n) nv
/-- M is M0 but for the Locksmith, which holds k -/
def lkI (M0 M : sk_M) (k : LK) : Prop := (∀ c, c ≠ 138 → c ≠ 139 → M.1 c = M0.1 c) ∧ M.2 = M0.2 ∧ M.1 138 1 = k.1 ∧ M.1 138 2 = k.2.2.1 ∧ M.1 138 3 = k.2.2.2 ∧ ∀ i, i < 6 → M.1 139 i = k.2.1 i
theorem cpy_in {α : Type} {f g : Nat → α} {n j : Nat} (h : j < n) : va_cpy f g 0 0 n j = f j := by
  rw [pk_cpy_in (Nat.zero_le j) (by omega)]
  congr 1
  omega
theorem cpF_ne (M : sk_M) (b o c : Nat) (h : c ≠ b) : ∀ n, (cpF M b o n).1 c = M.1 c
  | 0 => rfl
  | n + 1 => by rw [cpF, sk_si_ne h]; exact cpF_ne M b o c h n
theorem sk_ri_ne {M : sk_M} {c j : Nat} {f : Nat → Int32} (h : j ≠ c) : (sk_ri M c f).1 j = M.1 j := by simp [sk_ri, h]
theorem cpS_ne {M : sk_M} {b o c : Nat} (h : c < b ∨ b + 9 ≤ c) : (cpS M b o).1 c = M.1 c := by
  simp only [cpS, cpA, List.foldl, sk_rl]
  rw [sk_ri_ne (by omega), sk_ri_ne (by omega), sk_ri_ne (by omega), sk_ri_ne (by omega), sk_ri_ne (by omega), sk_ri_ne (by omega), sk_ri_ne (by omega), sk_ri_ne (by omega)]
  exact cpF_ne M b o c (by omega) 12
def flI (M : sk_M) (c : Nat) (v : Int32) : Nat → sk_M
  | 0 => M
  | n + 1 => sk_si (flI M c v n) c n v
theorem flI_ne {M : sk_M} {c j : Nat} {v : Int32} (h : j ≠ c) : ∀ n, (flI M c v n).1 j = M.1 j
  | 0 => rfl
  | n + 1 => by rw [flI, sk_si_ne h]; exact flI_ne h n
theorem flI_2 (M : sk_M) (c : Nat) (v : Int32) : ∀ n, (flI M c v n).2 = M.2
  | 0 => rfl
  | n + 1 => flI_2 M c v n
theorem flI_at {M : sk_M} {c : Nat} {v : Int32} {i : Nat} : ∀ n, i < n → (flI M c v n).1 c i = v
  | 0, h => absurd h (Nat.not_lt_zero i)
  | n + 1, h => by
    rw [flI, sk_si_at, upd]
    by_cases e : i = n
    · rw [if_pos e]
    · rw [if_neg e]; exact flI_at n (by omega)
/-- M is M0 but for pairs, of which the first n are laid for the turning t, and third -/
def pfI (M0 M : sk_M) (t n : Nat) : Prop := (∀ c, c ≠ 133 → M.1 c = M0.1 c) ∧ M.2 = M0.2 ∧ ∀ x, x < n → M.1 133 x = M0.1 (0 + 7) (t / 36 * 6 + x / 6) + 3564 + M0.1 (0 + 7) (36 + t / 6 % 6 * 6 + x % 6)
def faced (M : sk_M) (t : Nat) : Prop := M.1 130 9 = nI (72 + t % 6 * 6) ∧ ∀ x, x < 36 → M.1 133 x = M.1 (0 + 7) (t / 36 * 6 + x / 6) + 3564 + M.1 (0 + 7) (36 + t / 6 % 6 * 6 + x % 6)
/-- M' is M but for the Sieve's pairs and third, which face t -/
def fcI (M M' : sk_M) (t : Nat) : Prop := (∀ c, c ≠ 130 → c ≠ 133 → M'.1 c = M.1 c) ∧ M'.2 = M.2 ∧ (∀ k, k ≠ 9 → M'.1 130 k = M.1 130 k) ∧ faced M' t
/-- the slot of a code by the turning t -/
def slt (f : Nat → Int32) (t c : Nat) : Int32 := sndC f t c + 3564
/-- the tally over its floor: n s codes of the slot s -/
def TA (M : sk_M) (fl : Nat) (n : Nat → Nat) : Prop := M.1 130 10 = nI fl ∧ fl ≤ 1000000216 ∧ ∀ s, s < 7129 → ∃ ts, M.1 134 s = nI ts ∧ ts - fl = n s ∧ ts ≤ fl + 216
/-- the tally is as it may be between two counts -/
def TB (M : sk_M) : Prop := ∃ fl n, TA M fl n
/-- but for the tally and its floor M' is M -/
def tlI (M M' : sk_M) : Prop := (∀ c, c ≠ 130 → c ≠ 134 → M'.1 c = M.1 c) ∧ M'.2 = M.2 ∧ ∀ k, k ≠ 10 → M'.1 130 k = M.1 130 k
theorem sT1 {M : sk_M} {fl : Nat} {n : Nat → Nat} (h1 : M.1 130 10 = nI fl) (h3 : ∀ s, s < 7129 → ∃ ts, M.1 134 s = nI ts ∧ ts - fl = n s ∧ ts ≤ fl + 216) (h : fl < 1000000000) : tlI M (sk_si M 130 10 (M.1 130 10 + 216)) ∧ ∃ fl, TA (sk_si M 130 10 (M.1 130 10 + 216)) fl (fun _ => 0) := by
  refine ⟨⟨fun c hc _ => sk_si_ne hc, rfl, fun k hk => by rw [sk_si_at, upd, if_neg hk]⟩, fl + 216, ?_, by omega, fun s hs => ?_⟩
  · rw [sk_si_at, h1]; exact nI_add fl 216
  · obtain ⟨ts, e1, e2, e3⟩ := h3 s hs
    exact ⟨ts, by rw [sk_si_ne (by decide)]; exact e1, by show ts - (fl + 216) = 0; omega, by omega⟩
theorem sT2 (M : sk_M) (N : Nat) (hN : 7129 ≤ N) : tlI M (sk_si (sk_si (flI M 134 0 N) 130 10 0) 130 10 ((sk_si (flI M 134 0 N) 130 10 0).1 130 10 + 216)) ∧ ∃ fl, TA (sk_si (sk_si (flI M 134 0 N) 130 10 0) 130 10 ((sk_si (flI M 134 0 N) 130 10 0).1 130 10 + 216)) fl (fun _ => 0) := by
  refine ⟨⟨fun c h1 h2 => by rw [sk_si_ne h1, sk_si_ne h1, flI_ne h2], flI_2 _ _ _ _, fun k hk => by rw [sk_si_at, upd, if_neg hk, sk_si_at, upd, if_neg hk, flI_ne (by decide)]⟩, 216, ?_, by omega, fun s hs => ⟨0, ?_, rfl, by omega⟩⟩
  · rw [sk_si_at, sk_si_at]; rfl
  · rw [sk_si_ne (by decide), sk_si_ne (by decide), flI_at _ (Nat.lt_of_lt_of_le hs hN)]; rfl
theorem cO1 {ts fl k : Nat} (h1 : ts < 2 ^ 31) (h2 : fl < 2 ^ 31) (h : ts - fl = k) : (if nI ts < nI fl then nI fl else nI ts) = nI (fl + k) := by
  by_cases q9 : ts < fl
  · rw [if_pos (nI_lt q9 h2)]; congr 1; omega
  · rw [if_neg (nI_nlt (by omega) h1)]; congr 1; omega
theorem cO2 {f : Nat → Int32} {fl s : Nat} {n : Nat → Nat} (h3 : ∀ s, s < 7129 → ∃ ts, f s = nI ts ∧ ts - fl = n s ∧ ts ≤ fl + 216) (hn : n s < 216) : ∀ j, j < 7129 → ∃ ts, upd f s (nI (fl + n s + 1)) j = nI ts ∧ ts - fl = (if j = s then n s + 1 else n j) ∧ ts ≤ fl + 216 := by
  intro j hj
  by_cases e : j = s
  · exact ⟨fl + n s + 1, by rw [upd, if_pos e], by rw [if_pos e]; omega, by omega⟩
  · obtain ⟨ts, a1, a2, a3⟩ := h3 j hj
    exact ⟨ts, by rw [upd, if_neg e]; exact a1, by rw [if_neg e]; exact a2, a3⟩
/-- those below n with S, in order -/
noncomputable def enl (S : Nat → Prop) : Nat → List Nat
  | 0 => []
  | n + 1 => by
    classical
    exact if S n then enl S n ++ [n] else enl S n
theorem enl_t {S : Nat → Prop} {n : Nat} (h : S n) : enl S (n + 1) = enl S n ++ [n] := by simp [enl, h]
theorem enl_f {S : Nat → Prop} {n : Nat} (h : ¬ S n) : enl S (n + 1) = enl S n := by simp [enl, h]
theorem enl_len (S : Nat → Prop) : ∀ n, (enl S n).length ≤ n
  | 0 => Nat.le_refl 0
  | n + 1 => by
    have ih := enl_len S n
    by_cases h : S n
    · rw [enl_t h, List.length_append, List.length_singleton]; omega
    · rw [enl_f h]; omega
theorem enl_mem {S : Nat → Prop} {c : Nat} : ∀ n, c ∈ enl S n ↔ c < n ∧ S c
  | 0 => by simp [enl]
  | n + 1 => by
    have ih := enl_mem (S := S) (c := c) n
    by_cases h : S n
    · rw [enl_t h, List.mem_append, ih, List.mem_singleton]
      constructor
      · rintro (⟨h1, h2⟩ | rfl)
        · exact ⟨by omega, h2⟩
        · exact ⟨by omega, h⟩
      · rintro ⟨h1, h2⟩
        rcases Nat.lt_succ_iff_lt_or_eq.mp h1 with q | q
        · exact Or.inl ⟨q, h2⟩
        · exact Or.inr q
    · rw [enl_f h, ih]
      constructor
      · rintro ⟨h1, h2⟩; exact ⟨by omega, h2⟩
      · rintro ⟨h1, h2⟩
        rcases Nat.lt_succ_iff_lt_or_eq.mp h1 with q | q
        · exact ⟨q, h2⟩
        · exact absurd (q ▸ h2) h
theorem getD_a1 {l : List Nat} {x j : Nat} (h : j < l.length) : (l ++ [x]).getD j 0 = l.getD j 0 := by simp [List.getD, List.getElem?_append_left h]
theorem getD_a2 {l : List Nat} {x : Nat} : (l ++ [x]).getD l.length 0 = x := by simp [List.getD]
theorem getD_mem {l : List Nat} {j : Nat} (h : j < l.length) : l.getD j 0 ∈ l := by
  have e : l.getD j 0 = l[j] := by simp [List.getD, List.getElem?_eq_getElem h]
  rw [e]; exact List.getElem_mem h
/-- the Sieve holds the codes of l -/
def SV (M : sk_M) (l : List Nat) : Prop := M.1 130 8 = nI l.length ∧ l.length ≤ 216 ∧ (∀ i, i < l.length → M.1 131 i = nI (l.getD i 0) ∧ l.getD i 0 < 216) ∧ ∀ c, c < 216 → M.1 132 c = bI (c ∈ l)
/-- but for the Sieve's row M is M0 -/
def svF (M0 M : sk_M) : Prop := (∀ c, c ≠ 130 → c ≠ 131 → c ≠ 132 → M.1 c = M0.1 c) ∧ M.2 = M0.2 ∧ ∀ k, k ≠ 8 → M.1 130 k = M0.1 130 k
def loI (M0 M : sk_M) (S : Nat → Prop) (i : Nat) : Prop := svF M0 M ∧ M.1 130 8 = nI (enl S i).length ∧ (∀ j, j < (enl S i).length → M.1 131 j = nI ((enl S i).getD j 0)) ∧ ∀ c, c < i → M.1 132 c = bI (S c)
theorem nar_bI (p : Prop) : vp_nar .boolean (bI p) = bI p := by rcases bI_01 p with h | h <;> rw [h] <;> rfl
theorem loI_f {M0 M : sk_M} {S : Nat → Prop} {i : Nat} (h : loI M0 M S i) (hS : ¬ S i) : loI M0 (sk_si M 132 i (bI (S i))) S (i + 1) := by
  obtain ⟨⟨a1, a2, a3⟩, b, c9, d9⟩ := h
  unfold loI
  rw [enl_f hS]
  refine ⟨⟨fun c h1 h2 h3 => by rw [sk_si_ne h3]; exact a1 c h1 h2 h3, a2, fun k hk => by rw [sk_si_ne (by decide)]; exact a3 k hk⟩, by rw [sk_si_ne (by decide)]; exact b, fun j hj => by rw [sk_si_ne (by decide)]; exact c9 j hj, fun c hc => ?_⟩
  rw [sk_si_at, upd]
  by_cases e : c = i
  · rw [if_pos e, e]
  · rw [if_neg e]; exact d9 c (by omega)
theorem loI_t {M0 M : sk_M} {S : Nat → Prop} {i : Nat} (h : loI M0 M S i) (hS : S i) : loI M0 (sk_si (sk_si (sk_si M 132 i (bI (S i))) 131 (enl S i).length (nI i)) 130 8 (nI ((enl S i).length + 1))) S (i + 1) := by
  obtain ⟨⟨a1, a2, a3⟩, b, c9, d9⟩ := h
  unfold loI
  rw [enl_t hS]
  refine ⟨⟨fun c h1 h2 h3 => by rw [sk_si_ne h1, sk_si_ne h2, sk_si_ne h3]; exact a1 c h1 h2 h3, a2, fun k hk => by rw [sk_si_at, upd, if_neg hk, sk_si_ne (by decide), sk_si_ne (by decide)]; exact a3 k hk⟩, by rw [sk_si_at, upd, if_pos rfl, List.length_append]; rfl, fun j hj => ?_, fun c hc => ?_⟩
  · rw [sk_si_ne (by decide), sk_si_at, upd]
    rw [List.length_append, List.length_singleton] at hj
    by_cases e : j = (enl S i).length
    · rw [if_pos e, e, getD_a2]
    · rw [if_neg e, sk_si_ne (by decide), getD_a1 (by omega)]; exact c9 j (by omega)
  · rw [sk_si_ne (by decide), sk_si_ne (by decide), sk_si_at, upd]
    by_cases e : c = i
    · rw [if_pos e, e]
    · rw [if_neg e]; exact d9 c (by omega)
theorem loI_SV {M0 M : sk_M} {S : Nat → Prop} (h : loI M0 M S 216) : svF M0 M ∧ SV M (enl S 216) := by
  obtain ⟨a, b, c9, d9⟩ := h
  refine ⟨a, b, enl_len S 216, fun i hi => ⟨c9 i hi, ((enl_mem 216).mp (getD_mem hi)).1⟩, fun c hc => ?_⟩
  rw [d9 c hc]
  exact bI_cg ⟨fun q => (enl_mem 216).mpr ⟨hc, q⟩, fun q => ((enl_mem 216).mp q).2⟩
noncomputable def fP (P : Nat → Prop) (l : List Nat) : List Nat := by
  classical
  exact l.filter (fun c => decide (P c))
theorem fP_t {P : Nat → Prop} {l : List Nat} {c : Nat} (h : P c) : fP P (l ++ [c]) = fP P l ++ [c] := by simp [fP, List.filter_append, h]
theorem fP_f {P : Nat → Prop} {l : List Nat} {c : Nat} (h : ¬ P c) : fP P (l ++ [c]) = fP P l := by simp [fP, List.filter_append, h]
theorem fP_len (P : Nat → Prop) (l : List Nat) : (fP P l).length ≤ l.length := by simp [fP]; exact List.length_filter_le _ _
theorem fP_mem {P : Nat → Prop} {l : List Nat} {c : Nat} : c ∈ fP P l ↔ c ∈ l ∧ P c := by simp [fP]
theorem tk_s {l : List Nat} {i : Nat} (h : i < l.length) : l.take (i + 1) = l.take i ++ [l.getD i 0] := by
  have e : l.getD i 0 = l[i] := by simp [List.getD, List.getElem?_eq_getElem h]
  rw [e, List.take_append_getElem]
theorem tk_len {l : List Nat} {i : Nat} (h : i ≤ l.length) : (l.take i).length = i := by simp [Nat.min_eq_left h]
theorem faced_cg {M M' : sk_M} {t : Nat} (h : faced M t) (h1 : M'.1 130 9 = M.1 130 9) (h2 : M'.1 133 = M.1 133) (h3 : M'.1 (0 + 7) = M.1 (0 + 7)) : faced M' t := ⟨h1.trans h.1, fun x hx => by rw [h2, h3]; exact h.2 x hx⟩
/-- what stays of a turning to t, the code being u -/
def stP (f : Nat → Int32) (t u c : Nat) : Prop := (t = u ∧ c = t) ∨ (t ≠ u ∧ c ≠ t ∧ slt f t c = slt f t u)
def heI (M1 M : sk_M) (l : List Nat) (P : Nat → Prop) (i : Nat) : Prop := (∀ c, c ≠ 131 → c ≠ 132 → M.1 c = M1.1 c) ∧ M.2 = M1.2 ∧ (∀ j, j < (fP P (l.take i)).length → M.1 131 j = nI ((fP P (l.take i)).getD j 0)) ∧ (∀ j, i ≤ j → j < l.length → M.1 131 j = nI (l.getD j 0)) ∧ ∀ c, c < 216 → M.1 132 c = bI (c ∈ l ∧ (c ∈ l.take i → P c))
theorem heI_c {l : List Nat} {P : Nat → Prop} {i : Nat} (hi : i < l.length) {f : Nat → Int32} (h : ∀ c, c < 216 → f c = bI (c ∈ l ∧ (c ∈ l.take i → P c))) : ∀ c, c < 216 → upd f (l.getD i 0) (bI (P (l.getD i 0))) c = bI (c ∈ l ∧ (c ∈ l.take (i + 1) → P c)) := by
  intro c hc
  rw [upd, tk_s hi]
  by_cases e : c = l.getD i 0
  · rw [if_pos e]
    refine bI_cg ⟨fun q => ⟨by rw [e]; exact getD_mem hi, fun _ => by rw [e]; exact q⟩, fun q => ?_⟩
    have := q.2 (List.mem_append.mpr (Or.inr (by rw [e]; exact List.mem_singleton.mpr rfl)))
    rw [e] at this; exact this
  · rw [if_neg e, h c hc]
    refine bI_cg ⟨fun q => ⟨q.1, fun z => q.2 ((List.mem_append.mp z).elim id (fun y => absurd (List.mem_singleton.mp y) e))⟩, fun q => ⟨q.1, fun z => q.2 (List.mem_append.mpr (Or.inl z))⟩⟩
theorem heI_f {M1 M : sk_M} {l : List Nat} {P : Nat → Prop} {i : Nat} (h : heI M1 M l P i) (hi : i < l.length) (hP : ¬ P (l.getD i 0)) : heI M1 (sk_si M 132 (l.getD i 0) (bI (P (l.getD i 0)))) l P (i + 1) := by
  obtain ⟨a, b, c9, d9, e9⟩ := h
  refine ⟨fun c h1 h2 => by rw [sk_si_ne h2]; exact a c h1 h2, b, ?_, fun j h1 h2 => by rw [sk_si_ne (by decide)]; exact d9 j (by omega) h2, fun c hc => by rw [sk_si_at]; exact heI_c hi e9 c hc⟩
  rw [tk_s hi, fP_f hP]
  exact fun j hj => by rw [sk_si_ne (by decide)]; exact c9 j hj
theorem heI_t {M1 M : sk_M} {l : List Nat} {P : Nat → Prop} {i : Nat} (h : heI M1 M l P i) (hi : i < l.length) (hP : P (l.getD i 0)) : heI M1 (sk_si (sk_si M 132 (l.getD i 0) (bI (P (l.getD i 0)))) 131 (fP P (l.take i)).length (nI (l.getD i 0))) l P (i + 1) := by
  obtain ⟨a, b, c9, d9, e9⟩ := h
  have hl := fP_len P (l.take i)
  rw [tk_len (by omega)] at hl
  refine ⟨fun c h1 h2 => by rw [sk_si_ne h1, sk_si_ne h2]; exact a c h1 h2, b, ?_, fun j h1 h2 => ?_, fun c hc => by rw [sk_si_ne (by decide), sk_si_at]; exact heI_c hi e9 c hc⟩
  · rw [tk_s hi, fP_t hP]
    intro j hj
    rw [List.length_append, List.length_singleton] at hj
    rw [sk_si_at, upd]
    by_cases e : j = (fP P (l.take i)).length
    · rw [if_pos e, e, getD_a2]
    · rw [if_neg e, sk_si_ne (by decide), getD_a1 (by omega)]; exact c9 j (by omega)
  · rw [sk_si_at, upd, if_neg (by omega), sk_si_ne (by decide)]; exact d9 j (by omega) h2
/-- but for the Sieve's row and its face M' is M -/
def hrF (M M' : sk_M) : Prop := (∀ c, c ≠ 130 → c ≠ 131 → c ≠ 132 → c ≠ 133 → M'.1 c = M.1 c) ∧ M'.2 = M.2 ∧ ∀ k, k ≠ 8 → k ≠ 9 → M'.1 130 k = M.1 130 k
theorem hrE {M M1 M5 : sk_M} {l : List Nat} {t u : Nat} (h : heI M1 M5 l (stP (M1.1 (0 + 7)) t u) l.length) (v2 : l.length ≤ 216) (v3 : ∀ j, j < l.length → l.getD j 0 < 216) (e7 : M1.1 (0 + 7) = M.1 (0 + 7)) : SV (sk_si M5 130 8 (nI (fP (stP (M1.1 (0 + 7)) t u) (l.take l.length)).length)) (fP (stP (M.1 (0 + 7)) t u) l) := by
  obtain ⟨a, b, c9, d9, e9⟩ := h
  rw [List.take_length] at c9 e9 ⊢
  rw [← e7]
  have hl := fP_len (stP (M1.1 (0 + 7)) t u) l
  refine ⟨by rw [sk_si_at]; rfl, by omega, fun i hi => ⟨by rw [sk_si_ne (by decide)]; exact c9 i hi, ?_⟩, fun c hc => ?_⟩
  · have hm := (fP_mem.mp (getD_mem hi)).1
    obtain ⟨j, hj, ej⟩ := List.mem_iff_getElem.mp hm
    rw [← ej]
    have := v3 j hj
    simpa [List.getD, List.getElem?_eq_getElem hj] using this
  · rw [sk_si_ne (by decide), e9 c hc]
    exact bI_cg ⟨fun q => fP_mem.mpr ⟨q.1, q.2 q.1⟩, fun q => ⟨(fP_mem.mp q).1, fun _ => (fP_mem.mp q).2⟩⟩
theorem sk_addI {x y : Int32} (h1 : -2147483648 ≤ x.toInt + y.toInt) (h2 : x.toInt + y.toInt < 2147483648) : (x + y).toInt = x.toInt + y.toInt := by
  rw [Int32.toInt_add, Int.bmod_eq_of_le (by omega) (by omega)]
/-- no wheel sounds beyond twelve lines of 99 -/
def clB (f : Nat → Int32) : Prop := ∀ i, i < 108 → -1188 ≤ (f i).toInt ∧ (f i).toInt ≤ 1188
def slN (f : Nat → Int32) (t c : Nat) : Nat := (slt f t c).toInt.toNat
theorem snd_int {f : Nat → Int32} (h : clB f) {t c : Nat} (ht : t < 216) (hc : c < 216) : (sndC f t c).toInt = (f (t / 36 * 6 + c / 36)).toInt + (f (36 + t / 6 % 6 * 6 + c / 6 % 6)).toInt + (f (72 + t % 6 * 6 + c % 6)).toInt := by
  have a := h (t / 36 * 6 + c / 36) (by omega)
  have b := h (36 + t / 6 % 6 * 6 + c / 6 % 6) (by omega)
  have e := h (72 + t % 6 * 6 + c % 6) (by omega)
  unfold sndC
  rw [sk_addI, sk_addI] <;> (try rw [sk_addI]) <;> omega
theorem slN_ok {f : Nat → Int32} (h : clB f) {t c : Nat} (ht : t < 216) (hc : c < 216) : slt f t c = nI (slN f t c) ∧ slN f t c < 7129 := by
  have a := h (t / 36 * 6 + c / 36) (by omega)
  have b := h (36 + t / 6 % 6 * 6 + c / 6 % 6) (by omega)
  have e := h (72 + t % 6 * 6 + c % 6) (by omega)
  have s := snd_int h ht hc
  have k : (3564 : Int32).toInt = 3564 := by decide
  have v : (slt f t c).toInt = (sndC f t c).toInt + 3564 := by
    unfold slt
    rw [sk_addI] <;> rw [k] <;> omega
  have hn : (slN f t c : Int) = (slt f t c).toInt := by unfold slN; omega
  refine ⟨?_, by omega⟩
  have q : (nI (slN f t c)).toInt = (slN f t c : Int) := nI_toInt (by omega)
  exact Int32.toInt_inj.mp (by rw [q, hn])
theorem fo_s {α : Type} {g : α → Nat → α} {a : α} {l : List Nat} {i : Nat} (h : i < l.length) : (l.take (i + 1)).foldl g a = g ((l.take i).foldl g a) (l.getD i 0) := by
  rw [tk_s h, List.foldl_append]; rfl
/-- sides that a wheel can be -/
def sdS (dv : Nat) (a : Int32) (c : Nat) : Int32 := a ||| (1 <<< (nI (c / dv % 6) &&& 31))
def dvs (w : Nat) : Nat := if w = 0 then 36 else if w = 1 then 6 else 1
def bmp (n : Nat → Nat) (s : Nat) : Nat → Nat := fun j => if j = s then n s + 1 else n j
abbrev TR : Type := (Nat → Nat) × Nat × Nat
/-- one code more: counts by slot, parts, the greatest part -/
def trS (f : Nat → Int32) (t : Nat) (q : TR) (c : Nat) : TR := if c = t then (q.1, q.2.1 + 1, max q.2.2 1) else (bmp q.1 (slN f t c), q.2.1 + (if q.1 (slN f t c) = 0 then 1 else 0), max q.2.2 (q.1 (slN f t c) + 1))
def trF (f : Nat → Int32) (t : Nat) (l : List Nat) : TR := l.foldl (trS f t) (fun _ => 0, 0, 0)
theorem trF_s {f : Nat → Int32} {t : Nat} {l : List Nat} {i : Nat} (h : i < l.length) : trF f t (l.take (i + 1)) = trS f t (trF f t (l.take i)) (l.getD i 0) := fo_s h
theorem trF_le {f : Nat → Int32} {t : Nat} {l : List Nat} : ∀ i, i ≤ l.length → (∀ s, (trF f t (l.take i)).1 s ≤ i) ∧ (trF f t (l.take i)).2.1 ≤ i ∧ (trF f t (l.take i)).2.2 ≤ i
  | 0, _ => ⟨fun _ => Nat.le_refl 0, Nat.le_refl 0, Nat.le_refl 0⟩
  | i + 1, h => by
    obtain ⟨a, b, c⟩ := trF_le (f := f) (t := t) (l := l) i (by omega)
    rw [trF_s h, trS]
    by_cases e : l.getD i 0 = t
    · rw [if_pos e]
      exact ⟨fun s => Nat.le_succ_of_le (a s), by show _ + 1 ≤ _; omega, by show max _ 1 ≤ _; omega⟩
    · rw [if_neg e]
      refine ⟨fun s => ?_, ?_, ?_⟩
      · show bmp _ _ s ≤ _
        unfold bmp
        have := a s
        have := a (slN f t (l.getD i 0))
        split <;> omega
      · show _ + _ ≤ _
        split <;> omega
      · show max _ (_ + 1) ≤ _
        have := a (slN f t (l.getD i 0))
        omega
theorem trF_mono {f : Nat → Int32} {t : Nat} {l : List Nat} {i : Nat} : ∀ j, i + j ≤ l.length → (trF f t (l.take i)).2.2 ≤ (trF f t (l.take (i + j))).2.2
  | 0, _ => Nat.le_refl _
  | j + 1, h => by
    have ih := trF_mono (f := f) (t := t) (l := l) (i := i) j (by omega)
    rw [show i + (j + 1) = i + j + 1 by omega, trF_s (by omega), trS]
    split
    · show _ ≤ max _ 1; omega
    · show _ ≤ max _ (_ + 1); omega
def swF (M0 M : sk_M) : Prop := (∀ c, c ≠ 130 → c ≠ 133 → c ≠ 134 → M.1 c = M0.1 c) ∧ M.2 = M0.2 ∧ ∀ k, k ≠ 9 → k ≠ 10 → M.1 130 k = M0.1 130 k
theorem swF_tl {M0 M M' : sk_M} (h : swF M0 M) (h2 : tlI M M') : swF M0 M' := ⟨fun c a b e => (h2.1 c a e).trans (h.1 c a b e), h2.2.1.trans h.2.1, fun k a b => (h2.2.2 k b).trans (h.2.2 k a b)⟩
theorem faced_tl {M M' : sk_M} {t : Nat} (h : faced M t) (h2 : tlI M M') : faced M' t := faced_cg h (h2.2.2 9 (by decide)) (h2.1 133 (by decide) (by decide)) (h2.1 (0 + 7) (by decide) (by decide))
theorem swF_fc {M0 M : sk_M} {t : Nat} (h : fcI M0 M t) : swF M0 M := ⟨fun c a b _ => h.1 c a b, h.2.1, fun k a _ => h.2.2.1 k a⟩
theorem SV_sw {M0 M : sk_M} {l : List Nat} (h : SV M0 l) (h2 : swF M0 M) : SV M l := ⟨by rw [h2.2.2 8 (by decide) (by decide)]; exact h.1, h.2.1, fun i hi => by rw [h2.1 131 (by decide) (by decide) (by decide)]; exact h.2.2.1 i hi, fun c hc => by rw [h2.1 132 (by decide) (by decide) (by decide)]; exact h.2.2.2 c hc⟩
theorem TB_fc {M0 M : sk_M} {t : Nat} (h : TB M0) (h2 : fcI M0 M t) : TB M := by
  obtain ⟨fl, n, a, b, c⟩ := h
  exact ⟨fl, n, by rw [h2.2.2.1 10 (by decide)]; exact a, b, fun s hs => by rw [h2.1 134 (by decide) (by decide)]; exact c s hs⟩
def ptI (M0 M : sk_M) (t : Nat) (l : List Nat) (i fl : Nat) : Prop := swF M0 M ∧ faced M t ∧ TA M fl (trF (M0.1 (0 + 7)) t (l.take i)).1
theorem pt_a {M0 M : sk_M} {t i fl : Nat} {l : List Nat} (h : ptI M0 M t l i fl) (hi : i < l.length) (e : l.getD i 0 = t) : ptI M0 M t l (i + 1) fl := by
  refine ⟨h.1, h.2.1, ?_⟩
  rw [trF_s hi, trS, if_pos e]; exact h.2.2
theorem pt_b {M0 M M9 : sk_M} {t i fl : Nat} {l : List Nat} (h : ptI M0 M t l i fl) (hi : i < l.length) (e : ¬ l.getD i 0 = t) (h1 : tlI M M9) (h2 : TA M9 fl (bmp (trF (M0.1 (0 + 7)) t (l.take i)).1 (slN (M0.1 (0 + 7)) t (l.getD i 0)))) : ptI M0 M9 t l (i + 1) fl := by
  refine ⟨swF_tl h.1 h1, faced_tl h.2.1 h1, ?_⟩
  rw [trF_s hi, trS, if_neg e]; exact h2
theorem nImax {a b : Nat} (ha : a < 2 ^ 31) (hb : b < 2 ^ 31) : (if nI a < nI b then nI b else nI a) = nI (max a b) := by
  by_cases h : a < b
  · rw [if_pos (nI_lt h hb), Nat.max_eq_right (by omega)]
  · rw [if_neg (nI_nlt (by omega) ha), Nat.max_eq_left (by omega)]
theorem sk_sif {M : sk_M} {c i j : Nat} {v : Int32} (h : j ≠ i) : (sk_si M c i v).1 c j = M.1 c j := by rw [sk_si_at, upd, if_neg h]
theorem sk_sie {M : sk_M} {c i : Nat} {v : Int32} : (sk_si M c i v).1 c i = v := by rw [sk_si_at, upd, if_pos rfl]
/-- the first place from i on, below n, without p -/
noncomputable def scF (p : Nat → Prop) (n : Nat) : Nat → Nat → Nat
  | 0, i => i
  | k + 1, i => by
    classical
    exact if i < n ∧ p i then scF p n k (i + 1) else i
noncomputable def sc (p : Nat → Prop) (n i : Nat) : Nat := scF p n (n - i) i
theorem sc_go {p : Nat → Prop} {n i : Nat} (h1 : i < n) (h2 : p i) : sc p n i = sc p n (i + 1) := by
  unfold sc
  rw [show n - i = (n - (i + 1)) + 1 by omega, scF]
  simp [h1, h2]
theorem sc_no {p : Nat → Prop} {n i : Nat} (h : ¬ p i) : sc p n i = i := by
  unfold sc
  cases e : n - i with
  | zero => rfl
  | succ k => rw [scF]; simp [h]
theorem sc_end {p : Nat → Prop} {n i : Nat} (h : n ≤ i) : sc p n i = i := by
  unfold sc
  rw [show n - i = 0 by omega]; rfl
theorem sc_le {p : Nat → Prop} {n : Nat} : ∀ k i, i + k = n → i ≤ sc p n i ∧ sc p n i ≤ n
  | 0, i, h => by rw [sc_end (by omega)]; omega
  | k + 1, i, h => by
    by_cases q : p i
    · rw [sc_go (by omega) q]
      have := sc_le (p := p) (n := n) k (i + 1) (by omega)
      omega
    · rw [sc_no q]; omega
def isBl (y : Nat → Nat) (j : Nat) : Prop := y j = 32
def isLe (y : Nat → Nat) (j : Nat) : Prop := 97 ≤ y j ∧ y j ≤ 122
def isDi (y : Nat → Nat) (j : Nat) : Prop := 48 ≤ y j ∧ y j ≤ 57
/-- the thing from i on: where it begins, its kind, where it ends -/
noncomputable def tkA (y : Nat → Nat) (n i : Nat) : Nat := sc (isBl y) n i
noncomputable def tkK (y : Nat → Nat) (n i : Nat) : Nat := by
  classical
  exact if n ≤ tkA y n i then 0 else if isLe y (tkA y n i) then 1 else if isDi y (tkA y n i) then 2 else 3
noncomputable def tkE (y : Nat → Nat) (n i : Nat) : Nat := by
  classical
  exact if n ≤ tkA y n i then tkA y n i else if isLe y (tkA y n i) then sc (isLe y) n (tkA y n i) else if isDi y (tkA y n i) then sc (isDi y) n (tkA y n i) else tkA y n i + 1
/-- the Tape holds the n bytes y -/
def TP (M : sk_M) (y : Nat → Nat) (n : Nat) : Prop := M.1 121 1 = nI n ∧ n ≤ 400 ∧ ∀ j, j < n → M.1 122 j = nI (y j) ∧ y j < 256
def TK (M : sk_M) (a k e : Nat) : Prop := M.1 121 3 = nI a ∧ M.1 121 2 = nI k ∧ M.1 121 4 = nI e
/-- M is M0 but for the field f of the Tape, which is x -/
def fdI (M0 M : sk_M) (f : Nat) (x : Int32) : Prop := (∀ c, c ≠ 121 → M.1 c = M0.1 c) ∧ M.2 = M0.2 ∧ (∀ k, k ≠ f → M.1 121 k = M0.1 121 k) ∧ M.1 121 f = x
theorem fdI_set {M0 M : sk_M} {f : Nat} {x z : Int32} (h : fdI M0 M f x) : fdI M0 (sk_si M 121 f z) f z := ⟨fun c hc => by rw [sk_si_ne hc]; exact h.1 c hc, h.2.1, fun k hk => by rw [sk_sif hk]; exact h.2.2.1 k hk, sk_sie⟩
theorem TP_fd {M0 M : sk_M} {y : Nat → Nat} {n f : Nat} {x : Int32} (h : TP M0 y n) (h2 : fdI M0 M f x) (hf : f ≠ 1) : TP M y n := ⟨by rw [h2.2.2.1 1 (fun q => hf q.symm)]; exact h.1, h.2.1, fun j hj => by rw [h2.1 122 (by decide)]; exact h.2.2 j hj⟩
def tpF (M0 M : sk_M) : Prop := (∀ c, c ≠ 121 → M.1 c = M0.1 c) ∧ M.2 = M0.2 ∧ ∀ k, k ≠ 2 → k ≠ 3 → k ≠ 4 → M.1 121 k = M0.1 121 k
theorem nb {y : Nat → Nat} {j : Nat} (h : y j < 256) (k : Nat) (hk : k < 1000) : (nI (y j) = nI k ↔ y j = k) ∧ (nI (y j) < nI k ↔ y j < k) ∧ (nI k < nI (y j) ↔ k < y j) := ⟨nI_eq (by omega) (by omega), nI_ltI (by omega) (by omega), nI_ltI (by omega) (by omega)⟩
theorem tk0 {y : Nat → Nat} {n i : Nat} (h : n ≤ tkA y n i) : tkK y n i = 0 ∧ tkE y n i = tkA y n i := by simp [tkK, tkE, h]
theorem tk1 {y : Nat → Nat} {n i : Nat} (h : ¬ n ≤ tkA y n i) (h1 : isLe y (tkA y n i)) : tkK y n i = 1 ∧ tkE y n i = sc (isLe y) n (tkA y n i) := by simp [tkK, tkE, h, h1]
theorem tk2 {y : Nat → Nat} {n i : Nat} (h : ¬ n ≤ tkA y n i) (h1 : ¬ isLe y (tkA y n i)) (h2 : isDi y (tkA y n i)) : tkK y n i = 2 ∧ tkE y n i = sc (isDi y) n (tkA y n i) := by simp [tkK, tkE, h, h1, h2]
theorem tk3 {y : Nat → Nat} {n i : Nat} (h : ¬ n ≤ tkA y n i) (h1 : ¬ isLe y (tkA y n i)) (h2 : ¬ isDi y (tkA y n i)) : tkK y n i = 3 ∧ tkE y n i = tkA y n i + 1 := by simp [tkK, tkE, h, h1, h2]
def stpI (M M' : sk_M) (y : Nat → Nat) (n i : Nat) : Prop := tpF M M' ∧ TK M' (tkA y n i) (tkK y n i) (tkE y n i)
theorem stp_mk {M M2 M' : sk_M} {y : Nat → Nat} {n i kd e : Nat} (h2 : fdI M M2 3 (nI (tkA y n i))) (a1 : ∀ c, c ≠ 121 → M'.1 c = M2.1 c) (a2 : M'.2 = M2.2) (a3 : ∀ k, k ≠ 2 → k ≠ 4 → M'.1 121 k = M2.1 121 k) (a4 : M'.1 121 2 = nI kd) (a5 : M'.1 121 4 = nI e) (hh : tkK y n i = kd ∧ tkE y n i = e) : stpI M M' y n i :=
  ⟨⟨fun c hc => (a1 c hc).trans (h2.1 c hc), a2.trans h2.2.1, fun k h3 h4 h5 => (a3 k h3 h5).trans (h2.2.2.1 k h4)⟩, (a3 3 (by decide) (by decide)).trans h2.2.2.2, by rw [hh.1]; exact a4, by rw [hh.2]; exact a5⟩
def chS (j k : Nat) : Int32 := (sk_Sb.getD j []).getD k 0
def wdN (j k : Nat) : Nat := (chS j k).toInt.toNat
def wdL (j : Nat) : Nat := sk_Sl.getD j 0
theorem ch_ok : ∀ j, j < sk_SN → ∀ k, k < wdL j → chS j k = nI (wdN j k) ∧ wdN j k < 128 ∧ ((chS j k &&& 255).toUInt32 % 65536).toInt32 = chS j k := by decide +kernel
theorem wdL_lt : ∀ j, j < sk_SN → wdL j < 1000 := by decide +kernel
theorem nar_ch {x : Nat} (h : x < 128) : narrow .char (.int (nI x)) = .int (nI x) := (pk_charN (by omega)).1
/-- the Tape has read the thing from i on -/
def TS (M : sk_M) (y : Nat → Nat) (n i : Nat) : Prop := TP M y n ∧ i ≤ n ∧ TK M (tkA y n i) (tkK y n i) (tkE y n i)
theorem sc_all {p : Nat → Prop} {n : Nat} : ∀ k i, i + k = n → ∀ q, i ≤ q → q < sc p n i → p q
  | 0, i, h, q, h1, h2 => by rw [sc_end (by omega)] at h2; omega
  | k + 1, i, h, q, h1, h2 => by
    by_cases e : p i
    · rw [sc_go (by omega) e] at h2
      by_cases e2 : q = i
      · rw [e2]; exact e
      · exact sc_all (p := p) (n := n) k (i + 1) (by omega) q (by omega) h2
    · rw [sc_no e] at h2; omega
theorem tk_le {y : Nat → Nat} {n i : Nat} (h : i ≤ n) : i ≤ tkA y n i ∧ tkA y n i ≤ tkE y n i ∧ tkE y n i ≤ n ∧ (tkK y n i = 0 ↔ n ≤ tkA y n i) ∧ (tkK y n i = 2 → ∀ q, tkA y n i ≤ q → q < tkE y n i → isDi y q) ∧ (tkK y n i = 3 → tkE y n i = tkA y n i + 1) := by
  have h1 := sc_le (p := isBl y) (n := n) (n - i) i (by omega)
  have ha : tkA y n i = sc (isBl y) n i := rfl
  by_cases q0 : n ≤ tkA y n i
  · obtain ⟨e1, e2⟩ := tk0 q0
    rw [e1, e2]
    exact ⟨by omega, Nat.le_refl _, by omega, ⟨fun _ => q0, fun _ => rfl⟩, fun z => by omega, fun z => by omega⟩
  · by_cases q1 : isLe y (tkA y n i)
    · obtain ⟨e1, e2⟩ := tk1 q0 q1
      have h2 := sc_le (p := isLe y) (n := n) (n - tkA y n i) (tkA y n i) (by omega)
      rw [e1, e2]
      exact ⟨by omega, h2.1, h2.2, ⟨fun z => by omega, fun z => absurd z q0⟩, fun z => by omega, fun z => by omega⟩
    · by_cases q2 : isDi y (tkA y n i)
      · obtain ⟨e1, e2⟩ := tk2 q0 q1 q2
        have h2 := sc_le (p := isDi y) (n := n) (n - tkA y n i) (tkA y n i) (by omega)
        have h3 := sc_all (p := isDi y) (n := n) (n - tkA y n i) (tkA y n i) (by omega)
        rw [e1, e2]
        exact ⟨by omega, h2.1, h2.2, ⟨fun z => by omega, fun z => absurd z q0⟩, fun _ => h3, fun z => by omega⟩
      · obtain ⟨e1, e2⟩ := tk3 q0 q1 q2
        rw [e1, e2]
        exact ⟨by omega, by omega, by omega, ⟨fun z => by omega, fun z => absurd z q0⟩, fun z => by omega, fun _ => rfl⟩
theorem tk_K (y : Nat → Nat) (n i : Nat) : tkK y n i < 4 := by
  unfold tkK
  split
  · decide
  · split
    · decide
    · split <;> decide
def rfM (M : sk_M) : sk_M := if M.1 121 5 = -1 then sk_si M 121 5 (M.1 121 3) else M
/-- the word j stands there -/
def isWd (y : Nat → Nat) (n i j : Nat) : Prop := tkK y n i = 1 ∧ tkE y n i - tkA y n i = wdL j ∧ ∀ q, q < wdL j → y (tkA y n i + q) = wdN j q
theorem nI_m1 {x : Nat} (h : x < 2 ^ 31) : ¬ nI x = -1 := by
  intro q
  have h1 := nI_toInt h
  rw [q] at h1
  have h2 : (-1 : Int32).toInt = -1 := by decide
  omega
def nmP (y : Nat → Nat) (a : Nat) : Nat → Nat
  | 0 => 0
  | q + 1 => 10 * nmP y a q + (y (a + q) - 48)
theorem nmP_lt {y : Nat → Nat} {a : Nat} (m : Nat) (hd : ∀ q, q < m → isDi y (a + q)) : ∀ q, q ≤ m → nmP y a q < 10 ^ q
  | 0, _ => Nat.zero_lt_one
  | q + 1, h => by
    have ih := nmP_lt m hd q (by omega)
    have h2 := hd q (by omega)
    unfold isDi at h2
    rw [nmP, Nat.pow_succ]
    omega
def fgP (y : Nat → Nat) (a : Nat) : Nat → Nat
  | 0 => 0
  | q + 1 => 6 * fgP y a q + (y (a + q) - 48)
theorem fgP_lt {y : Nat → Nat} {a : Nat} (m : Nat) (hd : ∀ q, q < m → y (a + q) - 48 < 6) : ∀ q, q ≤ m → fgP y a q < 6 ^ q
  | 0, _ => Nat.zero_lt_one
  | q + 1, h => by
    have ih := fgP_lt m hd q (by omega)
    have h2 := hd q (by omega)
    rw [fgP, Nat.pow_succ]
    omega
/-- a number of 1 to 3 digits stands there -/
def isNu (y : Nat → Nat) (n i : Nat) : Prop := tkK y n i = 2 ∧ tkE y n i - tkA y n i ≤ 3
noncomputable def nuV (y : Nat → Nat) (n i : Nat) : Nat := nmP y (tkA y n i) (tkE y n i - tkA y n i)
theorem bitsP_no {P : Nat → Prop} : ∀ n, (∀ j, j < n → ¬ P j) → bitsP P n = 0
  | 0, _ => rfl
  | n + 1, h => by rw [← bitsP_f (h n (by omega))]; exact bitsP_no n (fun j hj => h j (by omega))
def alP (f : Nat → Int32) (t : Nat) (l : List Nat) (i j : Nat) : Prop := l.getD i 0 ≠ t ∧ l.getD j 0 ≠ t ∧ slt f t (l.getD j 0) = slt f t (l.getD i 0)
/-- M is M1 but for the row alike, of which the first i of the turning t are laid -/
def cmI (M1 M : sk_M) (t : Nat) (l : List Nat) (i : Nat) : Prop := (∀ c, c ≠ 135 → M.1 c = M1.1 c) ∧ M.2 = M1.2 ∧ (∀ q, q < i → M.1 135 (6 * t + q) = bitsP (alP (M1.1 (0 + 7)) t l q) l.length) ∧ ∀ x, (x < 6 * t ∨ 6 * t + 6 ≤ x) → M.1 135 x = M1.1 135 x
/-- but for the face and the row alike M' is M -/
def cmF (M M' : sk_M) (t : Nat) (l : List Nat) : Prop := (∀ c, c ≠ 130 → c ≠ 133 → c ≠ 135 → M'.1 c = M.1 c) ∧ M'.2 = M.2 ∧ (∀ k, k ≠ 9 → M'.1 130 k = M.1 130 k) ∧ (∀ q, q < l.length → M'.1 135 (6 * t + q) = bitsP (alP (M.1 (0 + 7)) t l q) l.length) ∧ ∀ x, (x < 6 * t ∨ 6 * t + 6 ≤ x) → M'.1 135 x = M.1 135 x
def isFg (y : Nat → Nat) (n i : Nat) : Prop := tkK y n i = 2 ∧ tkE y n i - tkA y n i = 3 ∧ ∀ q, q < 3 → y (tkA y n i + q) - 48 < 6
noncomputable def fgV (y : Nat → Nat) (n i : Nat) : Nat := fgP y (tkA y n i) 3
theorem sh31 : ∀ i, i < 32 → ((nI i &&& 31).toBitVec.smod 32).toNat = i := by decide +kernel
theorem hasB_tb {s i : Nat} (hs : s < 2 ^ 31) (hi : i < 31) : ((nI s >>> (nI i &&& 31)) &&& 1 = 1) ↔ s.testBit i = true := by
  rw [pk_shrN hs (nI i &&& 31) i (sh31 i (by omega)), pk_andN (by have := Nat.div_le_self s (2 ^ i); omega) 1 (by decide)]
  have h1 : s / 2 ^ i % 2 ^ 1 < 2 := Nat.mod_lt _ (by decide)
  have e : nI (s / 2 ^ i % 2 ^ 1) = 1 ↔ s / 2 ^ i % 2 ^ 1 = 1 := nI_eq (b := 1) (by omega) (by decide)
  rw [e, Nat.testBit_eq_decide_div_mod_eq, decide_eq_true_iff]
theorem nI_and (a b : Nat) : nI a &&& nI b = nI (a &&& b) := by
  apply Int32.toBitVec_inj.mp
  rw [Int32.toBitVec_and]
  show BitVec.ofNat 32 a &&& BitVec.ofNat 32 b = BitVec.ofNat 32 (a &&& b)
  rw [BitVec.ofNat_and]
noncomputable def bitsN (P : Nat → Prop) : Nat → Nat
  | 0 => 0
  | n + 1 => by
    classical
    exact if P n then bitsN P n + 2 ^ n else bitsN P n
theorem bitsN_t {P : Nat → Prop} {n : Nat} (h : P n) : bitsN P (n + 1) = bitsN P n + 2 ^ n := by simp [bitsN, h]
theorem bitsN_f {P : Nat → Prop} {n : Nat} (h : ¬ P n) : bitsN P (n + 1) = bitsN P n := by simp [bitsN, h]
theorem bitsN_lt (P : Nat → Prop) : ∀ n, bitsN P n < 2 ^ n
  | 0 => Nat.zero_lt_one
  | n + 1 => by
    have ih := bitsN_lt P n
    by_cases h : P n
    · rw [bitsN_t h, Nat.pow_succ]; omega
    · rw [bitsN_f h, Nat.pow_succ]; omega
def nbP (nd al : Nat → Nat) (s : Nat) : Nat → Nat
  | 0 => 0
  | i + 1 => if s.testBit i = true then max (nbP nd al s i) (nd (al i &&& s)) else nbP nd al s i
theorem nbP_le {nd al : Nat → Nat} {s b : Nat} (h : ∀ x, x ≤ s → nd x ≤ b) : ∀ i, nbP nd al s i ≤ b
  | 0 => Nat.zero_le b
  | i + 1 => by
    have ih := nbP_le (al := al) h i
    have h2 := h (al i &&& s) Nat.and_le_right
    rw [nbP]
    split <;> omega
