/-! the world: 159 cells of a fixed layout; a memory gives what they hold -/
abbrev sk_M : Type := (Nat → Nat → Int32) × (Nat → Nat → Int64)
abbrev sk_G : Type := Launch × va_G × (Nat → Nat) × (Nat → ClassId) × (Nat → Nat) × (Nat → Nat)
def sk_kdT : List Nat := [7, 6, 10, 3, 14, 0, 1, 10, 10, 10, 4, 10, 12, 10, 10, 10, 10, 10, 2, 10, 8, 10, 10, 10, 10, 10, 11, 11, 11, 11, 11, 13, 10, 10, 10, 10, 10, 10, 11]
def sk_lnT : List Nat := [9, 6, 400, 3, 10, 6, 6, 108, 36, 36, 16, 216, 216, 36, 7129, 1296, 64, 18, 4, 6, 27, 2260, 1411, 1411, 562, 5620, 144, 144, 144, 144, 1440, 400, 5, 400, 108, 7129, 6, 64, 1]
def sk_lnS : List Nat := [21, 6, 6, 6, 12, 12, 12, 108, 480, 144]
def sk_rfT : List (List (Option Nat)) := [[some 121, some 0, some 10, some 123, some 125, some 126, some 130, some 138], [some 122], [], [some 124], [], [some 121, some 0], [some 121, some 127, some 128, some 129], [], [], [],
  [some 0, some 131, some 132, some 133, some 134, some 135, some 136, some 137], [], [], [], [], [], [], [], [some 139], [],
  [none, some 141, some 142, some 143, some 144, some 145, some 146, some 147, some 148, some 149, some 150, none, none, some 151, none, none, none, none, none, none, some 152, none, some 153, some 154, some 155, some 156, some 157]]
/-- kind: under 10 an object of that class; 10 int[], 11 long[], 12 boolean[], 13 byte[], 14 State[] -/
def sk_kd (c : Nat) : Nat := if c < 120 then (if c % 10 = 0 then 5 else if c % 10 = 9 then 11 else 10) else sk_kdT.getD (c - 120) 10
def sk_ln (c : Nat) : Nat := if c < 120 then sk_lnS.getD (c % 10) 0 else sk_lnT.getD (c - 120) 0
def sk_rf (c k : Nat) : Option Nat := if c < 120 then (if c % 10 = 0 then (if 12 ≤ k then (if k ≤ 20 then some (c + (k - 11)) else none) else none) else none) else if c = 124 then some (20 + 10 * k) else (sk_rfT.getD (c - 120) []).getD k none
def sk_fv (ad : Nat → Nat) (M : sk_M) (c k : Nat) : Value := match sk_rf c k with
  | some j => .ref (ad j)
  | none => .int (M.1 c k)
def sk_ce (ad : Nat → Nat) (cA : Nat → ClassId) (M : sk_M) (c : Nat) : va_E :=
  if sk_kd c < 10 then .inr (sk_kd c, (List.range (sk_ln c)).map (sk_fv ad M c))
  else if sk_kd c = 11 then .inl (cA 11, sk_ln c, .inr (.inl (M.2 c)))
  else if sk_kd c = 14 then .inl (cA 14, sk_ln c, .inr (.inr (.inr (.inr (fun k => (sk_rf c k).map ad)))))
  else .inl (cA (sk_kd c), sk_ln c, .inl (M.1 c))
def sk_ws (ad : Nat → Nat) (cA : Nat → ClassId) (M : sk_M) : va_W := (List.range 159).map fun c => (ad c, sk_ce ad cA M c)
def sk_tys (cA : Nat → ClassId) : List (ClassId × FieldType) := [(cA 10, .int), (cA 11, .long), (cA 12, .boolean), (cA 13, .byte), (cA 14, .object "SafeKnown$State")]
def sk_si (M : sk_M) (c i : Nat) (v : Int32) : sk_M := (fun c' => if c' = c then upd (M.1 c) i v else M.1 c', M.2)
def sk_sl (M : sk_M) (c i : Nat) (v : Int64) : sk_M := (M.1, fun c' => if c' = c then vp_updL (M.2 c) i v else M.2 c')
/-- a whole row put in place of another -/
def sk_ri (M : sk_M) (c : Nat) (f : Nat → Int32) : sk_M := (fun c' => if c' = c then f else M.1 c', M.2)
def sk_rl (M : sk_M) (c : Nat) (f : Nat → Int64) : sk_M := (M.1, fun c' => if c' = c then f else M.2 c')
def sk_A (ad : Nat → Nat) (sz : Nat) : Nat → Prop := fun q => (∃ k : Nat, k < 159 ∧ q = ad k) ∨ sz ≤ q
def sk_inj (ad : Nat → Nat) : Prop := ∀ i j : Nat, i < 159 → j < 159 → ad i = ad j → i = j
theorem sk_at {ad : Nat → Nat} {cA : Nat → ClassId} {M : sk_M} {c : Nat} (h : c < 159) : (sk_ws ad cA M)[c]? = some (ad c, sk_ce ad cA M c) := by
  simp [sk_ws, h]
theorem sk_at_lt {ad : Nat → Nat} {cA : Nat → ClassId} {M : sk_M} {c : Nat} {q : Nat × va_E} (h : (sk_ws ad cA M)[c]? = some q) : c < 159 ∧ q = (ad c, sk_ce ad cA M c) := by
  have h1 : c < 159 := by
    have h2 := (List.getElem?_eq_some_iff.mp h).1
    simpa [sk_ws] using h2
  rw [sk_at h1] at h
  exact ⟨h1, (Option.some.inj h).symm⟩
theorem sk_set {ad : Nat → Nat} {cA : Nat → ClassId} {M M' : sk_M} {c : Nat} {e : va_E} (h1 : ∀ j, j ≠ c → sk_ce ad cA M' j = sk_ce ad cA M j) (h2 : e = sk_ce ad cA M' c) : (sk_ws ad cA M).set c (ad c, e) = sk_ws ad cA M' := by
  subst h2
  apply List.ext_getElem?
  intro i
  rw [List.getElem?_set]
  by_cases hi : i < 159
  · by_cases hc : c = i
    · subst hc
      simp [sk_ws, hi]
    · simp only [hc, if_false, sk_at hi, h1 i (fun q => hc q.symm)]
  · have e1 : (sk_ws ad cA M)[i]? = none := by simp [sk_ws]; omega
    have e2 : (sk_ws ad cA M')[i]? = none := by simp [sk_ws]; omega
    rw [e1, e2]
    by_cases hc : c = i
    · subst hc
      have : ¬ c < (sk_ws ad cA M).length := by simp [sk_ws]; omega
      simp [this]
    · simp [hc]
theorem sk_ce_int {ad : Nat → Nat} {cA : Nat → ClassId} {M : sk_M} {c t : Nat} (h : sk_kd c = t) (h1 : ¬ t < 10) (h2 : t ≠ 11) (h3 : t ≠ 14) : sk_ce ad cA M c = .inl (cA t, sk_ln c, .inl (M.1 c)) := by
  simp [sk_ce, h, h1, h2, h3]
theorem sk_ce_long {ad : Nat → Nat} {cA : Nat → ClassId} {M : sk_M} {c : Nat} (h : sk_kd c = 11) : sk_ce ad cA M c = .inl (cA 11, sk_ln c, .inr (.inl (M.2 c))) := by
  simp [sk_ce, h]
theorem sk_ce_ref {ad : Nat → Nat} {cA : Nat → ClassId} {M : sk_M} {c : Nat} (h : sk_kd c = 14) : sk_ce ad cA M c = .inl (cA 14, sk_ln c, .inr (.inr (.inr (.inr (fun k => (sk_rf c k).map ad))))) := by
  simp [sk_ce, h]
theorem sk_ce_obj {ad : Nat → Nat} {cA : Nat → ClassId} {M : sk_M} {c t : Nat} (h : sk_kd c = t) (h1 : t < 10) : sk_ce ad cA M c = .inr (t, (List.range (sk_ln c)).map (sk_fv ad M c)) := by
  simp [sk_ce, h, h1]
theorem sk_fv_eq {ad : Nat → Nat} {M M' : sk_M} {c : Nat} (h : M'.1 c = M.1 c) : sk_fv ad M' c = sk_fv ad M c := by
  funext k
  unfold sk_fv
  rw [h]
theorem sk_ce_eq {ad : Nat → Nat} {cA : Nat → ClassId} {M M' : sk_M} {c : Nat} (h1 : M'.1 c = M.1 c) (h2 : M'.2 c = M.2 c) : sk_ce ad cA M' c = sk_ce ad cA M c := by
  unfold sk_ce
  rw [sk_fv_eq h1, h1, h2]
theorem sk_si_ne {M : sk_M} {c i j : Nat} {v : Int32} (h : j ≠ c) : (sk_si M c i v).1 j = M.1 j := by simp [sk_si, h]
theorem sk_sl_ne {M : sk_M} {c i j : Nat} {v : Int64} (h : j ≠ c) : (sk_sl M c i v).2 j = M.2 j := by simp [sk_sl, h]
theorem sk_si_at {M : sk_M} {c i : Nat} {v : Int32} : (sk_si M c i v).1 c = upd (M.1 c) i v := by simp [sk_si]
theorem sk_sl_at {M : sk_M} {c i : Nat} {v : Int64} : (sk_sl M c i v).2 c = vp_updL (M.2 c) i v := by simp [sk_sl]
theorem sk_set_int {ad : Nat → Nat} {cA : Nat → ClassId} {M : sk_M} {c t i : Nat} {v : Int32} (h : sk_kd c = t) (h1 : ¬ t < 10) (h2 : t ≠ 11) (h3 : t ≠ 14) : (sk_ws ad cA M).set c (ad c, .inl (cA t, sk_ln c, .inl (upd (M.1 c) i v))) = sk_ws ad cA (sk_si M c i v) :=
  sk_set (fun j hj => sk_ce_eq (sk_si_ne hj) rfl) (by rw [sk_ce_int h h1 h2 h3, sk_si_at])
theorem sk_set_long {ad : Nat → Nat} {cA : Nat → ClassId} {M : sk_M} {c i : Nat} {v : Int64} (h : sk_kd c = 11) : (sk_ws ad cA M).set c (ad c, .inl (cA 11, sk_ln c, .inr (.inl (vp_updL (M.2 c) i v)))) = sk_ws ad cA (sk_sl M c i v) :=
  sk_set (fun j hj => sk_ce_eq rfl (sk_sl_ne hj)) (by rw [sk_ce_long h, sk_sl_at])
theorem sk_set_ri {ad : Nat → Nat} {cA : Nat → ClassId} {M : sk_M} {c t : Nat} {f : Nat → Int32} (h : sk_kd c = t) (h1 : ¬ t < 10) (h2 : t ≠ 11) (h3 : t ≠ 14) : (sk_ws ad cA M).set c (ad c, .inl (cA t, sk_ln c, .inl f)) = sk_ws ad cA (sk_ri M c f) :=
  sk_set (fun j hj => sk_ce_eq (by simp [sk_ri, hj]) rfl) (by rw [sk_ce_int h h1 h2 h3]; simp [sk_ri])
theorem sk_set_rl {ad : Nat → Nat} {cA : Nat → ClassId} {M : sk_M} {c : Nat} {f : Nat → Int64} (h : sk_kd c = 11) : (sk_ws ad cA M).set c (ad c, .inl (cA 11, sk_ln c, .inr (.inl f))) = sk_ws ad cA (sk_rl M c f) :=
  sk_set (fun j hj => sk_ce_eq rfl (by simp [sk_rl, hj])) (by rw [sk_ce_long h]; simp [sk_rl])
theorem sk_set_fld {ad : Nat → Nat} {cA : Nat → ClassId} {M : sk_M} {c t k : Nat} {v : Int32} (h : sk_kd c = t) (h1 : t < 10) (hr : sk_rf c k = none) : (sk_ws ad cA M).set c (ad c, .inr (t, ((List.range (sk_ln c)).map (sk_fv ad M c)).set k (.int v))) = sk_ws ad cA (sk_si M c k v) := by
  refine sk_set (fun j hj => sk_ce_eq (sk_si_ne hj) rfl) ?_
  rw [sk_ce_obj h h1]
  refine congrArg (fun q => (Sum.inr (t, q) : va_E)) ?_
  apply List.ext_getElem?
  intro i
  rw [List.getElem?_set]
  by_cases hi : i < sk_ln c
  · by_cases hk : k = i
    · subst hk
      simp [hi, sk_fv, hr, sk_si_at, upd]
    · have e1 : sk_fv ad (sk_si M c k v) c i = sk_fv ad M c i := by
        unfold sk_fv
        rw [sk_si_at]
        cases sk_rf c i with
        | some j => rfl
        | none => simp only [upd, if_neg (fun q : i = k => hk q.symm)]
      simp [hk, hi, e1]
  · by_cases hk : k = i
    · subst hk; simp [hi]
    · simp [hk, hi]
theorem sk_D {ad : Nat → Nat} {cA : Nat → ClassId} {M : sk_M} {sz : Nat} (h : sk_inj ad) : va_D (sk_A ad sz) (sk_ws ad cA M) := by
  refine ⟨fun i j p q hp hq e => ?_, fun k q hq => ?_⟩
  · obtain ⟨h1, rfl⟩ := sk_at_lt hp
    obtain ⟨h2, rfl⟩ := sk_at_lt hq
    exact h i j h1 h2 e
  · obtain ⟨h1, rfl⟩ := sk_at_lt hq
    exact Or.inl ⟨k, h1, rfl⟩
theorem sk_fld {ad : Nat → Nat} {M : sk_M} {c k n : Nat} (hn : sk_ln c = n) (hk : k < n) : ((List.range (sk_ln c)).map (sk_fv ad M c))[k]? = some (sk_fv ad M c k) := by
  subst hn
  simp [hk]
theorem sk_fv_i {ad : Nat → Nat} {M : sk_M} {c k : Nat} (h : sk_rf c k = none) : sk_fv ad M c k = .int (M.1 c k) := by simp [sk_fv, h]
theorem sk_fv_r {ad : Nat → Nat} {M : sk_M} {c k j : Nat} (h : sk_rf c k = some j) : sk_fv ad M c k = .ref (ad j) := by simp [sk_fv, h]
