/-! State's constructor -/
def ckI (i : Nat) : Nat → Int32 := fun k => if k < i ∧ k % 36 / 6 = k % 6 then 1 else 0
def knI (i : Nat) : Nat → Int64 := fun k => if k < i then kMask (k % 4) else 0
theorem ckI_0 : ckI 0 = fun _ => 0 := by funext k; unfold ckI; rw [if_neg (by omega)]
theorem knI_0 : knI 0 = fun _ => 0 := by funext k; unfold knI; rw [if_neg (by omega)]
theorem ckI_s {i : Nat} : upd (ckI i) i (if i % 36 / 6 = i % 6 then 1 else 0) = ckI (i + 1) := by
  funext k
  unfold upd ckI
  by_cases h : k = i
  · subst h
    rw [if_pos rfl]
    by_cases z : k % 36 / 6 = k % 6
    · rw [if_pos z, if_pos ⟨by omega, z⟩]
    · rw [if_neg z, if_neg (fun y => z y.2)]
  · rw [if_neg h]
    by_cases z : k < i ∧ k % 36 / 6 = k % 6
    · rw [if_pos z, if_pos ⟨by omega, z.2⟩]
    · rw [if_neg z, if_neg (fun y => z ⟨by omega, y.2⟩)]
theorem knI_s {i : Nat} : vp_updL (knI i) i (kMask (i % 4)) = knI (i + 1) := by
  funext k
  unfold vp_updL knI
  by_cases h : k = i
  · subst h
    rw [if_pos rfl, if_pos (by omega)]
  · rw [if_neg h]
    by_cases z : k < i
    · rw [if_pos z, if_pos (by omega)]
    · rw [if_neg z, if_neg (by omega)]
theorem ck_ar : ∀ i, i < 108 → (nI i - nI i / 36 * 36) / 6 = nI (i % 36 / 6) ∧ nI i - nI i / 6 * 6 = nI (i % 6) := by decide +kernel
theorem kn_ar : ∀ i, i < 144 → nI i - nI i / 4 * 4 = nI (i % 4) := by decide +kernel
def swX5 (cA : Nat → ClassId) (b : Nat) (q : Nat → Nat) : va_W := [(b, .inr (5, [.int 0, .int 0, .int 0, .int 0, .int (-1), .int 0, .int 0, .int 1, .int 0, .int 0, .int 0, .int 0, .ref (q 1), .ref (q 2), .ref (q 3), .ref (q 4), .ref (q 5), .ref (q 6), .ref (q 7), .ref (q 8), .ref (q 9)])), ((q 1), .inl (cA 10, 6, .inl (fun _ => 0))), ((q 2), .inl (cA 10, 6, .inl (fun _ => 0))), ((q 3), .inl (cA 10, 6, .inl (fun _ => 0))), ((q 4), .inl (cA 10, 12, .inl (fun _ => 0))), ((q 5), .inl (cA 10, 12, .inl (fun _ => 0))), ((q 6), .inl (cA 10, 12, .inl (fun _ => 0))), ((q 7), .inl (cA 10, 108, .inl (ckI 108))), ((q 8), .inl (cA 10, 480, .inl (fun _ => 0))), ((q 9), .inl (cA 11, 144, .inr (.inl (knI 144))))]
theorem ti_X5 {Z : sw_Z} {b : Nat} : CtrI Z mX5_init 1 9 786 [.ref b] [(b, .inr (5, [.int 0, .int 0, .int 0, .int 0, .int 0, .int 0, .int 0, .int 0, .int 0, .int 0, .int 0, .int 0, .null, .null, .null, .null, .null, .null, .null, .null, .null]))] (fun M => ∃ q : Nat → Nat, M = swX5 Z.2.2.1 b q) := by
  refine CtrI.of 1 (by decide) (Nat.le_of_ble_eq_true rfl) ?_
  show TW Z mX5_init (sk_R 1 9 786) (sw_K Z 9 786 (fun M => ∃ q : Nat → Nat, M = swX5 Z.2.2.1 b q)) 0 0 0 [some (.ref b), none] [] [(b, .inr (5, [.int 0, .int 0, .int 0, .int 0, .int 0, .int 0, .int 0, .int 0, .int 0, .int 0, .int 0, .int 0, .null, .null, .null, .null, .null, .null, .null, .null, .null]))]
  refine U.ald_0 (q := 1) dX5_init_0 rfl ?_
  refine U.objI oi_X5 dX5_init_1 (q := 4) rfl (Nat.le_of_ble_eq_true rfl) (Nat.le_of_ble_eq_true rfl) ?_
  refine U.ald_0 (q := 5) dX5_init_4 rfl ?_
  refine U.iconst (q := 6) (-1) dX5_init_5 rfl (by decide) ?_
  refine U.put (ci := 5) (C := RX5) (T := TX5) (N := 21) (ty := .int) tyX5 0 4 rfl sk_in5 tyX5_ok nmX5 rfl (by decide) rfl rfl (by decide +kernel) rfl rfl (Nat.le_of_ble_eq_true rfl) f_X5_11 dX5_init_6 (q := 9) rfl ?_
  show TW Z mX5_init (sk_R 1 9 786) (sw_K Z 9 786 (fun M => ∃ q : Nat → Nat, M = swX5 Z.2.2.1 b q)) 0 0 9 [some (.ref b), none] [] [(b, .inr (5, [.int 0, .int 0, .int 0, .int 0, .int (-1), .int 0, .int 0, .int 0, .int 0, .int 0, .int 0, .int 0, .null, .null, .null, .null, .null, .null, .null, .null, .null]))]
  refine U.ald_0 (q := 10) dX5_init_9 rfl ?_
  refine U.iconst (q := 11) (1) dX5_init_10 rfl (by decide) ?_
  refine U.put (ci := 5) (C := RX5) (T := TX5) (N := 21) (ty := .int) tyX5 0 7 rfl sk_in5 tyX5_ok nmX5 rfl (by decide) rfl rfl (by decide +kernel) rfl rfl (Nat.le_of_ble_eq_true rfl) f_X5_15 dX5_init_11 (q := 14) rfl ?_
  show TW Z mX5_init (sk_R 1 9 786) (sw_K Z 9 786 (fun M => ∃ q : Nat → Nat, M = swX5 Z.2.2.1 b q)) 0 0 14 [some (.ref b), none] [] [(b, .inr (5, [.int 0, .int 0, .int 0, .int 0, .int (-1), .int 0, .int 0, .int 1, .int 0, .int 0, .int 0, .int 0, .null, .null, .null, .null, .null, .null, .null, .null, .null]))]
  refine U.ald_0 (q := 15) dX5_init_14 rfl ?_
  refine U.bipush (q := 17) (6) dX5_init_15 rfl (by decide) ?_
  refine U.newa (ty := .int) (N' := 6) (a0 := (6, .inl (fun _ => 0))) 0 rfl rfl (by decide) (fun C h => by cases h) ac_int (fun _ => rfl) (by decide) (by decide) (by decide) (Nat.le_of_ble_eq_true rfl) (Nat.le_of_ble_eq_true rfl) dX5_init_17 (q := 19) rfl (fun q1 => ?_)
  show TW Z mX5_init (sk_R 1 9 786) (sw_K Z 9 786 (fun M => ∃ q : Nat → Nat, M = swX5 Z.2.2.1 b q)) 1 6 19 [some (.ref b), none] [.ref q1, .ref b] [(b, .inr (5, [.int 0, .int 0, .int 0, .int 0, .int (-1), .int 0, .int 0, .int 1, .int 0, .int 0, .int 0, .int 0, .null, .null, .null, .null, .null, .null, .null, .null, .null])), (q1, .inl (Z.2.2.1 10, 6, .inl (fun _ => 0)))]
  refine U.putF (ci := 5) (C := RX5) (T := TX5) (N := 21) (ty := (.array .int)) tyX5 0 12 rfl sk_in5 tyX5_ok nmX5 rfl (by decide) rfl rfl rfl rfl (by decide +kernel) rfl rfl (Nat.le_of_ble_eq_true rfl) f_X5_18 dX5_init_19 (q := 22) rfl ?_
  show TW Z mX5_init (sk_R 1 9 786) (sw_K Z 9 786 (fun M => ∃ q : Nat → Nat, M = swX5 Z.2.2.1 b q)) 1 6 22 [some (.ref b), none] [] [(b, .inr (5, [.int 0, .int 0, .int 0, .int 0, .int (-1), .int 0, .int 0, .int 1, .int 0, .int 0, .int 0, .int 0, .ref q1, .null, .null, .null, .null, .null, .null, .null, .null])), (q1, .inl (Z.2.2.1 10, 6, .inl (fun _ => 0)))]
  refine U.ald_0 (q := 23) dX5_init_22 rfl ?_
  refine U.bipush (q := 25) (6) dX5_init_23 rfl (by decide) ?_
  refine U.newa (ty := .int) (N' := 6) (a0 := (6, .inl (fun _ => 0))) 0 rfl rfl (by decide) (fun C h => by cases h) ac_int (fun _ => rfl) (by decide) (by decide) (by decide) (Nat.le_of_ble_eq_true rfl) (Nat.le_of_ble_eq_true rfl) dX5_init_25 (q := 27) rfl (fun q2 => ?_)
  show TW Z mX5_init (sk_R 1 9 786) (sw_K Z 9 786 (fun M => ∃ q : Nat → Nat, M = swX5 Z.2.2.1 b q)) 2 12 27 [some (.ref b), none] [.ref q2, .ref b] [(b, .inr (5, [.int 0, .int 0, .int 0, .int 0, .int (-1), .int 0, .int 0, .int 1, .int 0, .int 0, .int 0, .int 0, .ref q1, .null, .null, .null, .null, .null, .null, .null, .null])), (q1, .inl (Z.2.2.1 10, 6, .inl (fun _ => 0))), (q2, .inl (Z.2.2.1 10, 6, .inl (fun _ => 0)))]
  refine U.putF (ci := 5) (C := RX5) (T := TX5) (N := 21) (ty := (.array .int)) tyX5 0 13 rfl sk_in5 tyX5_ok nmX5 rfl (by decide) rfl rfl rfl rfl (by decide +kernel) rfl rfl (Nat.le_of_ble_eq_true rfl) f_X5_22 dX5_init_27 (q := 30) rfl ?_
  show TW Z mX5_init (sk_R 1 9 786) (sw_K Z 9 786 (fun M => ∃ q : Nat → Nat, M = swX5 Z.2.2.1 b q)) 2 12 30 [some (.ref b), none] [] [(b, .inr (5, [.int 0, .int 0, .int 0, .int 0, .int (-1), .int 0, .int 0, .int 1, .int 0, .int 0, .int 0, .int 0, .ref q1, .ref q2, .null, .null, .null, .null, .null, .null, .null])), (q1, .inl (Z.2.2.1 10, 6, .inl (fun _ => 0))), (q2, .inl (Z.2.2.1 10, 6, .inl (fun _ => 0)))]
  refine U.ald_0 (q := 31) dX5_init_30 rfl ?_
  refine U.bipush (q := 33) (6) dX5_init_31 rfl (by decide) ?_
  refine U.newa (ty := .int) (N' := 6) (a0 := (6, .inl (fun _ => 0))) 0 rfl rfl (by decide) (fun C h => by cases h) ac_int (fun _ => rfl) (by decide) (by decide) (by decide) (Nat.le_of_ble_eq_true rfl) (Nat.le_of_ble_eq_true rfl) dX5_init_33 (q := 35) rfl (fun q3 => ?_)
  show TW Z mX5_init (sk_R 1 9 786) (sw_K Z 9 786 (fun M => ∃ q : Nat → Nat, M = swX5 Z.2.2.1 b q)) 3 18 35 [some (.ref b), none] [.ref q3, .ref b] [(b, .inr (5, [.int 0, .int 0, .int 0, .int 0, .int (-1), .int 0, .int 0, .int 1, .int 0, .int 0, .int 0, .int 0, .ref q1, .ref q2, .null, .null, .null, .null, .null, .null, .null])), (q1, .inl (Z.2.2.1 10, 6, .inl (fun _ => 0))), (q2, .inl (Z.2.2.1 10, 6, .inl (fun _ => 0))), (q3, .inl (Z.2.2.1 10, 6, .inl (fun _ => 0)))]
  refine U.putF (ci := 5) (C := RX5) (T := TX5) (N := 21) (ty := (.array .int)) tyX5 0 14 rfl sk_in5 tyX5_ok nmX5 rfl (by decide) rfl rfl rfl rfl (by decide +kernel) rfl rfl (Nat.le_of_ble_eq_true rfl) f_X5_25 dX5_init_35 (q := 38) rfl ?_
  show TW Z mX5_init (sk_R 1 9 786) (sw_K Z 9 786 (fun M => ∃ q : Nat → Nat, M = swX5 Z.2.2.1 b q)) 3 18 38 [some (.ref b), none] [] [(b, .inr (5, [.int 0, .int 0, .int 0, .int 0, .int (-1), .int 0, .int 0, .int 1, .int 0, .int 0, .int 0, .int 0, .ref q1, .ref q2, .ref q3, .null, .null, .null, .null, .null, .null])), (q1, .inl (Z.2.2.1 10, 6, .inl (fun _ => 0))), (q2, .inl (Z.2.2.1 10, 6, .inl (fun _ => 0))), (q3, .inl (Z.2.2.1 10, 6, .inl (fun _ => 0)))]
  refine U.ald_0 (q := 39) dX5_init_38 rfl ?_
  refine U.bipush (q := 41) (12) dX5_init_39 rfl (by decide) ?_
  refine U.newa (ty := .int) (N' := 12) (a0 := (12, .inl (fun _ => 0))) 0 rfl rfl (by decide) (fun C h => by cases h) ac_int (fun _ => rfl) (by decide) (by decide) (by decide) (Nat.le_of_ble_eq_true rfl) (Nat.le_of_ble_eq_true rfl) dX5_init_41 (q := 43) rfl (fun q4 => ?_)
  show TW Z mX5_init (sk_R 1 9 786) (sw_K Z 9 786 (fun M => ∃ q : Nat → Nat, M = swX5 Z.2.2.1 b q)) 4 30 43 [some (.ref b), none] [.ref q4, .ref b] [(b, .inr (5, [.int 0, .int 0, .int 0, .int 0, .int (-1), .int 0, .int 0, .int 1, .int 0, .int 0, .int 0, .int 0, .ref q1, .ref q2, .ref q3, .null, .null, .null, .null, .null, .null])), (q1, .inl (Z.2.2.1 10, 6, .inl (fun _ => 0))), (q2, .inl (Z.2.2.1 10, 6, .inl (fun _ => 0))), (q3, .inl (Z.2.2.1 10, 6, .inl (fun _ => 0))), (q4, .inl (Z.2.2.1 10, 12, .inl (fun _ => 0)))]
  refine U.putF (ci := 5) (C := RX5) (T := TX5) (N := 21) (ty := (.array .int)) tyX5 0 15 rfl sk_in5 tyX5_ok nmX5 rfl (by decide) rfl rfl rfl rfl (by decide +kernel) rfl rfl (Nat.le_of_ble_eq_true rfl) f_X5_28 dX5_init_43 (q := 46) rfl ?_
  show TW Z mX5_init (sk_R 1 9 786) (sw_K Z 9 786 (fun M => ∃ q : Nat → Nat, M = swX5 Z.2.2.1 b q)) 4 30 46 [some (.ref b), none] [] [(b, .inr (5, [.int 0, .int 0, .int 0, .int 0, .int (-1), .int 0, .int 0, .int 1, .int 0, .int 0, .int 0, .int 0, .ref q1, .ref q2, .ref q3, .ref q4, .null, .null, .null, .null, .null])), (q1, .inl (Z.2.2.1 10, 6, .inl (fun _ => 0))), (q2, .inl (Z.2.2.1 10, 6, .inl (fun _ => 0))), (q3, .inl (Z.2.2.1 10, 6, .inl (fun _ => 0))), (q4, .inl (Z.2.2.1 10, 12, .inl (fun _ => 0)))]
  refine U.ald_0 (q := 47) dX5_init_46 rfl ?_
  refine U.bipush (q := 49) (12) dX5_init_47 rfl (by decide) ?_
  refine U.newa (ty := .int) (N' := 12) (a0 := (12, .inl (fun _ => 0))) 0 rfl rfl (by decide) (fun C h => by cases h) ac_int (fun _ => rfl) (by decide) (by decide) (by decide) (Nat.le_of_ble_eq_true rfl) (Nat.le_of_ble_eq_true rfl) dX5_init_49 (q := 51) rfl (fun q5 => ?_)
  show TW Z mX5_init (sk_R 1 9 786) (sw_K Z 9 786 (fun M => ∃ q : Nat → Nat, M = swX5 Z.2.2.1 b q)) 5 42 51 [some (.ref b), none] [.ref q5, .ref b] [(b, .inr (5, [.int 0, .int 0, .int 0, .int 0, .int (-1), .int 0, .int 0, .int 1, .int 0, .int 0, .int 0, .int 0, .ref q1, .ref q2, .ref q3, .ref q4, .null, .null, .null, .null, .null])), (q1, .inl (Z.2.2.1 10, 6, .inl (fun _ => 0))), (q2, .inl (Z.2.2.1 10, 6, .inl (fun _ => 0))), (q3, .inl (Z.2.2.1 10, 6, .inl (fun _ => 0))), (q4, .inl (Z.2.2.1 10, 12, .inl (fun _ => 0))), (q5, .inl (Z.2.2.1 10, 12, .inl (fun _ => 0)))]
  refine U.putF (ci := 5) (C := RX5) (T := TX5) (N := 21) (ty := (.array .int)) tyX5 0 16 rfl sk_in5 tyX5_ok nmX5 rfl (by decide) rfl rfl rfl rfl (by decide +kernel) rfl rfl (Nat.le_of_ble_eq_true rfl) f_X5_31 dX5_init_51 (q := 54) rfl ?_
  show TW Z mX5_init (sk_R 1 9 786) (sw_K Z 9 786 (fun M => ∃ q : Nat → Nat, M = swX5 Z.2.2.1 b q)) 5 42 54 [some (.ref b), none] [] [(b, .inr (5, [.int 0, .int 0, .int 0, .int 0, .int (-1), .int 0, .int 0, .int 1, .int 0, .int 0, .int 0, .int 0, .ref q1, .ref q2, .ref q3, .ref q4, .ref q5, .null, .null, .null, .null])), (q1, .inl (Z.2.2.1 10, 6, .inl (fun _ => 0))), (q2, .inl (Z.2.2.1 10, 6, .inl (fun _ => 0))), (q3, .inl (Z.2.2.1 10, 6, .inl (fun _ => 0))), (q4, .inl (Z.2.2.1 10, 12, .inl (fun _ => 0))), (q5, .inl (Z.2.2.1 10, 12, .inl (fun _ => 0)))]
  refine U.ald_0 (q := 55) dX5_init_54 rfl ?_
  refine U.bipush (q := 57) (12) dX5_init_55 rfl (by decide) ?_
  refine U.newa (ty := .int) (N' := 12) (a0 := (12, .inl (fun _ => 0))) 0 rfl rfl (by decide) (fun C h => by cases h) ac_int (fun _ => rfl) (by decide) (by decide) (by decide) (Nat.le_of_ble_eq_true rfl) (Nat.le_of_ble_eq_true rfl) dX5_init_57 (q := 59) rfl (fun q6 => ?_)
  show TW Z mX5_init (sk_R 1 9 786) (sw_K Z 9 786 (fun M => ∃ q : Nat → Nat, M = swX5 Z.2.2.1 b q)) 6 54 59 [some (.ref b), none] [.ref q6, .ref b] [(b, .inr (5, [.int 0, .int 0, .int 0, .int 0, .int (-1), .int 0, .int 0, .int 1, .int 0, .int 0, .int 0, .int 0, .ref q1, .ref q2, .ref q3, .ref q4, .ref q5, .null, .null, .null, .null])), (q1, .inl (Z.2.2.1 10, 6, .inl (fun _ => 0))), (q2, .inl (Z.2.2.1 10, 6, .inl (fun _ => 0))), (q3, .inl (Z.2.2.1 10, 6, .inl (fun _ => 0))), (q4, .inl (Z.2.2.1 10, 12, .inl (fun _ => 0))), (q5, .inl (Z.2.2.1 10, 12, .inl (fun _ => 0))), (q6, .inl (Z.2.2.1 10, 12, .inl (fun _ => 0)))]
  refine U.putF (ci := 5) (C := RX5) (T := TX5) (N := 21) (ty := (.array .int)) tyX5 0 17 rfl sk_in5 tyX5_ok nmX5 rfl (by decide) rfl rfl rfl rfl (by decide +kernel) rfl rfl (Nat.le_of_ble_eq_true rfl) f_X5_34 dX5_init_59 (q := 62) rfl ?_
  show TW Z mX5_init (sk_R 1 9 786) (sw_K Z 9 786 (fun M => ∃ q : Nat → Nat, M = swX5 Z.2.2.1 b q)) 6 54 62 [some (.ref b), none] [] [(b, .inr (5, [.int 0, .int 0, .int 0, .int 0, .int (-1), .int 0, .int 0, .int 1, .int 0, .int 0, .int 0, .int 0, .ref q1, .ref q2, .ref q3, .ref q4, .ref q5, .ref q6, .null, .null, .null])), (q1, .inl (Z.2.2.1 10, 6, .inl (fun _ => 0))), (q2, .inl (Z.2.2.1 10, 6, .inl (fun _ => 0))), (q3, .inl (Z.2.2.1 10, 6, .inl (fun _ => 0))), (q4, .inl (Z.2.2.1 10, 12, .inl (fun _ => 0))), (q5, .inl (Z.2.2.1 10, 12, .inl (fun _ => 0))), (q6, .inl (Z.2.2.1 10, 12, .inl (fun _ => 0)))]
  refine U.ald_0 (q := 63) dX5_init_62 rfl ?_
  refine U.bipush (q := 65) (108) dX5_init_63 rfl (by decide) ?_
  refine U.newa (ty := .int) (N' := 108) (a0 := (108, .inl (fun _ => 0))) 0 rfl rfl (by decide) (fun C h => by cases h) ac_int (fun _ => rfl) (by decide) (by decide) (by decide) (Nat.le_of_ble_eq_true rfl) (Nat.le_of_ble_eq_true rfl) dX5_init_65 (q := 67) rfl (fun q7 => ?_)
  show TW Z mX5_init (sk_R 1 9 786) (sw_K Z 9 786 (fun M => ∃ q : Nat → Nat, M = swX5 Z.2.2.1 b q)) 7 162 67 [some (.ref b), none] [.ref q7, .ref b] [(b, .inr (5, [.int 0, .int 0, .int 0, .int 0, .int (-1), .int 0, .int 0, .int 1, .int 0, .int 0, .int 0, .int 0, .ref q1, .ref q2, .ref q3, .ref q4, .ref q5, .ref q6, .null, .null, .null])), (q1, .inl (Z.2.2.1 10, 6, .inl (fun _ => 0))), (q2, .inl (Z.2.2.1 10, 6, .inl (fun _ => 0))), (q3, .inl (Z.2.2.1 10, 6, .inl (fun _ => 0))), (q4, .inl (Z.2.2.1 10, 12, .inl (fun _ => 0))), (q5, .inl (Z.2.2.1 10, 12, .inl (fun _ => 0))), (q6, .inl (Z.2.2.1 10, 12, .inl (fun _ => 0))), (q7, .inl (Z.2.2.1 10, 108, .inl (fun _ => 0)))]
  refine U.putF (ci := 5) (C := RX5) (T := TX5) (N := 21) (ty := (.array .int)) tyX5 0 18 rfl sk_in5 tyX5_ok nmX5 rfl (by decide) rfl rfl rfl rfl (by decide +kernel) rfl rfl (Nat.le_of_ble_eq_true rfl) f_X5_37 dX5_init_67 (q := 70) rfl ?_
  show TW Z mX5_init (sk_R 1 9 786) (sw_K Z 9 786 (fun M => ∃ q : Nat → Nat, M = swX5 Z.2.2.1 b q)) 7 162 70 [some (.ref b), none] [] [(b, .inr (5, [.int 0, .int 0, .int 0, .int 0, .int (-1), .int 0, .int 0, .int 1, .int 0, .int 0, .int 0, .int 0, .ref q1, .ref q2, .ref q3, .ref q4, .ref q5, .ref q6, .ref q7, .null, .null])), (q1, .inl (Z.2.2.1 10, 6, .inl (fun _ => 0))), (q2, .inl (Z.2.2.1 10, 6, .inl (fun _ => 0))), (q3, .inl (Z.2.2.1 10, 6, .inl (fun _ => 0))), (q4, .inl (Z.2.2.1 10, 12, .inl (fun _ => 0))), (q5, .inl (Z.2.2.1 10, 12, .inl (fun _ => 0))), (q6, .inl (Z.2.2.1 10, 12, .inl (fun _ => 0))), (q7, .inl (Z.2.2.1 10, 108, .inl (fun _ => 0)))]
  refine U.ald_0 (q := 71) dX5_init_70 rfl ?_
  refine U.sipush (q := 74) (480) dX5_init_71 rfl (by decide) ?_
  refine U.newa (ty := .int) (N' := 480) (a0 := (480, .inl (fun _ => 0))) 0 rfl rfl (by decide) (fun C h => by cases h) ac_int (fun _ => rfl) (by decide) (by decide) (by decide) (Nat.le_of_ble_eq_true rfl) (Nat.le_of_ble_eq_true rfl) dX5_init_74 (q := 76) rfl (fun q8 => ?_)
  show TW Z mX5_init (sk_R 1 9 786) (sw_K Z 9 786 (fun M => ∃ q : Nat → Nat, M = swX5 Z.2.2.1 b q)) 8 642 76 [some (.ref b), none] [.ref q8, .ref b] [(b, .inr (5, [.int 0, .int 0, .int 0, .int 0, .int (-1), .int 0, .int 0, .int 1, .int 0, .int 0, .int 0, .int 0, .ref q1, .ref q2, .ref q3, .ref q4, .ref q5, .ref q6, .ref q7, .null, .null])), (q1, .inl (Z.2.2.1 10, 6, .inl (fun _ => 0))), (q2, .inl (Z.2.2.1 10, 6, .inl (fun _ => 0))), (q3, .inl (Z.2.2.1 10, 6, .inl (fun _ => 0))), (q4, .inl (Z.2.2.1 10, 12, .inl (fun _ => 0))), (q5, .inl (Z.2.2.1 10, 12, .inl (fun _ => 0))), (q6, .inl (Z.2.2.1 10, 12, .inl (fun _ => 0))), (q7, .inl (Z.2.2.1 10, 108, .inl (fun _ => 0))), (q8, .inl (Z.2.2.1 10, 480, .inl (fun _ => 0)))]
  refine U.putF (ci := 5) (C := RX5) (T := TX5) (N := 21) (ty := (.array .int)) tyX5 0 19 rfl sk_in5 tyX5_ok nmX5 rfl (by decide) rfl rfl rfl rfl (by decide +kernel) rfl rfl (Nat.le_of_ble_eq_true rfl) f_X5_40 dX5_init_76 (q := 79) rfl ?_
  show TW Z mX5_init (sk_R 1 9 786) (sw_K Z 9 786 (fun M => ∃ q : Nat → Nat, M = swX5 Z.2.2.1 b q)) 8 642 79 [some (.ref b), none] [] [(b, .inr (5, [.int 0, .int 0, .int 0, .int 0, .int (-1), .int 0, .int 0, .int 1, .int 0, .int 0, .int 0, .int 0, .ref q1, .ref q2, .ref q3, .ref q4, .ref q5, .ref q6, .ref q7, .ref q8, .null])), (q1, .inl (Z.2.2.1 10, 6, .inl (fun _ => 0))), (q2, .inl (Z.2.2.1 10, 6, .inl (fun _ => 0))), (q3, .inl (Z.2.2.1 10, 6, .inl (fun _ => 0))), (q4, .inl (Z.2.2.1 10, 12, .inl (fun _ => 0))), (q5, .inl (Z.2.2.1 10, 12, .inl (fun _ => 0))), (q6, .inl (Z.2.2.1 10, 12, .inl (fun _ => 0))), (q7, .inl (Z.2.2.1 10, 108, .inl (fun _ => 0))), (q8, .inl (Z.2.2.1 10, 480, .inl (fun _ => 0)))]
  refine U.ald_0 (q := 80) dX5_init_79 rfl ?_
  refine U.sipush (q := 83) (144) dX5_init_80 rfl (by decide) ?_
  refine U.newa (ty := .long) (N' := 144) (a0 := (144, .inr (.inl (fun _ => 0)))) 1 rfl rfl (by decide) (fun C h => by cases h) ac_long (fun _ => rfl) (by decide) (by decide) (by decide) (Nat.le_of_ble_eq_true rfl) (Nat.le_of_ble_eq_true rfl) dX5_init_83 (q := 85) rfl (fun q9 => ?_)
  show TW Z mX5_init (sk_R 1 9 786) (sw_K Z 9 786 (fun M => ∃ q : Nat → Nat, M = swX5 Z.2.2.1 b q)) 9 786 85 [some (.ref b), none] [.ref q9, .ref b] [(b, .inr (5, [.int 0, .int 0, .int 0, .int 0, .int (-1), .int 0, .int 0, .int 1, .int 0, .int 0, .int 0, .int 0, .ref q1, .ref q2, .ref q3, .ref q4, .ref q5, .ref q6, .ref q7, .ref q8, .null])), (q1, .inl (Z.2.2.1 10, 6, .inl (fun _ => 0))), (q2, .inl (Z.2.2.1 10, 6, .inl (fun _ => 0))), (q3, .inl (Z.2.2.1 10, 6, .inl (fun _ => 0))), (q4, .inl (Z.2.2.1 10, 12, .inl (fun _ => 0))), (q5, .inl (Z.2.2.1 10, 12, .inl (fun _ => 0))), (q6, .inl (Z.2.2.1 10, 12, .inl (fun _ => 0))), (q7, .inl (Z.2.2.1 10, 108, .inl (fun _ => 0))), (q8, .inl (Z.2.2.1 10, 480, .inl (fun _ => 0))), (q9, .inl (Z.2.2.1 11, 144, .inr (.inl (fun _ => 0))))]
  refine U.putF (ci := 5) (C := RX5) (T := TX5) (N := 21) (ty := (.array .long)) tyX5 0 20 rfl sk_in5 tyX5_ok nmX5 rfl (by decide) rfl rfl rfl rfl (by decide +kernel) rfl rfl (Nat.le_of_ble_eq_true rfl) f_X5_43 dX5_init_85 (q := 88) rfl ?_
  show TW Z mX5_init (sk_R 1 9 786) (sw_K Z 9 786 (fun M => ∃ q : Nat → Nat, M = swX5 Z.2.2.1 b q)) 9 786 88 [some (.ref b), none] [] [(b, .inr (5, [.int 0, .int 0, .int 0, .int 0, .int (-1), .int 0, .int 0, .int 1, .int 0, .int 0, .int 0, .int 0, .ref q1, .ref q2, .ref q3, .ref q4, .ref q5, .ref q6, .ref q7, .ref q8, .ref q9])), (q1, .inl (Z.2.2.1 10, 6, .inl (fun _ => 0))), (q2, .inl (Z.2.2.1 10, 6, .inl (fun _ => 0))), (q3, .inl (Z.2.2.1 10, 6, .inl (fun _ => 0))), (q4, .inl (Z.2.2.1 10, 12, .inl (fun _ => 0))), (q5, .inl (Z.2.2.1 10, 12, .inl (fun _ => 0))), (q6, .inl (Z.2.2.1 10, 12, .inl (fun _ => 0))), (q7, .inl (Z.2.2.1 10, 108, .inl (fun _ => 0))), (q8, .inl (Z.2.2.1 10, 480, .inl (fun _ => 0))), (q9, .inl (Z.2.2.1 11, 144, .inr (.inl (fun _ => 0))))]
  have L2 : ∀ n i, i + n = 144 → TW Z mX5_init (sk_R 1 9 786) (sw_K Z 9 786 (fun M => ∃ q : Nat → Nat, M = swX5 Z.2.2.1 b q)) 9 786 132 [some (.ref b), some (.int (nI i))] [] [(b, .inr (5, [.int 0, .int 0, .int 0, .int 0, .int (-1), .int 0, .int 0, .int 1, .int 0, .int 0, .int 0, .int 0, .ref q1, .ref q2, .ref q3, .ref q4, .ref q5, .ref q6, .ref q7, .ref q8, .ref q9])), (q1, .inl (Z.2.2.1 10, 6, .inl (fun _ => 0))), (q2, .inl (Z.2.2.1 10, 6, .inl (fun _ => 0))), (q3, .inl (Z.2.2.1 10, 6, .inl (fun _ => 0))), (q4, .inl (Z.2.2.1 10, 12, .inl (fun _ => 0))), (q5, .inl (Z.2.2.1 10, 12, .inl (fun _ => 0))), (q6, .inl (Z.2.2.1 10, 12, .inl (fun _ => 0))), (q7, .inl (Z.2.2.1 10, 108, .inl (ckI 108))), (q8, .inl (Z.2.2.1 10, 480, .inl (fun _ => 0))), (q9, .inl (Z.2.2.1 11, 144, .inr (.inl (knI i))))] := by
    intro n
    induction n with
    | zero =>
      intro i hi
      obtain rfl : i = 144 := by omega
      refine U.ild_1 (q := 133) dX5_init_132 rfl ?_
      refine U.ald_0 (q := 134) dX5_init_133 rfl ?_
      refine U.get (ci := 5) (C := RX5) (T := TX5) (N := 21) (v := .ref q9) 0 20 rfl sk_in5 rfl (by decide) rfl rfl f_X5_43 dX5_init_134 (q := 137) rfl ?_
      refine U.alen (v := 144) 9 1 rfl rfl rfl dX5_init_137 (q := 138) rfl ?_
      refine U.ic_ge (tgt := 169) (q := 141) dX5_init_138 (by decide) rfl (fun _ => ?_) (fun h => absurd (by decide) h)
      exact U.vret rfl dX5_init_169 (Nat.le_of_ble_eq_true rfl) (Nat.le_of_ble_eq_true rfl) ⟨fun j => [0, q1, q2, q3, q4, q5, q6, q7, q8, q9].getD j 0, rfl⟩
    | succ n ih =>
      intro i hi
      have hi2 : i < 144 := by omega
      refine U.ild_1 (q := 133) dX5_init_132 rfl ?_
      refine U.ald_0 (q := 134) dX5_init_133 rfl ?_
      refine U.get (ci := 5) (C := RX5) (T := TX5) (N := 21) (v := .ref q9) 0 20 rfl sk_in5 rfl (by decide) rfl rfl f_X5_43 dX5_init_134 (q := 137) rfl ?_
      refine U.alen (v := 144) 9 1 rfl rfl rfl dX5_init_137 (q := 138) rfl ?_
      refine U.ic_ge (tgt := 169) (q := 141) dX5_init_138 (by decide) rfl (fun h => absurd h (nI_ge hi2 (by decide))) (fun _ => ?_)
      refine U.ald_0 (q := 142) dX5_init_141 rfl ?_
      refine U.get (ci := 5) (C := RX5) (T := TX5) (N := 21) (v := .ref q9) 0 20 rfl sk_in5 rfl (by decide) rfl rfl f_X5_43 dX5_init_142 (q := 145) rfl ?_
      refine U.ild_1 (q := 146) dX5_init_145 rfl ?_
      refine U.ild_1 (q := 147) dX5_init_146 rfl ?_
      refine U.iconst (q := 148) (4) dX5_init_147 rfl (by decide) ?_
      refine U.irem (q := 149) dX5_init_148 rfl (by decide) ?_
      refine U.iconst (q := 150) (3) dX5_init_149 rfl (by decide) ?_
      rw [kn_ar i hi2]
      have e : nI i + 1 = nI (i + 1) := nI_add i 1
      have tl : TW Z mX5_init (sk_R 1 9 786) (sw_K Z 9 786 (fun M => ∃ q : Nat → Nat, M = swX5 Z.2.2.1 b q)) 9 786 162 [some (.ref b), some (.int (nI i))] [.long (kMask (i % 4)), .int (nI i), .ref q9] [(b, .inr (5, [.int 0, .int 0, .int 0, .int 0, .int (-1), .int 0, .int 0, .int 1, .int 0, .int 0, .int 0, .int 0, .ref q1, .ref q2, .ref q3, .ref q4, .ref q5, .ref q6, .ref q7, .ref q8, .ref q9])), (q1, .inl (Z.2.2.1 10, 6, .inl (fun _ => 0))), (q2, .inl (Z.2.2.1 10, 6, .inl (fun _ => 0))), (q3, .inl (Z.2.2.1 10, 6, .inl (fun _ => 0))), (q4, .inl (Z.2.2.1 10, 12, .inl (fun _ => 0))), (q5, .inl (Z.2.2.1 10, 12, .inl (fun _ => 0))), (q6, .inl (Z.2.2.1 10, 12, .inl (fun _ => 0))), (q7, .inl (Z.2.2.1 10, 108, .inl (ckI 108))), (q8, .inl (Z.2.2.1 10, 480, .inl (fun _ => 0))), (q9, .inl (Z.2.2.1 11, 144, .inr (.inl (knI i))))] := by
        refine U.last 9 rfl (vp_in_nI hi2 (by decide)) dX5_init_162 (q := 163) rfl ?_
        rw [nI_clamp (show i < 2 ^ 31 by omega), knI_s]
        refine U.inc_1 (q := 166) (1) dX5_init_163 rfl (by decide) (by decide) sk_ok_r ?_
        rw [e]
        refine U.goto (tgt := 132) dX5_init_166 (by decide) ?_
        exact ih (i + 1) (by omega)
      refine U.ic_ne (tgt := 159) (q := 153) dX5_init_150 (by decide) rfl (fun h => ?_) (fun h => ?_)
      · refine U.ldc2 (q := 162) (-1) dX5_init_159 rfl w_X5_c49 ?_
        have : kMask (i % 4) = -1 := by unfold kMask; rw [if_neg (fun z => h (by rw [z]; rfl))]
        rw [this] at tl
        exact tl
      · refine U.ldc2 (q := 156) (16777215) dX5_init_153 rfl w_X5_c47 ?_
        refine U.goto (tgt := 162) dX5_init_156 (by decide) ?_
        have h3 : i % 4 = 3 := by
          have h9 : nI (i % 4) = nI 3 := h
          exact (nI_eq (by omega) (by decide)).mp h9
        have : kMask (i % 4) = 16777215 := by unfold kMask; rw [if_pos h3]
        rw [this] at tl
        exact tl
  have L1 : ∀ n i, i + n = 108 → TW Z mX5_init (sk_R 1 9 786) (sw_K Z 9 786 (fun M => ∃ q : Nat → Nat, M = swX5 Z.2.2.1 b q)) 9 786 90 [some (.ref b), some (.int (nI i))] [] [(b, .inr (5, [.int 0, .int 0, .int 0, .int 0, .int (-1), .int 0, .int 0, .int 1, .int 0, .int 0, .int 0, .int 0, .ref q1, .ref q2, .ref q3, .ref q4, .ref q5, .ref q6, .ref q7, .ref q8, .ref q9])), (q1, .inl (Z.2.2.1 10, 6, .inl (fun _ => 0))), (q2, .inl (Z.2.2.1 10, 6, .inl (fun _ => 0))), (q3, .inl (Z.2.2.1 10, 6, .inl (fun _ => 0))), (q4, .inl (Z.2.2.1 10, 12, .inl (fun _ => 0))), (q5, .inl (Z.2.2.1 10, 12, .inl (fun _ => 0))), (q6, .inl (Z.2.2.1 10, 12, .inl (fun _ => 0))), (q7, .inl (Z.2.2.1 10, 108, .inl (ckI i))), (q8, .inl (Z.2.2.1 10, 480, .inl (fun _ => 0))), (q9, .inl (Z.2.2.1 11, 144, .inr (.inl (fun _ => 0))))] := by
    intro n
    induction n with
    | zero =>
      intro i hi
      obtain rfl : i = 108 := by omega
      refine U.ild_1 (q := 91) dX5_init_90 rfl ?_
      refine U.ald_0 (q := 92) dX5_init_91 rfl ?_
      refine U.get (ci := 5) (C := RX5) (T := TX5) (N := 21) (v := .ref q7) 0 18 rfl sk_in5 rfl (by decide) rfl rfl f_X5_37 dX5_init_92 (q := 95) rfl ?_
      refine U.alen (v := 108) 7 0 rfl rfl rfl dX5_init_95 (q := 96) rfl ?_
      refine U.ic_ge (tgt := 130) (q := 99) dX5_init_96 (by decide) rfl (fun _ => ?_) (fun h => absurd (by decide) h)
      refine U.iconst (q := 131) (0) dX5_init_130 rfl (by decide) ?_
      refine U.ist_1 (q := 132) dX5_init_131 rfl (by decide) sk_ok_r ?_
      have l2 := L2 144 0 rfl
      rw [knI_0] at l2
      exact l2
    | succ n ih =>
      intro i hi
      have hi2 : i < 108 := by omega
      refine U.ild_1 (q := 91) dX5_init_90 rfl ?_
      refine U.ald_0 (q := 92) dX5_init_91 rfl ?_
      refine U.get (ci := 5) (C := RX5) (T := TX5) (N := 21) (v := .ref q7) 0 18 rfl sk_in5 rfl (by decide) rfl rfl f_X5_37 dX5_init_92 (q := 95) rfl ?_
      refine U.alen (v := 108) 7 0 rfl rfl rfl dX5_init_95 (q := 96) rfl ?_
      refine U.ic_ge (tgt := 130) (q := 99) dX5_init_96 (by decide) rfl (fun h => absurd h (nI_ge hi2 (by decide))) (fun _ => ?_)
      refine U.ald_0 (q := 100) dX5_init_99 rfl ?_
      refine U.get (ci := 5) (C := RX5) (T := TX5) (N := 21) (v := .ref q7) 0 18 rfl sk_in5 rfl (by decide) rfl rfl f_X5_37 dX5_init_100 (q := 103) rfl ?_
      refine U.ild_1 (q := 104) dX5_init_103 rfl ?_
      refine U.ild_1 (q := 105) dX5_init_104 rfl ?_
      refine U.bipush (q := 107) (36) dX5_init_105 rfl (by decide) ?_
      refine U.irem (q := 108) dX5_init_107 rfl (by decide) ?_
      refine U.bipush (q := 110) (6) dX5_init_108 rfl (by decide) ?_
      refine U.idiv (q := 111) dX5_init_110 rfl (by decide) ?_
      refine U.ild_1 (q := 112) dX5_init_111 rfl ?_
      refine U.bipush (q := 114) (6) dX5_init_112 rfl (by decide) ?_
      refine U.irem (q := 115) dX5_init_114 rfl (by decide) ?_
      rw [(ck_ar i hi2).1, (ck_ar i hi2).2]
      have e : nI i + 1 = nI (i + 1) := nI_add i 1
      have tl : TW Z mX5_init (sk_R 1 9 786) (sw_K Z 9 786 (fun M => ∃ q : Nat → Nat, M = swX5 Z.2.2.1 b q)) 9 786 123 [some (.ref b), some (.int (nI i))] [.int (if i % 36 / 6 = i % 6 then 1 else 0), .int (nI i), .ref q7] [(b, .inr (5, [.int 0, .int 0, .int 0, .int 0, .int (-1), .int 0, .int 0, .int 1, .int 0, .int 0, .int 0, .int 0, .ref q1, .ref q2, .ref q3, .ref q4, .ref q5, .ref q6, .ref q7, .ref q8, .ref q9])), (q1, .inl (Z.2.2.1 10, 6, .inl (fun _ => 0))), (q2, .inl (Z.2.2.1 10, 6, .inl (fun _ => 0))), (q3, .inl (Z.2.2.1 10, 6, .inl (fun _ => 0))), (q4, .inl (Z.2.2.1 10, 12, .inl (fun _ => 0))), (q5, .inl (Z.2.2.1 10, 12, .inl (fun _ => 0))), (q6, .inl (Z.2.2.1 10, 12, .inl (fun _ => 0))), (q7, .inl (Z.2.2.1 10, 108, .inl (ckI i))), (q8, .inl (Z.2.2.1 10, 480, .inl (fun _ => 0))), (q9, .inl (Z.2.2.1 11, 144, .inr (.inl (fun _ => 0))))] := by
        refine U.iast 7 rfl (vp_in_nI hi2 (by decide)) dX5_init_123 (q := 124) rfl ?_
        rw [nI_clamp (show i < 2 ^ 31 by omega), ckI_s]
        refine U.inc_1 (q := 127) (1) dX5_init_124 rfl (by decide) (by decide) sk_ok_r ?_
        rw [e]
        refine U.goto (tgt := 90) dX5_init_127 (by decide) ?_
        exact ih (i + 1) (by omega)
      refine U.ic_ne (tgt := 122) (q := 118) dX5_init_115 (by decide) rfl (fun h => ?_) (fun h => ?_)
      · refine U.iconst (q := 123) (0) dX5_init_122 rfl (by decide) ?_
        rw [if_neg (fun z => h (by rw [z]))] at tl
        exact tl
      · refine U.iconst (q := 119) (1) dX5_init_118 rfl (by decide) ?_
        refine U.goto (tgt := 123) dX5_init_119 (by decide) ?_
        rw [if_pos ((nI_eq (by omega) (by omega)).mp h)] at tl
        exact tl
  refine U.iconst (q := 89) (0) dX5_init_88 rfl (by decide) ?_
  refine U.ist_1 (q := 90) dX5_init_89 rfl (by decide) sk_ok_r ?_
  have l1 := L1 108 0 rfl
  rw [ckI_0] at l1
  exact l1
