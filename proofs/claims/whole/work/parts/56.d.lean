/-! constructors: Memory, SafeKnown -/
def swL (cA : Nat → ClassId) (hs : Nat → Nat) (qs : Nat → Nat → Nat) : Nat → va_W
  | 0 => []
  | n + 1 => swL cA hs qs n ++ swX5 cA (hs n) (qs n)
theorem swL_cg {cA : Nat → ClassId} {hs hs' : Nat → Nat} {qs qs' : Nat → Nat → Nat} : ∀ n, (∀ k, k < n → hs k = hs' k ∧ qs k = qs' k) → swL cA hs qs n = swL cA hs' qs' n
  | 0, _ => rfl
  | n + 1, h => by
    show swL cA hs qs n ++ swX5 cA (hs n) (qs n) = swL cA hs' qs' n ++ swX5 cA (hs' n) (qs' n)
    rw [swL_cg n (fun k hk => h k (by omega)), (h n (by omega)).1, (h n (by omega)).2]
def rfI (hs : Nat → Nat) (i : Nat) : Nat → Option Nat := fun k => if k < i then some (hs k) else none
def swX3 (cA : Nat → ClassId) (b a : Nat) (hs : Nat → Nat) (qs : Nat → Nat → Nat) : va_W := (b, .inr (3, [.ref a, .int 0, .int 0])) :: (a, .inl (cA 14, 10, .inr (.inr (.inr (.inr (rfI hs 10)))))) :: swL cA hs qs 10
theorem ti_X3 {Z : sw_Z} {b : Nat} : CtrI Z mX3_init 2 101 8080 [.ref b] [(b, .inr (3, [.null, .int 0, .int 0]))] (fun M => ∃ (a : Nat) (hs : Nat → Nat) (qs : Nat → Nat → Nat), M = swX3 Z.2.2.1 b a hs qs) := by
  refine CtrI.of 1 (by decide) (Nat.le_of_ble_eq_true rfl) ?_
  show TW Z mX3_init (sk_R 2 101 8080) (sw_K Z 101 8080 (fun M => ∃ (a : Nat) (hs : Nat → Nat) (qs : Nat → Nat → Nat), M = swX3 Z.2.2.1 b a hs qs)) 0 0 0 [some (.ref b), none] [] [(b, .inr (3, [.null, .int 0, .int 0]))]
  refine U.ald_0 (q := 1) dX3_init_0 rfl ?_
  refine U.objI oi_X3 dX3_init_1 (q := 4) rfl (Nat.le_of_ble_eq_true rfl) (Nat.le_of_ble_eq_true rfl) ?_
  refine U.ald_0 (q := 5) dX3_init_4 rfl ?_
  refine U.bipush (q := 7) (10) dX3_init_5 rfl (by decide) ?_
  refine U.newq (N' := 10) cl_X3_9 (by decide) (by decide) (by decide) (Nat.le_of_ble_eq_true rfl) (Nat.le_of_ble_eq_true rfl) dX3_init_7 (q := 10) rfl (fun a => ?_)
  show TW Z mX3_init (sk_R 2 101 8080) (sw_K Z 101 8080 (fun M => ∃ (a : Nat) (hs : Nat → Nat) (qs : Nat → Nat → Nat), M = swX3 Z.2.2.1 b a hs qs)) 1 10 10 [some (.ref b), none] [.ref a, .ref b] [(b, .inr (3, [.null, .int 0, .int 0])), (a, .inl (Z.2.2.1 14, 10, .inr (.inr (.inr (.inr (fun _ => none))))))]
  refine U.putF (ci := 3) (C := RX3) (T := TX3) (N := 3) (ty := .array (.object "SafeKnown$State")) tyX3 0 0 rfl sk_in3 tyX3_ok nmX3 rfl (by decide) rfl rfl rfl rfl (by decide +kernel) rfl rfl (Nat.le_of_ble_eq_true rfl) f_X3_11 dX3_init_10 (q := 13) rfl ?_
  show TW Z mX3_init (sk_R 2 101 8080) (sw_K Z 101 8080 (fun M => ∃ (a : Nat) (hs : Nat → Nat) (qs : Nat → Nat → Nat), M = swX3 Z.2.2.1 b a hs qs)) 1 10 13 [some (.ref b), none] [] [(b, .inr (3, [.ref a, .int 0, .int 0])), (a, .inl (Z.2.2.1 14, 10, .inr (.inr (.inr (.inr (fun _ => none))))))]
  refine U.iconst (q := 14) (0) dX3_init_13 rfl (by decide) ?_
  refine U.ist_1 (q := 15) dX3_init_14 rfl (by decide) sk_ok_r ?_
  have L : ∀ n i (hs : Nat → Nat) (qs : Nat → Nat → Nat), i + n = 10 → TW Z mX3_init (sk_R 2 101 8080) (sw_K Z 101 8080 (fun M => ∃ (a : Nat) (hs : Nat → Nat) (qs : Nat → Nat → Nat), M = swX3 Z.2.2.1 b a hs qs)) (1 + 10 * i) (10 + 807 * i) 15 [some (.ref b), some (.int (nI i))] [] ((b, .inr (3, [.ref a, .int 0, .int 0])) :: (a, .inl (Z.2.2.1 14, 10, .inr (.inr (.inr (.inr (rfI hs i)))))) :: swL Z.2.2.1 hs qs i) := by
    intro n
    induction n with
    | zero =>
      intro i hs qs hi
      obtain rfl : i = 10 := by omega
      refine U.ild_1 (q := 16) dX3_init_15 rfl ?_
      refine U.bipush (q := 18) (10) dX3_init_16 rfl (by decide) ?_
      refine U.ic_ge (tgt := 40) (q := 21) dX3_init_18 (by decide) rfl (fun _ => ?_) (fun h => absurd (by decide) h)
      exact U.vret rfl dX3_init_40 (by decide) (by decide) ⟨a, hs, qs, rfl⟩
    | succ n ih =>
      intro i hs qs hi
      have hi2 : i < 10 := by omega
      refine U.ild_1 (q := 16) dX3_init_15 rfl ?_
      refine U.bipush (q := 18) (10) dX3_init_16 rfl (by decide) ?_
      refine U.ic_ge (tgt := 40) (q := 21) dX3_init_18 (by decide) rfl (fun h => absurd h (nI_ge hi2 (by decide))) (fun _ => ?_)
      refine U.ald_0 (q := 22) dX3_init_21 rfl ?_
      refine U.get (ci := 3) (C := RX3) (T := TX3) (N := 3) (v := .ref a) 0 0 rfl sk_in3 rfl (by decide) rfl rfl f_X3_11 dX3_init_22 (q := 25) rfl ?_
      refine U.ild_1 (q := 26) dX3_init_25 rfl ?_
      refine U.new (ci := 5) (C := RX5) (T := TX5) (N := 21) (fs := [.int 0, .int 0, .int 0, .int 0, .int 0, .int 0, .int 0, .int 0, .int 0, .int 0, .int 0, .int 0, .null, .null, .null, .null, .null, .null, .null, .null, .null]) tyX5 rfl sk_in5 tyX5_ok nw_X3_9 dv_X5 (show 1 + 10 * i + 1 ≤ 101 by omega) (show 10 + 807 * i + 21 ≤ 8080 by omega) dX3_init_26 (q := 29) rfl (fun a5 => ?_)
      refine U.dup (q := 30) dX3_init_29 rfl rfl ?_
      refine U.cI (As := []) (rest := [.ref a5, .int (nI i), .ref a]) ti_X5 rfl wi_X3_15 cw_X5_init np_X5_init rfl (Nat.le_of_ble_eq_true rfl) (Nat.le_of_ble_eq_true rfl) (show 1 + 10 * i + 1 + 9 ≤ 101 by omega) (show 10 + 807 * i + 21 + 786 ≤ 8080 by omega) rfl (Nat.le_of_ble_eq_true rfl) dX3_init_30 (q := 33) rfl (fun w1 hp => ?_)
      obtain ⟨q5, rfl⟩ := hp
      refine U.astq (v := a5) 1 ((b, .inr (3, [.ref a, .int 0, .int 0])) :: (a, .inl (Z.2.2.1 14, 10, .inr (.inr (.inr (.inr (rfI hs i)))))) :: swL Z.2.2.1 hs qs i).length rfl (by rw [List.getElem?_append_right (Nat.le_refl _), Nat.sub_self]; rfl) (vp_in_nI hi2 (by decide)) dX3_init_33 (q := 34) rfl ?_
      show TW Z mX3_init (sk_R 2 101 8080) (sw_K Z 101 8080 (fun M => ∃ (a : Nat) (hs : Nat → Nat) (qs : Nat → Nat → Nat), M = swX3 Z.2.2.1 b a hs qs)) (1 + 10 * i + 1 + 9) (10 + 807 * i + 21 + 786) 34 [some (.ref b), some (.int (nI i))] [] ((b, .inr (3, [.ref a, .int 0, .int 0])) :: (a, .inl (Z.2.2.1 14, 10, .inr (.inr (.inr (.inr (va_up (rfI hs i) (nI i).toNatClampNeg (some a5))))))) :: (swL Z.2.2.1 hs qs i ++ swX5 Z.2.2.1 a5 q5))
      have e : nI i + 1 = nI (i + 1) := nI_add i 1
      have e1 : va_up (rfI hs i) (nI i).toNatClampNeg (some a5) = rfI (fun k => if k = i then a5 else hs k) (i + 1) := by
        rw [nI_clamp (show i < 2 ^ 31 by omega)]
        funext k
        show (if k = i then some a5 else if k < i then some (hs k) else none) = if k < i + 1 then some (if k = i then a5 else hs k) else none
        by_cases z : k = i
        · rw [if_pos z, if_pos (by omega), if_pos z]
        · rw [if_neg z, if_neg z]
          by_cases y : k < i
          · rw [if_pos y, if_pos (by omega)]
          · rw [if_neg y, if_neg (by omega)]
      have e2 : swL Z.2.2.1 hs qs i ++ swX5 Z.2.2.1 a5 q5 = swL Z.2.2.1 (fun k => if k = i then a5 else hs k) (fun k => if k = i then q5 else qs k) (i + 1) := by
        show _ = swL Z.2.2.1 (fun k => if k = i then a5 else hs k) (fun k => if k = i then q5 else qs k) i ++ swX5 Z.2.2.1 (if i = i then a5 else hs i) (if i = i then q5 else qs i)
        rw [if_pos rfl, if_pos rfl]
        have cg := swL_cg (cA := Z.2.2.1) (hs := hs) (hs' := fun k => if k = i then a5 else hs k) (qs := qs) (qs' := fun k => if k = i then q5 else qs k) i (fun k hk => ⟨by show hs k = if k = i then a5 else hs k; rw [if_neg (by omega)], by show qs k = if k = i then q5 else qs k; rw [if_neg (by omega)]⟩)
        rw [cg]
      rw [e1, e2]
      refine U.inc_1 (q := 37) (1) dX3_init_34 rfl (by decide) (by decide) sk_ok_r ?_
      rw [e]
      refine U.goto (tgt := 15) dX3_init_37 (by decide) ?_
      exact TW.wide (by omega) (by omega) (ih (i + 1) _ _ (by omega))
  have l := L 10 0 (fun _ => 0) (fun _ _ => 0) rfl
  have e0 : rfI (fun _ => 0) 0 = fun _ => none := by funext k; unfold rfI; rw [if_neg (by omega)]
  rw [e0] at l
  exact l
def swX7 (cA : Nat → ClassId) (b : Nat) (p : Nat → Nat) (q : Nat → Nat → Nat) (a : Nat) (hs : Nat → Nat) (qs : Nat → Nat → Nat) : va_W := [(b, .inr (7, [.ref (p 1), .ref (p 2), .ref (p 3), .ref (p 4), .ref (p 5), .ref (p 6), .ref (p 7), .ref (p 8), .int 0]))] ++ swX6 cA (p 1) (q 1) ++ swX5 cA (p 2) (q 2) ++ swX5 cA (p 3) (q 3) ++ swX3 cA (p 4) a hs qs ++ swX0 cA (p 5) (p 1) (p 2) (q 5) ++ swX1 cA (p 6) (p 1) (q 6) ++ swX4 cA (p 7) (p 2) (q 7) ++ swX2 cA (p 8) (q 8)
theorem ti_X7 {Z : sw_Z} {b : Nat} : CtrI Z mX7_init 3 139 19296 [.ref b] [(b, .inr (7, [.null, .null, .null, .null, .null, .null, .null, .null, .int 0]))] (fun M => ∃ (p : Nat → Nat) (q : Nat → Nat → Nat) (a : Nat) (hs : Nat → Nat) (qs : Nat → Nat → Nat), M = swX7 Z.2.2.1 b p q a hs qs) := by
  refine CtrI.of 0 (by decide) (Nat.le_of_ble_eq_true rfl) ?_
  show TW Z mX7_init (sk_R 3 139 19296) (sw_K Z 139 19296 (fun M => ∃ (p : Nat → Nat) (q : Nat → Nat → Nat) (a : Nat) (hs : Nat → Nat) (qs : Nat → Nat → Nat), M = swX7 Z.2.2.1 b p q a hs qs)) 0 0 0 [some (.ref b)] [] ([(b, .inr (7, [.null, .null, .null, .null, .null, .null, .null, .null, .int 0]))])
  refine U.ald_0 (q := 1) dX7_init_0 rfl ?_
  refine U.objI oi_X7 dX7_init_1 (q := 4) rfl (Nat.le_of_ble_eq_true rfl) (Nat.le_of_ble_eq_true rfl) ?_
  refine U.ald_0 (q := 5) dX7_init_4 rfl ?_
  refine U.new (ci := 6) (C := RX6) (T := TX6) (N := 6) (fs := [.null, .int 0, .int 0, .int 0, .int 0, .int 0]) tyX6 rfl sk_in6 tyX6_ok nw_X7_7 dv_X6 (Nat.le_of_ble_eq_true rfl) (Nat.le_of_ble_eq_true rfl) dX7_init_5 (q := 8) rfl (fun p1 => ?_)
  refine U.dup (q := 9) dX7_init_8 rfl rfl ?_
  refine U.cI (Z := Z) (X := mX7_init) (As := []) (rest := [.ref p1, .ref b]) ti_X6 rfl wi_X7_9 cw_X6_init np_X6_init rfl (Nat.le_of_ble_eq_true rfl) (Nat.le_of_ble_eq_true rfl) (Nat.le_of_ble_eq_true rfl) (Nat.le_of_ble_eq_true rfl) rfl (Nat.le_of_ble_eq_true rfl) dX7_init_9 (q := 12) rfl (fun w1 hp => ?_)
  obtain ⟨q1, rfl⟩ := hp
  show TW Z mX7_init (sk_R 3 139 19296) (sw_K Z 139 19296 (fun M => ∃ (p : Nat → Nat) (q : Nat → Nat → Nat) (a : Nat) (hs : Nat → Nat) (qs : Nat → Nat → Nat), M = swX7 Z.2.2.1 b p q a hs qs)) 2 406 12 [some (.ref b)] [.ref p1, .ref b] ([(b, .inr (7, [.null, .null, .null, .null, .null, .null, .null, .null, .int 0]))] ++ swX6 Z.2.2.1 p1 q1)
  refine U.putF (ci := 7) (C := RX7) (T := TX7) (N := 9) (ty := .object "SafeKnown$Tape") (fs := [.null, .null, .null, .null, .null, .null, .null, .null, .int 0]) tyX7 0 0 rfl sk_in7 tyX7_ok nmX7 rfl (by decide) rfl rfl rfl rfl (by decide +kernel) rfl rfl (Nat.le_of_ble_eq_true rfl) f_X7_10 dX7_init_12 (q := 15) rfl ?_
  show TW Z mX7_init (sk_R 3 139 19296) (sw_K Z 139 19296 (fun M => ∃ (p : Nat → Nat) (q : Nat → Nat → Nat) (a : Nat) (hs : Nat → Nat) (qs : Nat → Nat → Nat), M = swX7 Z.2.2.1 b p q a hs qs)) 2 406 15 [some (.ref b)] [] ([(b, .inr (7, [.ref p1, .null, .null, .null, .null, .null, .null, .null, .int 0]))] ++ swX6 Z.2.2.1 p1 q1)
  refine U.ald_0 (q := 16) dX7_init_15 rfl ?_
  refine U.new (ci := 5) (C := RX5) (T := TX5) (N := 21) (fs := [.int 0, .int 0, .int 0, .int 0, .int 0, .int 0, .int 0, .int 0, .int 0, .int 0, .int 0, .int 0, .null, .null, .null, .null, .null, .null, .null, .null, .null]) tyX5 rfl sk_in5 tyX5_ok nw_X7_16 dv_X5 (Nat.le_of_ble_eq_true rfl) (Nat.le_of_ble_eq_true rfl) dX7_init_16 (q := 19) rfl (fun p2 => ?_)
  refine U.dup (q := 20) dX7_init_19 rfl rfl ?_
  refine U.cI (Z := Z) (X := mX7_init) (As := []) (rest := [.ref p2, .ref b]) ti_X5 rfl wi_X7_18 cw_X5_init np_X5_init rfl (Nat.le_of_ble_eq_true rfl) (Nat.le_of_ble_eq_true rfl) (Nat.le_of_ble_eq_true rfl) (Nat.le_of_ble_eq_true rfl) rfl (Nat.le_of_ble_eq_true rfl) dX7_init_20 (q := 23) rfl (fun w2 hp => ?_)
  obtain ⟨q2, rfl⟩ := hp
  show TW Z mX7_init (sk_R 3 139 19296) (sw_K Z 139 19296 (fun M => ∃ (p : Nat → Nat) (q : Nat → Nat → Nat) (a : Nat) (hs : Nat → Nat) (qs : Nat → Nat → Nat), M = swX7 Z.2.2.1 b p q a hs qs)) 12 1213 23 [some (.ref b)] [.ref p2, .ref b] ([(b, .inr (7, [.ref p1, .null, .null, .null, .null, .null, .null, .null, .int 0]))] ++ swX6 Z.2.2.1 p1 q1 ++ swX5 Z.2.2.1 p2 q2)
  refine U.putF (ci := 7) (C := RX7) (T := TX7) (N := 9) (ty := .object "SafeKnown$State") (fs := [.ref p1, .null, .null, .null, .null, .null, .null, .null, .int 0]) tyX7 0 1 rfl sk_in7 tyX7_ok nmX7 rfl (by decide) rfl rfl rfl rfl (by decide +kernel) rfl rfl (Nat.le_of_ble_eq_true rfl) f_X7_19 dX7_init_23 (q := 26) rfl ?_
  show TW Z mX7_init (sk_R 3 139 19296) (sw_K Z 139 19296 (fun M => ∃ (p : Nat → Nat) (q : Nat → Nat → Nat) (a : Nat) (hs : Nat → Nat) (qs : Nat → Nat → Nat), M = swX7 Z.2.2.1 b p q a hs qs)) 12 1213 26 [some (.ref b)] [] ([(b, .inr (7, [.ref p1, .ref p2, .null, .null, .null, .null, .null, .null, .int 0]))] ++ swX6 Z.2.2.1 p1 q1 ++ swX5 Z.2.2.1 p2 q2)
  refine U.ald_0 (q := 27) dX7_init_26 rfl ?_
  refine U.new (ci := 5) (C := RX5) (T := TX5) (N := 21) (fs := [.int 0, .int 0, .int 0, .int 0, .int 0, .int 0, .int 0, .int 0, .int 0, .int 0, .int 0, .int 0, .null, .null, .null, .null, .null, .null, .null, .null, .null]) tyX5 rfl sk_in5 tyX5_ok nw_X7_16 dv_X5 (Nat.le_of_ble_eq_true rfl) (Nat.le_of_ble_eq_true rfl) dX7_init_27 (q := 30) rfl (fun p3 => ?_)
  refine U.dup (q := 31) dX7_init_30 rfl rfl ?_
  refine U.cI (Z := Z) (X := mX7_init) (As := []) (rest := [.ref p3, .ref b]) ti_X5 rfl wi_X7_18 cw_X5_init np_X5_init rfl (Nat.le_of_ble_eq_true rfl) (Nat.le_of_ble_eq_true rfl) (Nat.le_of_ble_eq_true rfl) (Nat.le_of_ble_eq_true rfl) rfl (Nat.le_of_ble_eq_true rfl) dX7_init_31 (q := 34) rfl (fun w3 hp => ?_)
  obtain ⟨q3, rfl⟩ := hp
  show TW Z mX7_init (sk_R 3 139 19296) (sw_K Z 139 19296 (fun M => ∃ (p : Nat → Nat) (q : Nat → Nat → Nat) (a : Nat) (hs : Nat → Nat) (qs : Nat → Nat → Nat), M = swX7 Z.2.2.1 b p q a hs qs)) 22 2020 34 [some (.ref b)] [.ref p3, .ref b] ([(b, .inr (7, [.ref p1, .ref p2, .null, .null, .null, .null, .null, .null, .int 0]))] ++ swX6 Z.2.2.1 p1 q1 ++ swX5 Z.2.2.1 p2 q2 ++ swX5 Z.2.2.1 p3 q3)
  refine U.putF (ci := 7) (C := RX7) (T := TX7) (N := 9) (ty := .object "SafeKnown$State") (fs := [.ref p1, .ref p2, .null, .null, .null, .null, .null, .null, .int 0]) tyX7 0 2 rfl sk_in7 tyX7_ok nmX7 rfl (by decide) rfl rfl rfl rfl (by decide +kernel) rfl rfl (Nat.le_of_ble_eq_true rfl) f_X7_23 dX7_init_34 (q := 37) rfl ?_
  show TW Z mX7_init (sk_R 3 139 19296) (sw_K Z 139 19296 (fun M => ∃ (p : Nat → Nat) (q : Nat → Nat → Nat) (a : Nat) (hs : Nat → Nat) (qs : Nat → Nat → Nat), M = swX7 Z.2.2.1 b p q a hs qs)) 22 2020 37 [some (.ref b)] [] ([(b, .inr (7, [.ref p1, .ref p2, .ref p3, .null, .null, .null, .null, .null, .int 0]))] ++ swX6 Z.2.2.1 p1 q1 ++ swX5 Z.2.2.1 p2 q2 ++ swX5 Z.2.2.1 p3 q3)
  refine U.ald_0 (q := 38) dX7_init_37 rfl ?_
  refine U.new (ci := 3) (C := RX3) (T := TX3) (N := 3) (fs := [.null, .int 0, .int 0]) tyX3 rfl sk_in3 tyX3_ok nw_X7_26 dv_X3 (Nat.le_of_ble_eq_true rfl) (Nat.le_of_ble_eq_true rfl) dX7_init_38 (q := 41) rfl (fun p4 => ?_)
  refine U.dup (q := 42) dX7_init_41 rfl rfl ?_
  refine U.cI (Z := Z) (X := mX7_init) (As := []) (rest := [.ref p4, .ref b]) ti_X3 rfl wi_X7_28 cw_X3_init np_X3_init rfl (Nat.le_of_ble_eq_true rfl) (Nat.le_of_ble_eq_true rfl) (Nat.le_of_ble_eq_true rfl) (Nat.le_of_ble_eq_true rfl) rfl (Nat.le_of_ble_eq_true rfl) dX7_init_42 (q := 45) rfl (fun w4 hp => ?_)
  obtain ⟨a, hs, qs, rfl⟩ := hp
  show TW Z mX7_init (sk_R 3 139 19296) (sw_K Z 139 19296 (fun M => ∃ (p : Nat → Nat) (q : Nat → Nat → Nat) (a : Nat) (hs : Nat → Nat) (qs : Nat → Nat → Nat), M = swX7 Z.2.2.1 b p q a hs qs)) 124 10103 45 [some (.ref b)] [.ref p4, .ref b] ([(b, .inr (7, [.ref p1, .ref p2, .ref p3, .null, .null, .null, .null, .null, .int 0]))] ++ swX6 Z.2.2.1 p1 q1 ++ swX5 Z.2.2.1 p2 q2 ++ swX5 Z.2.2.1 p3 q3 ++ swX3 Z.2.2.1 p4 a hs qs)
  refine U.putF (ci := 7) (C := RX7) (T := TX7) (N := 9) (ty := .object "SafeKnown$Memory") (fs := [.ref p1, .ref p2, .ref p3, .null, .null, .null, .null, .null, .int 0]) tyX7 0 3 rfl sk_in7 tyX7_ok nmX7 rfl (by decide) rfl rfl rfl rfl (by decide +kernel) rfl rfl (Nat.le_of_ble_eq_true rfl) f_X7_29 dX7_init_45 (q := 48) rfl ?_
  show TW Z mX7_init (sk_R 3 139 19296) (sw_K Z 139 19296 (fun M => ∃ (p : Nat → Nat) (q : Nat → Nat → Nat) (a : Nat) (hs : Nat → Nat) (qs : Nat → Nat → Nat), M = swX7 Z.2.2.1 b p q a hs qs)) 124 10103 48 [some (.ref b)] [] ([(b, .inr (7, [.ref p1, .ref p2, .ref p3, .ref p4, .null, .null, .null, .null, .int 0]))] ++ swX6 Z.2.2.1 p1 q1 ++ swX5 Z.2.2.1 p2 q2 ++ swX5 Z.2.2.1 p3 q3 ++ swX3 Z.2.2.1 p4 a hs qs)
  refine U.ald_0 (q := 49) dX7_init_48 rfl ?_
  refine U.new (ci := 0) (C := RX0) (T := TX0) (N := 6) (fs := [.null, .null, .int 0, .int 0, .int 0, .int 0]) tyX0 rfl sk_in0 tyX0_ok nw_X7_33 dv_X0 (Nat.le_of_ble_eq_true rfl) (Nat.le_of_ble_eq_true rfl) dX7_init_49 (q := 52) rfl (fun p5 => ?_)
  refine U.dup (q := 53) dX7_init_52 rfl rfl ?_
  refine U.ald_0 (q := 54) dX7_init_53 rfl ?_
  refine U.get (ci := 7) (C := RX7) (T := TX7) (N := 9) (v := .ref p1) 0 0 rfl sk_in7 rfl (by decide) rfl rfl f_X7_10 dX7_init_54 (q := 57) rfl ?_
  refine U.ald_0 (q := 58) dX7_init_57 rfl ?_
  refine U.get (ci := 7) (C := RX7) (T := TX7) (N := 9) (v := .ref p2) 0 1 rfl sk_in7 rfl (by decide) rfl rfl f_X7_19 dX7_init_58 (q := 61) rfl ?_
  refine U.cI (Z := Z) (X := mX7_init) (As := [.ref p1, .ref p2]) (rest := [.ref p5, .ref b]) ti_X0 rfl wi_X7_35 cw_X0_init np_X0_init rfl (Nat.le_of_ble_eq_true rfl) (Nat.le_of_ble_eq_true rfl) (Nat.le_of_ble_eq_true rfl) (Nat.le_of_ble_eq_true rfl) rfl (Nat.le_of_ble_eq_true rfl) dX7_init_61 (q := 64) rfl (fun w5 hp => ?_)
  obtain ⟨q5, rfl⟩ := hp
  show TW Z mX7_init (sk_R 3 139 19296) (sw_K Z 139 19296 (fun M => ∃ (p : Nat → Nat) (q : Nat → Nat → Nat) (a : Nat) (hs : Nat → Nat) (qs : Nat → Nat → Nat), M = swX7 Z.2.2.1 b p q a hs qs)) 125 10109 64 [some (.ref b)] [.ref p5, .ref b] ([(b, .inr (7, [.ref p1, .ref p2, .ref p3, .ref p4, .null, .null, .null, .null, .int 0]))] ++ swX6 Z.2.2.1 p1 q1 ++ swX5 Z.2.2.1 p2 q2 ++ swX5 Z.2.2.1 p3 q3 ++ swX3 Z.2.2.1 p4 a hs qs ++ swX0 Z.2.2.1 p5 p1 p2 q5)
  refine U.putF (ci := 7) (C := RX7) (T := TX7) (N := 9) (ty := .object "SafeKnown$BankReader") (fs := [.ref p1, .ref p2, .ref p3, .ref p4, .null, .null, .null, .null, .int 0]) tyX7 0 4 rfl sk_in7 tyX7_ok nmX7 rfl (by decide) rfl rfl rfl rfl (by decide +kernel) rfl rfl (Nat.le_of_ble_eq_true rfl) f_X7_38 dX7_init_64 (q := 67) rfl ?_
  show TW Z mX7_init (sk_R 3 139 19296) (sw_K Z 139 19296 (fun M => ∃ (p : Nat → Nat) (q : Nat → Nat → Nat) (a : Nat) (hs : Nat → Nat) (qs : Nat → Nat → Nat), M = swX7 Z.2.2.1 b p q a hs qs)) 125 10109 67 [some (.ref b)] [] ([(b, .inr (7, [.ref p1, .ref p2, .ref p3, .ref p4, .ref p5, .null, .null, .null, .int 0]))] ++ swX6 Z.2.2.1 p1 q1 ++ swX5 Z.2.2.1 p2 q2 ++ swX5 Z.2.2.1 p3 q3 ++ swX3 Z.2.2.1 p4 a hs qs ++ swX0 Z.2.2.1 p5 p1 p2 q5)
  refine U.ald_0 (q := 68) dX7_init_67 rfl ?_
  refine U.new (ci := 1) (C := RX1) (T := TX1) (N := 6) (fs := [.null, .null, .null, .null, .int 0, .int 0]) tyX1 rfl sk_in1 tyX1_ok nw_X7_42 dv_X1 (Nat.le_of_ble_eq_true rfl) (Nat.le_of_ble_eq_true rfl) dX7_init_68 (q := 71) rfl (fun p6 => ?_)
  refine U.dup (q := 72) dX7_init_71 rfl rfl ?_
  refine U.ald_0 (q := 73) dX7_init_72 rfl ?_
  refine U.get (ci := 7) (C := RX7) (T := TX7) (N := 9) (v := .ref p1) 0 0 rfl sk_in7 rfl (by decide) rfl rfl f_X7_10 dX7_init_73 (q := 76) rfl ?_
  refine U.cI (Z := Z) (X := mX7_init) (As := [.ref p1]) (rest := [.ref p6, .ref b]) ti_X1 rfl wi_X7_44 cw_X1_init np_X1_init rfl (Nat.le_of_ble_eq_true rfl) (Nat.le_of_ble_eq_true rfl) (Nat.le_of_ble_eq_true rfl) (Nat.le_of_ble_eq_true rfl) rfl (Nat.le_of_ble_eq_true rfl) dX7_init_76 (q := 79) rfl (fun w6 hp => ?_)
  obtain ⟨q6, rfl⟩ := hp
  show TW Z mX7_init (sk_R 3 139 19296) (sw_K Z 139 19296 (fun M => ∃ (p : Nat → Nat) (q : Nat → Nat → Nat) (a : Nat) (hs : Nat → Nat) (qs : Nat → Nat → Nat), M = swX7 Z.2.2.1 b p q a hs qs)) 129 10295 79 [some (.ref b)] [.ref p6, .ref b] ([(b, .inr (7, [.ref p1, .ref p2, .ref p3, .ref p4, .ref p5, .null, .null, .null, .int 0]))] ++ swX6 Z.2.2.1 p1 q1 ++ swX5 Z.2.2.1 p2 q2 ++ swX5 Z.2.2.1 p3 q3 ++ swX3 Z.2.2.1 p4 a hs qs ++ swX0 Z.2.2.1 p5 p1 p2 q5 ++ swX1 Z.2.2.1 p6 p1 q6)
  refine U.putF (ci := 7) (C := RX7) (T := TX7) (N := 9) (ty := .object "SafeKnown$LawReader") (fs := [.ref p1, .ref p2, .ref p3, .ref p4, .ref p5, .null, .null, .null, .int 0]) tyX7 0 5 rfl sk_in7 tyX7_ok nmX7 rfl (by decide) rfl rfl rfl rfl (by decide +kernel) rfl rfl (Nat.le_of_ble_eq_true rfl) f_X7_47 dX7_init_79 (q := 82) rfl ?_
  show TW Z mX7_init (sk_R 3 139 19296) (sw_K Z 139 19296 (fun M => ∃ (p : Nat → Nat) (q : Nat → Nat → Nat) (a : Nat) (hs : Nat → Nat) (qs : Nat → Nat → Nat), M = swX7 Z.2.2.1 b p q a hs qs)) 129 10295 82 [some (.ref b)] [] ([(b, .inr (7, [.ref p1, .ref p2, .ref p3, .ref p4, .ref p5, .ref p6, .null, .null, .int 0]))] ++ swX6 Z.2.2.1 p1 q1 ++ swX5 Z.2.2.1 p2 q2 ++ swX5 Z.2.2.1 p3 q3 ++ swX3 Z.2.2.1 p4 a hs qs ++ swX0 Z.2.2.1 p5 p1 p2 q5 ++ swX1 Z.2.2.1 p6 p1 q6)
  refine U.ald_0 (q := 83) dX7_init_82 rfl ?_
  refine U.new (ci := 4) (C := RX4) (T := TX4) (N := 16) (fs := [.null, .null, .null, .null, .null, .null, .null, .null, .int 0, .int 0, .int 0, .int 0, .int 0, .int 0, .int 0, .int 0]) tyX4 rfl sk_in4 tyX4_ok nw_X7_51 dv_X4 (Nat.le_of_ble_eq_true rfl) (Nat.le_of_ble_eq_true rfl) dX7_init_83 (q := 86) rfl (fun p7 => ?_)
  refine U.dup (q := 87) dX7_init_86 rfl rfl ?_
  refine U.ald_0 (q := 88) dX7_init_87 rfl ?_
  refine U.get (ci := 7) (C := RX7) (T := TX7) (N := 9) (v := .ref p2) 0 1 rfl sk_in7 rfl (by decide) rfl rfl f_X7_19 dX7_init_88 (q := 91) rfl ?_
  refine U.cI (Z := Z) (X := mX7_init) (As := [.ref p2]) (rest := [.ref p7, .ref b]) ti_X4 rfl wi_X7_53 cw_X4_init np_X4_init rfl (Nat.le_of_ble_eq_true rfl) (Nat.le_of_ble_eq_true rfl) (Nat.le_of_ble_eq_true rfl) (Nat.le_of_ble_eq_true rfl) rfl (Nat.le_of_ble_eq_true rfl) dX7_init_91 (q := 94) rfl (fun w7 hp => ?_)
  obtain ⟨q7, rfl⟩ := hp
  show TW Z mX7_init (sk_R 3 139 19296) (sw_K Z 139 19296 (fun M => ∃ (p : Nat → Nat) (q : Nat → Nat → Nat) (a : Nat) (hs : Nat → Nat) (qs : Nat → Nat → Nat), M = swX7 Z.2.2.1 b p q a hs qs)) 137 19286 94 [some (.ref b)] [.ref p7, .ref b] ([(b, .inr (7, [.ref p1, .ref p2, .ref p3, .ref p4, .ref p5, .ref p6, .null, .null, .int 0]))] ++ swX6 Z.2.2.1 p1 q1 ++ swX5 Z.2.2.1 p2 q2 ++ swX5 Z.2.2.1 p3 q3 ++ swX3 Z.2.2.1 p4 a hs qs ++ swX0 Z.2.2.1 p5 p1 p2 q5 ++ swX1 Z.2.2.1 p6 p1 q6 ++ swX4 Z.2.2.1 p7 p2 q7)
  refine U.putF (ci := 7) (C := RX7) (T := TX7) (N := 9) (ty := .object "SafeKnown$Sieve") (fs := [.ref p1, .ref p2, .ref p3, .ref p4, .ref p5, .ref p6, .null, .null, .int 0]) tyX7 0 6 rfl sk_in7 tyX7_ok nmX7 rfl (by decide) rfl rfl rfl rfl (by decide +kernel) rfl rfl (Nat.le_of_ble_eq_true rfl) f_X7_56 dX7_init_94 (q := 97) rfl ?_
  show TW Z mX7_init (sk_R 3 139 19296) (sw_K Z 139 19296 (fun M => ∃ (p : Nat → Nat) (q : Nat → Nat → Nat) (a : Nat) (hs : Nat → Nat) (qs : Nat → Nat → Nat), M = swX7 Z.2.2.1 b p q a hs qs)) 137 19286 97 [some (.ref b)] [] ([(b, .inr (7, [.ref p1, .ref p2, .ref p3, .ref p4, .ref p5, .ref p6, .ref p7, .null, .int 0]))] ++ swX6 Z.2.2.1 p1 q1 ++ swX5 Z.2.2.1 p2 q2 ++ swX5 Z.2.2.1 p3 q3 ++ swX3 Z.2.2.1 p4 a hs qs ++ swX0 Z.2.2.1 p5 p1 p2 q5 ++ swX1 Z.2.2.1 p6 p1 q6 ++ swX4 Z.2.2.1 p7 p2 q7)
  refine U.ald_0 (q := 98) dX7_init_97 rfl ?_
  refine U.new (ci := 2) (C := RX2) (T := TX2) (N := 4) (fs := [.null, .int 0, .int 0, .int 0]) tyX2 rfl sk_in2 tyX2_ok nw_X7_60 dv_X2 (Nat.le_of_ble_eq_true rfl) (Nat.le_of_ble_eq_true rfl) dX7_init_98 (q := 101) rfl (fun p8 => ?_)
  refine U.dup (q := 102) dX7_init_101 rfl rfl ?_
  refine U.cI (Z := Z) (X := mX7_init) (As := []) (rest := [.ref p8, .ref b]) ti_X2 rfl wi_X7_62 cw_X2_init np_X2_init rfl (Nat.le_of_ble_eq_true rfl) (Nat.le_of_ble_eq_true rfl) (Nat.le_of_ble_eq_true rfl) (Nat.le_of_ble_eq_true rfl) rfl (Nat.le_of_ble_eq_true rfl) dX7_init_102 (q := 105) rfl (fun w8 hp => ?_)
  obtain ⟨q8, rfl⟩ := hp
  show TW Z mX7_init (sk_R 3 139 19296) (sw_K Z 139 19296 (fun M => ∃ (p : Nat → Nat) (q : Nat → Nat → Nat) (a : Nat) (hs : Nat → Nat) (qs : Nat → Nat → Nat), M = swX7 Z.2.2.1 b p q a hs qs)) 139 19296 105 [some (.ref b)] [.ref p8, .ref b] ([(b, .inr (7, [.ref p1, .ref p2, .ref p3, .ref p4, .ref p5, .ref p6, .ref p7, .null, .int 0]))] ++ swX6 Z.2.2.1 p1 q1 ++ swX5 Z.2.2.1 p2 q2 ++ swX5 Z.2.2.1 p3 q3 ++ swX3 Z.2.2.1 p4 a hs qs ++ swX0 Z.2.2.1 p5 p1 p2 q5 ++ swX1 Z.2.2.1 p6 p1 q6 ++ swX4 Z.2.2.1 p7 p2 q7 ++ swX2 Z.2.2.1 p8 q8)
  refine U.putF (ci := 7) (C := RX7) (T := TX7) (N := 9) (ty := .object "SafeKnown$Locksmith") (fs := [.ref p1, .ref p2, .ref p3, .ref p4, .ref p5, .ref p6, .ref p7, .null, .int 0]) tyX7 0 7 rfl sk_in7 tyX7_ok nmX7 rfl (by decide) rfl rfl rfl rfl (by decide +kernel) rfl rfl (Nat.le_of_ble_eq_true rfl) f_X7_63 dX7_init_105 (q := 108) rfl ?_
  show TW Z mX7_init (sk_R 3 139 19296) (sw_K Z 139 19296 (fun M => ∃ (p : Nat → Nat) (q : Nat → Nat → Nat) (a : Nat) (hs : Nat → Nat) (qs : Nat → Nat → Nat), M = swX7 Z.2.2.1 b p q a hs qs)) 139 19296 108 [some (.ref b)] [] ([(b, .inr (7, [.ref p1, .ref p2, .ref p3, .ref p4, .ref p5, .ref p6, .ref p7, .ref p8, .int 0]))] ++ swX6 Z.2.2.1 p1 q1 ++ swX5 Z.2.2.1 p2 q2 ++ swX5 Z.2.2.1 p3 q3 ++ swX3 Z.2.2.1 p4 a hs qs ++ swX0 Z.2.2.1 p5 p1 p2 q5 ++ swX1 Z.2.2.1 p6 p1 q6 ++ swX4 Z.2.2.1 p7 p2 q7 ++ swX2 Z.2.2.1 p8 q8)
  refine U.ald_0 (q := 109) dX7_init_108 rfl ?_
  refine U.iconst (q := 110) (0) dX7_init_109 rfl (by decide) ?_
  refine U.put (ci := 7) (C := RX7) (T := TX7) (N := 9) (ty := .boolean) (fs := [.ref p1, .ref p2, .ref p3, .ref p4, .ref p5, .ref p6, .ref p7, .ref p8, .int 0]) tyX7 0 8 rfl sk_in7 tyX7_ok nmX7 rfl (by decide) rfl rfl (by decide +kernel) rfl rfl (Nat.le_of_ble_eq_true rfl) f_X7_67 dX7_init_110 (q := 113) rfl ?_
  show TW Z mX7_init (sk_R 3 139 19296) (sw_K Z 139 19296 (fun M => ∃ (p : Nat → Nat) (q : Nat → Nat → Nat) (a : Nat) (hs : Nat → Nat) (qs : Nat → Nat → Nat), M = swX7 Z.2.2.1 b p q a hs qs)) 139 19296 113 [some (.ref b)] [] ([(b, .inr (7, [.ref p1, .ref p2, .ref p3, .ref p4, .ref p5, .ref p6, .ref p7, .ref p8, .int 0]))] ++ swX6 Z.2.2.1 p1 q1 ++ swX5 Z.2.2.1 p2 q2 ++ swX5 Z.2.2.1 p3 q3 ++ swX3 Z.2.2.1 p4 a hs qs ++ swX0 Z.2.2.1 p5 p1 p2 q5 ++ swX1 Z.2.2.1 p6 p1 q6 ++ swX4 Z.2.2.1 p7 p2 q7 ++ swX2 Z.2.2.1 p8 q8)
  exact U.vret rfl dX7_init_113 (Nat.le_of_ble_eq_true rfl) (Nat.le_of_ble_eq_true rfl) ⟨fun j => [0, p1, p2, p3, p4, p5, p6, p7, p8].getD j 0, fun j => [fun _ => 0, q1, q2, q3, fun _ => 0, q5, q6, q7, q8].getD j (fun _ => 0), a, hs, qs, rfl⟩
