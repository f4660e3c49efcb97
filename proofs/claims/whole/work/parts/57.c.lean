/-! the law's head: the two sides are made -/
theorem nw_L_8 : [Cond.classLink RL 8 RX7, .instantiable RX7 9, .initialized RX7, .initialized RX7].all sk_wok = true := sk_al4 (sk_okP 129 (by decide +kernel) (by decide +kernel)) (sk_okP 130 (by decide +kernel) (by decide +kernel)) (sk_okP 103 (by decide +kernel) (by decide +kernel)) (sk_okP 103 (by decide +kernel) (by decide +kernel))
theorem nw_L_130 : [Cond.classLink RL 130 RX8, .instantiable RX8 27, .initialized RX8, .initialized RX8].all sk_wok = true := sk_al4 (sk_okP 1372 (by decide +kernel) (by decide +kernel)) (sk_okP 1373 (by decide +kernel) (by decide +kernel)) (sk_okP 111 (by decide +kernel) (by decide +kernel)) (sk_okP 111 (by decide +kernel) (by decide +kernel))
theorem wi_L_129 : [Cond.methodLink RL 129 yX7_init, .instanceMethod yX7_init, .initialized yX7_init.cls, .initialized yX7_init.cls].all sk_wok = true := sk_al4 (sk_okP 131 (by decide +kernel) (by decide +kernel)) (sk_okP 132 (by decide +kernel) (by decide +kernel)) (sk_okP 103 (by decide +kernel) (by decide +kernel)) (sk_okP 103 (by decide +kernel) (by decide +kernel))
theorem wi_L_132 : [Cond.methodLink RL 132 yX8_init, .instanceMethod yX8_init, .initialized yX8_init.cls, .initialized yX8_init.cls].all sk_wok = true := sk_al4 (sk_okP 1374 (by decide +kernel) (by decide +kernel)) (sk_okP 1375 (by decide +kernel) (by decide +kernel)) (sk_okP 111 (by decide +kernel) (by decide +kernel)) (sk_okP 111 (by decide +kernel) (by decide +kernel))
theorem lw_head {l : Launch} {D : va_G} {cA : Nat → ClassId} {b : Nat} {E : sk_E} (hk : ∀ (b7 : Nat) (p : Nat → Nat) (q : Nat → Nat → Nat) (a : Nat) (hs : Nat → Nat) (qs : Nat → Nat → Nat) (bm : Nat) (qm : Nat → Nat) (bo : Nat), TW (l, D, cA, fun _ => False) mL_law_ room_1 E 159 40725 23 [some (.ref b), some (.ref b7), some (.ref bm), some (.ref bo), some (.int (nI (6 * 0))), none, none] [] (swT cA b7 p q a hs qs bm qm bo)) :
    TW (l, D, cA, fun _ => False) mL_law_ room_1 E 0 0 0 [some (.ref b), none, none, none, none, none, none] [] [] := by
  refine U.new (ci := 7) (C := RX7) (T := TX7) (N := 9) (fs := [.null, .null, .null, .null, .null, .null, .null, .null, .int 0]) tyX7 rfl sk_in7 tyX7_ok nw_L_8 dv_X7 (Nat.le_of_ble_eq_true rfl) (Nat.le_of_ble_eq_true rfl) dL_law__0 (q := 3) rfl (fun b7 => ?_)
  refine U.dup (q := 4) dL_law__3 rfl rfl ?_
  refine U.cI (Z := (l, D, cA, fun _ => False)) (X := mL_law_) (As := []) (rest := [.ref b7]) ti_X7 rfl wi_L_129 cw_X7_init np_X7_init rfl (Nat.le_of_ble_eq_true rfl) (Nat.le_of_ble_eq_true rfl) (Nat.le_of_ble_eq_true rfl) (Nat.le_of_ble_eq_true rfl) rfl (Nat.le_of_ble_eq_true rfl) dL_law__4 (q := 7) rfl (fun w1 hp => ?_)
  obtain ⟨p, q, a, hs, qs, rfl⟩ := hp
  refine U.ast_1 (q := 8) dL_law__7 rfl (by decide) sk_ok_r ?_
  refine U.new (ci := 8) (C := RX8) (T := TX8) (N := 27) (fs := [.int 0, .null, .null, .null, .null, .null, .null, .null, .null, .null, .null, .int 0, .int 0, .null, .int 0, .int 0, .int 0, .int 0, .int 0, .int 0, .null, .int 0, .null, .null, .null, .null, .null]) tyX8 rfl sk_in8 tyX8_ok nw_L_130 dv_X8 (Nat.le_of_ble_eq_true rfl) (Nat.le_of_ble_eq_true rfl) dL_law__8 (q := 11) rfl (fun bm => ?_)
  refine U.dup (q := 12) dL_law__11 rfl rfl ?_
  refine U.cI (Z := (l, D, cA, fun _ => False)) (X := mL_law_) (As := []) (rest := [.ref bm]) ti_X8 rfl wi_L_132 cw_X8_init np_X8_init rfl (Nat.le_of_ble_eq_true rfl) (Nat.le_of_ble_eq_true rfl) (Nat.le_of_ble_eq_true rfl) (Nat.le_of_ble_eq_true rfl) rfl (Nat.le_of_ble_eq_true rfl) dL_law__12 (q := 15) rfl (fun w1 hp => ?_)
  obtain ⟨qm, rfl⟩ := hp
  refine U.ast_2 (q := 16) dL_law__15 rfl (by decide) sk_ok_r ?_
  refine U.iconst (q := 17) (1) dL_law__16 rfl (by decide) ?_
  refine U.newa (ty := .long) (N' := 1) (a0 := (1, .inr (.inl (fun _ => 0)))) 1 rfl rfl (by decide) (fun C h => by cases h) ac_long (fun _ => rfl) (by decide) (by decide) (by decide) (Nat.le_of_ble_eq_true rfl) (Nat.le_of_ble_eq_true rfl) dL_law__17 (q := 19) rfl (fun bo => ?_)
  refine U.ast_3 (q := 20) dL_law__19 rfl (by decide) sk_ok_r ?_
  refine U.iconst (q := 21) (0) dL_law__20 rfl (by decide) ?_
  refine U.ist_4 (q := 23) dL_law__21 rfl (by decide) sk_ok_r ?_
  exact hk b7 p q a hs qs bm qm bo
