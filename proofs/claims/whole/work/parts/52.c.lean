/-! the law's helpers -/
def lwK (Q0 : sk_M → Prop) (QX : Nat → sk_M → Prop) : Int32 → sk_M → Prop := fun k M1 => (k = 0 ∧ Q0 M1) ∨ ∃ i, k = nI (i + 1) ∧ i < 2 ∧ QX i M1
theorem t_L_bank {G : sk_G} {M : sk_M} {Q0 : sk_M → Prop} {QX : Nat → sk_M → Prop} (h : w_X7_bank  M (fun r M1 => Q0 (sk_sl M1 158 0 r.toInt64)) (fun e M1 => ∃ i, ["java/lang/IllegalArgumentException", "java/lang/UnsupportedOperationException"][i]? = some e ∧ QX i M1)) : CtrH G mL_bank 10 1 6 [.ref (G.2.2.1 120), .ref (G.2.2.1 158)] M (rI (lwK Q0 QX)) := by
  refine CtrH.of 1 (by decide) (Nat.le_of_ble_eq_true rfl) ?_
  show TJ G mL_bank (sk_R 10 1 6) (sk_K G 1 6 (rI (lwK Q0 QX)) noX) 0 0 0 [some (.ref (G.2.2.1 120)), some (.ref (G.2.2.1 158)), none] [] M
  refine T.ald_1 (q := 1) dL_bank_0 rfl ?_
  refine T.iconst (q := 2) (0) dL_bank_1 rfl (by decide) ?_
  refine T.ald_0 (q := 3) dL_bank_2 rfl ?_
  refine T.cVc (As := []) (c := 120) (ci := 7) (C := RX7) (T := TX7) (N := 9) (t_X7_bank h) w_L_7 cw_X7_bank np_X7_bank rfl (by decide) rfl (by decide) rfl (Nat.le_refl _) (Nat.le_of_ble_eq_true rfl) (by decide) (by decide) rfl (Nat.le_of_ble_eq_true rfl) dL_bank_3 (q := 6) rfl ?_ ?_
  · rintro E9 M9 ⟨i, hi, h9⟩
    rcases i with _ | _ | i
    · obtain rfl : "java/lang/IllegalArgumentException" = E9 := Option.some.inj hi
      refine ⟨[], _, _, rfl, (fun z hz => absurd hz List.not_mem_nil), ⟨by decide, by decide⟩, by decide, kl_13, by decide, fun q9 => ?_⟩
      refine T.ast_2 (q := 12) dL_bank_11 rfl (by decide) sk_ok_r ?_
      refine T.iconst (q := 13) (1) dL_bank_12 rfl (by decide) ?_
      exact T.retI rfl dL_bank_13 (by decide) (by decide) (Or.inr ⟨0, rfl, by decide, h9⟩)
    · obtain rfl : "java/lang/UnsupportedOperationException" = E9 := Option.some.inj hi
      refine ⟨[_], _, _, rfl, (fun z hz => by rw [List.mem_singleton] at hz; subst hz; exact ⟨by decide, _, kl_13, by decide⟩), ⟨by decide, by decide⟩, by decide, kl_15, by decide, fun q9 => ?_⟩
      refine T.ast_2 (q := 15) dL_bank_14 rfl (by decide) sk_ok_r ?_
      refine T.iconst (q := 16) (2) dL_bank_15 rfl (by decide) ?_
      exact T.retI rfl dL_bank_16 (by decide) (by decide) (Or.inr ⟨1, rfl, by decide, h9⟩)
    · exact absurd hi (by simp)
  · rintro _ M9 ⟨r, rfl, h9⟩
    refine T.i2l (q := 7) dL_bank_6 rfl ?_
    refine T.lastk (n := 1) rfl rfl (by decide) dL_bank_7 (q := 8) rfl (k9 := 0) (by decide) ?_
    refine T.goto (tgt := 17) dL_bank_8 (by decide) ?_
    refine T.iconst (q := 18) (0) dL_bank_17 rfl (by decide) ?_
    exact T.retI rfl dL_bank_18 (by decide) (by decide) (Or.inl ⟨rfl, h9⟩)
theorem t_L_law {G : sk_G} {M : sk_M} {Q0 : sk_M → Prop} {QX : Nat → sk_M → Prop} (h : w_X7_law  M (fun r M1 => Q0 (sk_sl M1 158 0 r.toInt64)) (fun e M1 => ∃ i, ["java/lang/IllegalArgumentException"][i]? = some e ∧ QX i M1)) : CtrH G mL_law 31 1 6 [.ref (G.2.2.1 120), .ref (G.2.2.1 158)] M (rI (lwK Q0 QX)) := by
  refine CtrH.of 1 (by decide) (Nat.le_of_ble_eq_true rfl) ?_
  show TJ G mL_law (sk_R 31 1 6) (sk_K G 1 6 (rI (lwK Q0 QX)) noX) 0 0 0 [some (.ref (G.2.2.1 120)), some (.ref (G.2.2.1 158)), none] [] M
  refine T.ald_1 (q := 1) dL_law_0 rfl ?_
  refine T.iconst (q := 2) (0) dL_law_1 rfl (by decide) ?_
  refine T.ald_0 (q := 3) dL_law_2 rfl ?_
  refine T.cVc (As := []) (c := 120) (ci := 7) (C := RX7) (T := TX7) (N := 9) (t_X7_law h) w_L_17 cw_X7_law np_X7_law rfl (by decide) rfl (by decide) rfl (Nat.le_refl _) (Nat.le_of_ble_eq_true rfl) (by decide) (by decide) rfl (Nat.le_of_ble_eq_true rfl) dL_law_3 (q := 6) rfl ?_ ?_
  · rintro E9 M9 ⟨i, hi, h9⟩
    rcases i with _ | i
    · obtain rfl : "java/lang/IllegalArgumentException" = E9 := Option.some.inj hi
      refine ⟨[], _, _, rfl, (fun z hz => absurd hz List.not_mem_nil), ⟨by decide, by decide⟩, by decide, kl_13, by decide, fun q9 => ?_⟩
      refine T.ast_2 (q := 12) dL_law_11 rfl (by decide) sk_ok_r ?_
      refine T.iconst (q := 13) (1) dL_law_12 rfl (by decide) ?_
      exact T.retI rfl dL_law_13 (by decide) (by decide) (Or.inr ⟨0, rfl, by decide, h9⟩)
    · exact absurd hi (by simp)
  · rintro _ M9 ⟨r, rfl, h9⟩
    refine T.i2l (q := 7) dL_law_6 rfl ?_
    refine T.lastk (n := 1) rfl rfl (by decide) dL_law_7 (q := 8) rfl (k9 := 0) (by decide) ?_
    refine T.goto (tgt := 14) dL_law_8 (by decide) ?_
    refine T.iconst (q := 15) (0) dL_law_14 rfl (by decide) ?_
    exact T.retI rfl dL_law_15 (by decide) (by decide) (Or.inl ⟨rfl, h9⟩)
theorem t_L_vault {G : sk_G} {M : sk_M} {a1 : Int32} {a2 : Int32} {Q0 : sk_M → Prop} {QX : Nat → sk_M → Prop} (h : w_X7_vault a1 a2 M (fun r => Q0 (sk_sl M 158 0 r.toInt64)) (fun e => ∃ i, ["java/lang/IndexOutOfBoundsException", "java/util/NoSuchElementException"][i]? = some e ∧ QX i M)) : CtrH G mL_vault 8 2 12 [.ref (G.2.2.1 120), .int a1, .int a2, .ref (G.2.2.1 158)] M (rI (lwK Q0 QX)) := by
  refine CtrH.of 1 (by decide) (Nat.le_of_ble_eq_true rfl) ?_
  show TJ G mL_vault (sk_R 8 2 12) (sk_K G 2 12 (rI (lwK Q0 QX)) noX) 0 0 0 [some (.ref (G.2.2.1 120)), some (.int a1), some (.int a2), some (.ref (G.2.2.1 158)), none] [] M
  refine T.ald_3 (q := 1) dL_vault_0 rfl ?_
  refine T.iconst (q := 2) (0) dL_vault_1 rfl (by decide) ?_
  refine T.ald_0 (q := 3) dL_vault_2 rfl ?_
  refine T.ild_1 (q := 4) dL_vault_3 rfl ?_
  refine T.ild_2 (q := 5) dL_vault_4 rfl ?_
  refine T.cVc (As := [.int a1, .int a2]) (c := 120) (ci := 7) (C := RX7) (T := TX7) (N := 9) (t_X7_vault h) w_L_20 cw_X7_vault np_X7_vault rfl (by decide) rfl (by decide) rfl (Nat.le_refl _) (Nat.le_of_ble_eq_true rfl) (by decide) (by decide) rfl (Nat.le_of_ble_eq_true rfl) dL_vault_5 (q := 8) rfl ?_ ?_
  · rintro E9 M9 ⟨⟨i, hi, h9⟩, rfl⟩
    rcases i with _ | _ | i
    · obtain rfl : "java/lang/IndexOutOfBoundsException" = E9 := Option.some.inj hi
      refine ⟨[], _, _, rfl, (fun z hz => absurd hz List.not_mem_nil), ⟨by decide, by decide⟩, by decide, kl_24, by decide, fun q9 => ?_⟩
      refine T.ast_4 (q := 15) dL_vault_13 rfl (by decide) sk_ok_r ?_
      refine T.iconst (q := 16) (1) dL_vault_15 rfl (by decide) ?_
      exact T.retI rfl dL_vault_16 (by decide) (by decide) (Or.inr ⟨0, rfl, by decide, h9⟩)
    · obtain rfl : "java/util/NoSuchElementException" = E9 := Option.some.inj hi
      refine ⟨[_], _, _, rfl, (fun z hz => by rw [List.mem_singleton] at hz; subst hz; exact ⟨by decide, _, kl_24, by decide⟩), ⟨by decide, by decide⟩, by decide, kl_26, by decide, fun q9 => ?_⟩
      refine T.ast_4 (q := 19) dL_vault_17 rfl (by decide) sk_ok_r ?_
      refine T.iconst (q := 20) (2) dL_vault_19 rfl (by decide) ?_
      exact T.retI rfl dL_vault_20 (by decide) (by decide) (Or.inr ⟨1, rfl, by decide, h9⟩)
    · exact absurd hi (by simp)
  · rintro _ M9 ⟨r, rfl, h9, rfl⟩
    refine T.i2l (q := 9) dL_vault_8 rfl ?_
    refine T.lastk (n := 1) rfl rfl (by decide) dL_vault_9 (q := 10) rfl (k9 := 0) (by decide) ?_
    refine T.goto (tgt := 21) dL_vault_10 (by decide) ?_
    refine T.iconst (q := 22) (0) dL_vault_21 rfl (by decide) ?_
    exact T.retI rfl dL_vault_22 (by decide) (by decide) (Or.inl ⟨rfl, h9⟩)
theorem t_L_left {G : sk_G} {M : sk_M} {a1 : Int32} {a2 : Int32} {Q0 : sk_M → Prop} {QX : Nat → sk_M → Prop} (h : w_X7_left a1 a2 M (fun r => Q0 (sk_sl M 158 0 r.toInt64)) (fun e => ∃ i, ["java/lang/IndexOutOfBoundsException"][i]? = some e ∧ QX i M)) : CtrH G mL_left 8 2 12 [.ref (G.2.2.1 120), .int a1, .int a2, .ref (G.2.2.1 158)] M (rI (lwK Q0 QX)) := by
  refine CtrH.of 1 (by decide) (Nat.le_of_ble_eq_true rfl) ?_
  show TJ G mL_left (sk_R 8 2 12) (sk_K G 2 12 (rI (lwK Q0 QX)) noX) 0 0 0 [some (.ref (G.2.2.1 120)), some (.int a1), some (.int a2), some (.ref (G.2.2.1 158)), none] [] M
  refine T.ald_3 (q := 1) dL_left_0 rfl ?_
  refine T.iconst (q := 2) (0) dL_left_1 rfl (by decide) ?_
  refine T.ald_0 (q := 3) dL_left_2 rfl ?_
  refine T.ild_1 (q := 4) dL_left_3 rfl ?_
  refine T.ild_2 (q := 5) dL_left_4 rfl ?_
  refine T.cVc (As := [.int a1, .int a2]) (c := 120) (ci := 7) (C := RX7) (T := TX7) (N := 9) (t_X7_left h) w_L_28 cw_X7_left np_X7_left rfl (by decide) rfl (by decide) rfl (Nat.le_refl _) (Nat.le_of_ble_eq_true rfl) (by decide) (by decide) rfl (Nat.le_of_ble_eq_true rfl) dL_left_5 (q := 8) rfl ?_ ?_
  · rintro E9 M9 ⟨⟨i, hi, h9⟩, rfl⟩
    rcases i with _ | i
    · obtain rfl : "java/lang/IndexOutOfBoundsException" = E9 := Option.some.inj hi
      refine ⟨[], _, _, rfl, (fun z hz => absurd hz List.not_mem_nil), ⟨by decide, by decide⟩, by decide, kl_24, by decide, fun q9 => ?_⟩
      refine T.ast_4 (q := 15) dL_left_13 rfl (by decide) sk_ok_r ?_
      refine T.iconst (q := 16) (1) dL_left_15 rfl (by decide) ?_
      exact T.retI rfl dL_left_16 (by decide) (by decide) (Or.inr ⟨0, rfl, by decide, h9⟩)
    · exact absurd hi (by simp)
  · rintro _ M9 ⟨r, rfl, h9, rfl⟩
    refine T.i2l (q := 9) dL_left_8 rfl ?_
    refine T.lastk (n := 1) rfl rfl (by decide) dL_left_9 (q := 10) rfl (k9 := 0) (by decide) ?_
    refine T.goto (tgt := 17) dL_left_10 (by decide) ?_
    refine T.iconst (q := 18) (0) dL_left_17 rfl (by decide) ?_
    exact T.retI rfl dL_left_18 (by decide) (by decide) (Or.inl ⟨rfl, h9⟩)
theorem t_L_code {G : sk_G} {M : sk_M} {a1 : Int32} {a2 : Int32} {a3 : Int32} {Q0 : sk_M → Prop} {QX : Nat → sk_M → Prop} (h : w_X7_code a1 a2 a3 M (fun r M1 => Q0 (sk_sl M1 158 0 r.toInt64)) (fun e M1 => ∃ i, ["java/lang/IndexOutOfBoundsException"][i]? = some e ∧ QX i M1)) : CtrH G mL_code 8 2 12 [.ref (G.2.2.1 120), .int a1, .int a2, .int a3, .ref (G.2.2.1 158)] M (rI (lwK Q0 QX)) := by
  refine CtrH.of 1 (by decide) (Nat.le_of_ble_eq_true rfl) ?_
  show TJ G mL_code (sk_R 8 2 12) (sk_K G 2 12 (rI (lwK Q0 QX)) noX) 0 0 0 [some (.ref (G.2.2.1 120)), some (.int a1), some (.int a2), some (.int a3), some (.ref (G.2.2.1 158)), none] [] M
  refine T.ald_4 (q := 2) dL_code_0 rfl ?_
  refine T.iconst (q := 3) (0) dL_code_2 rfl (by decide) ?_
  refine T.ald_0 (q := 4) dL_code_3 rfl ?_
  refine T.ild_1 (q := 5) dL_code_4 rfl ?_
  refine T.ild_2 (q := 6) dL_code_5 rfl ?_
  refine T.ild_3 (q := 7) dL_code_6 rfl ?_
  refine T.cVc (As := [.int a1, .int a2, .int a3]) (c := 120) (ci := 7) (C := RX7) (T := TX7) (N := 9) (t_X7_code h) w_L_31 cw_X7_code np_X7_code rfl (by decide) rfl (by decide) rfl (Nat.le_refl _) (Nat.le_of_ble_eq_true rfl) (by decide) (by decide) rfl (Nat.le_of_ble_eq_true rfl) dL_code_7 (q := 10) rfl ?_ ?_
  · rintro E9 M9 ⟨i, hi, h9⟩
    rcases i with _ | i
    · obtain rfl : "java/lang/IndexOutOfBoundsException" = E9 := Option.some.inj hi
      refine ⟨[], _, _, rfl, (fun z hz => absurd hz List.not_mem_nil), ⟨by decide, by decide⟩, by decide, kl_24, by decide, fun q9 => ?_⟩
      refine T.ast_5 (q := 17) dL_code_15 rfl (by decide) sk_ok_r ?_
      refine T.iconst (q := 18) (1) dL_code_17 rfl (by decide) ?_
      exact T.retI rfl dL_code_18 (by decide) (by decide) (Or.inr ⟨0, rfl, by decide, h9⟩)
    · exact absurd hi (by simp)
  · rintro _ M9 ⟨r, rfl, h9⟩
    refine T.i2l (q := 11) dL_code_10 rfl ?_
    refine T.lastk (n := 1) rfl rfl (by decide) dL_code_11 (q := 12) rfl (k9 := 0) (by decide) ?_
    refine T.goto (tgt := 19) dL_code_12 (by decide) ?_
    refine T.iconst (q := 20) (0) dL_code_19 rfl (by decide) ?_
    exact T.retI rfl dL_code_20 (by decide) (by decide) (Or.inl ⟨rfl, h9⟩)
theorem t_L_wheel {G : sk_G} {M : sk_M} {a1 : Int32} {a2 : Int32} {a3 : Int32} {a4 : Int32} {Q0 : sk_M → Prop} {QX : Nat → sk_M → Prop} (h : w_X7_wheel a1 a2 a3 a4 M (fun r M1 => Q0 (sk_sl M1 158 0 r.toInt64)) (fun e M1 => ∃ i, ["java/lang/IndexOutOfBoundsException"][i]? = some e ∧ QX i M1)) : CtrH G mL_wheel 8 3 18 [.ref (G.2.2.1 120), .int a1, .int a2, .int a3, .int a4, .ref (G.2.2.1 158)] M (rI (lwK Q0 QX)) := by
  refine CtrH.of 1 (by decide) (Nat.le_of_ble_eq_true rfl) ?_
  show TJ G mL_wheel (sk_R 8 3 18) (sk_K G 3 18 (rI (lwK Q0 QX)) noX) 0 0 0 [some (.ref (G.2.2.1 120)), some (.int a1), some (.int a2), some (.int a3), some (.int a4), some (.ref (G.2.2.1 158)), none] [] M
  refine T.ald_5 (q := 2) dL_wheel_0 rfl ?_
  refine T.iconst (q := 3) (0) dL_wheel_2 rfl (by decide) ?_
  refine T.ald_0 (q := 4) dL_wheel_3 rfl ?_
  refine T.ild_1 (q := 5) dL_wheel_4 rfl ?_
  refine T.ild_2 (q := 6) dL_wheel_5 rfl ?_
  refine T.ild_3 (q := 7) dL_wheel_6 rfl ?_
  refine T.ild_4 (q := 9) dL_wheel_7 rfl ?_
  refine T.cVc (As := [.int a1, .int a2, .int a3, .int a4]) (c := 120) (ci := 7) (C := RX7) (T := TX7) (N := 9) (t_X7_wheel h) w_L_35 cw_X7_wheel np_X7_wheel rfl (by decide) rfl (by decide) rfl (Nat.le_refl _) (Nat.le_of_ble_eq_true rfl) (by decide) (by decide) rfl (Nat.le_of_ble_eq_true rfl) dL_wheel_9 (q := 12) rfl ?_ ?_
  · rintro E9 M9 ⟨i, hi, h9⟩
    rcases i with _ | i
    · obtain rfl : "java/lang/IndexOutOfBoundsException" = E9 := Option.some.inj hi
      refine ⟨[], _, _, rfl, (fun z hz => absurd hz List.not_mem_nil), ⟨by decide, by decide⟩, by decide, kl_24, by decide, fun q9 => ?_⟩
      refine T.ast_6 (q := 19) dL_wheel_17 rfl (by decide) sk_ok_r ?_
      refine T.iconst (q := 20) (1) dL_wheel_19 rfl (by decide) ?_
      exact T.retI rfl dL_wheel_20 (by decide) (by decide) (Or.inr ⟨0, rfl, by decide, h9⟩)
    · exact absurd hi (by simp)
  · rintro _ M9 ⟨r, rfl, h9⟩
    refine T.i2l (q := 13) dL_wheel_12 rfl ?_
    refine T.lastk (n := 1) rfl rfl (by decide) dL_wheel_13 (q := 14) rfl (k9 := 0) (by decide) ?_
    refine T.goto (tgt := 21) dL_wheel_14 (by decide) ?_
    refine T.iconst (q := 22) (0) dL_wheel_21 rfl (by decide) ?_
    exact T.retI rfl dL_wheel_22 (by decide) (by decide) (Or.inl ⟨rfl, h9⟩)
theorem t_L_click {G : sk_G} {M : sk_M} {a1 : Int32} {a2 : Int32} {a3 : Int32} {Q0 : sk_M → Prop} {QX : Nat → sk_M → Prop} (h : w_X7_click a1 a2 a3 M (fun r => Q0 (sk_sl M 158 0 r.toInt64)) (fun e => ∃ i, ["java/lang/IndexOutOfBoundsException", "java/lang/IllegalArgumentException"][i]? = some e ∧ QX i M)) : CtrH G mL_click 8 2 12 [.ref (G.2.2.1 120), .int a1, .int a2, .int a3, .ref (G.2.2.1 158)] M (rI (lwK Q0 QX)) := by
  refine CtrH.of 1 (by decide) (Nat.le_of_ble_eq_true rfl) ?_
  show TJ G mL_click (sk_R 8 2 12) (sk_K G 2 12 (rI (lwK Q0 QX)) noX) 0 0 0 [some (.ref (G.2.2.1 120)), some (.int a1), some (.int a2), some (.int a3), some (.ref (G.2.2.1 158)), none] [] M
  refine T.ald_4 (q := 2) dL_click_0 rfl ?_
  refine T.iconst (q := 3) (0) dL_click_2 rfl (by decide) ?_
  refine T.ald_0 (q := 4) dL_click_3 rfl ?_
  refine T.ild_1 (q := 5) dL_click_4 rfl ?_
  refine T.ild_2 (q := 6) dL_click_5 rfl ?_
  refine T.ild_3 (q := 7) dL_click_6 rfl ?_
  refine T.cVc (As := [.int a1, .int a2, .int a3]) (c := 120) (ci := 7) (C := RX7) (T := TX7) (N := 9) (t_X7_click h) w_L_39 cw_X7_click np_X7_click rfl (by decide) rfl (by decide) rfl (Nat.le_refl _) (Nat.le_of_ble_eq_true rfl) (by decide) (by decide) rfl (Nat.le_of_ble_eq_true rfl) dL_click_7 (q := 10) rfl ?_ ?_
  · rintro E9 M9 ⟨⟨i, hi, h9⟩, rfl⟩
    rcases i with _ | _ | i
    · obtain rfl : "java/lang/IndexOutOfBoundsException" = E9 := Option.some.inj hi
      refine ⟨[], _, _, rfl, (fun z hz => absurd hz List.not_mem_nil), ⟨by decide, by decide⟩, by decide, kl_24, by decide, fun q9 => ?_⟩
      refine T.ast_5 (q := 17) dL_click_15 rfl (by decide) sk_ok_r ?_
      refine T.iconst (q := 18) (1) dL_click_17 rfl (by decide) ?_
      exact T.retI rfl dL_click_18 (by decide) (by decide) (Or.inr ⟨0, rfl, by decide, h9⟩)
    · obtain rfl : "java/lang/IllegalArgumentException" = E9 := Option.some.inj hi
      refine ⟨[_], _, _, rfl, (fun z hz => by rw [List.mem_singleton] at hz; subst hz; exact ⟨by decide, _, kl_24, by decide⟩), ⟨by decide, by decide⟩, by decide, kl_13, by decide, fun q9 => ?_⟩
      refine T.ast_5 (q := 21) dL_click_19 rfl (by decide) sk_ok_r ?_
      refine T.iconst (q := 22) (2) dL_click_21 rfl (by decide) ?_
      exact T.retI rfl dL_click_22 (by decide) (by decide) (Or.inr ⟨1, rfl, by decide, h9⟩)
    · exact absurd hi (by simp)
  · rintro _ M9 ⟨r, rfl, h9, rfl⟩
    refine T.i2l (q := 11) dL_click_10 rfl ?_
    refine T.lastk (n := 1) rfl rfl (by decide) dL_click_11 (q := 12) rfl (k9 := 0) (by decide) ?_
    refine T.goto (tgt := 23) dL_click_12 (by decide) ?_
    refine T.iconst (q := 24) (0) dL_click_23 rfl (by decide) ?_
    exact T.retI rfl dL_click_24 (by decide) (by decide) (Or.inl ⟨rfl, h9⟩)
theorem t_L_sound {G : sk_G} {M : sk_M} {a1 : Int32} {a2 : Int32} {Q0 : sk_M → Prop} {QX : Nat → sk_M → Prop} (h : w_X7_sound a1 a2 M (fun r => Q0 (sk_sl M 158 0 r.toInt64)) (fun e => ∃ i, ["java/lang/IndexOutOfBoundsException"][i]? = some e ∧ QX i M)) : CtrH G mL_sound 8 2 12 [.ref (G.2.2.1 120), .int a1, .int a2, .ref (G.2.2.1 158)] M (rI (lwK Q0 QX)) := by
  refine CtrH.of 1 (by decide) (Nat.le_of_ble_eq_true rfl) ?_
  show TJ G mL_sound (sk_R 8 2 12) (sk_K G 2 12 (rI (lwK Q0 QX)) noX) 0 0 0 [some (.ref (G.2.2.1 120)), some (.int a1), some (.int a2), some (.ref (G.2.2.1 158)), none] [] M
  refine T.ald_3 (q := 1) dL_sound_0 rfl ?_
  refine T.iconst (q := 2) (0) dL_sound_1 rfl (by decide) ?_
  refine T.ald_0 (q := 3) dL_sound_2 rfl ?_
  refine T.ild_1 (q := 4) dL_sound_3 rfl ?_
  refine T.ild_2 (q := 5) dL_sound_4 rfl ?_
  refine T.cVc (As := [.int a1, .int a2]) (c := 120) (ci := 7) (C := RX7) (T := TX7) (N := 9) (t_X7_sound h) w_L_42 cw_X7_sound np_X7_sound rfl (by decide) rfl (by decide) rfl (Nat.le_refl _) (Nat.le_of_ble_eq_true rfl) (by decide) (by decide) rfl (Nat.le_of_ble_eq_true rfl) dL_sound_5 (q := 8) rfl ?_ ?_
  · rintro E9 M9 ⟨⟨i, hi, h9⟩, rfl⟩
    rcases i with _ | i
    · obtain rfl : "java/lang/IndexOutOfBoundsException" = E9 := Option.some.inj hi
      refine ⟨[], _, _, rfl, (fun z hz => absurd hz List.not_mem_nil), ⟨by decide, by decide⟩, by decide, kl_24, by decide, fun q9 => ?_⟩
      refine T.ast_4 (q := 15) dL_sound_13 rfl (by decide) sk_ok_r ?_
      refine T.iconst (q := 16) (1) dL_sound_15 rfl (by decide) ?_
      exact T.retI rfl dL_sound_16 (by decide) (by decide) (Or.inr ⟨0, rfl, by decide, h9⟩)
    · exact absurd hi (by simp)
  · rintro _ M9 ⟨r, rfl, h9, rfl⟩
    refine T.i2l (q := 9) dL_sound_8 rfl ?_
    refine T.lastk (n := 1) rfl rfl (by decide) dL_sound_9 (q := 10) rfl (k9 := 0) (by decide) ?_
    refine T.goto (tgt := 17) dL_sound_10 (by decide) ?_
    refine T.iconst (q := 18) (0) dL_sound_17 rfl (by decide) ?_
    exact T.retI rfl dL_sound_18 (by decide) (by decide) (Or.inl ⟨rfl, h9⟩)
theorem t_L_turn {G : sk_G} {M : sk_M} {a1 : Int32} {a2 : Int32} {a3 : Int32} {Q0 : sk_M → Prop} {QX : Nat → sk_M → Prop} (h : w_X7_turn a1 a2 a3 M (fun r M1 => Q0 (sk_sl M1 158 0 r.toInt64)) (fun e M1 => ∃ i, ["java/lang/IndexOutOfBoundsException", "java/lang/IllegalStateException"][i]? = some e ∧ QX i M1)) : CtrH G mL_turn 8 4 24 [.ref (G.2.2.1 120), .int a1, .int a2, .int a3, .ref (G.2.2.1 158)] M (rI (lwK Q0 QX)) := by
  refine CtrH.of 1 (by decide) (Nat.le_of_ble_eq_true rfl) ?_
  show TJ G mL_turn (sk_R 8 4 24) (sk_K G 4 24 (rI (lwK Q0 QX)) noX) 0 0 0 [some (.ref (G.2.2.1 120)), some (.int a1), some (.int a2), some (.int a3), some (.ref (G.2.2.1 158)), none] [] M
  refine T.ald_4 (q := 2) dL_turn_0 rfl ?_
  refine T.iconst (q := 3) (0) dL_turn_2 rfl (by decide) ?_
  refine T.ald_0 (q := 4) dL_turn_3 rfl ?_
  refine T.ild_1 (q := 5) dL_turn_4 rfl ?_
  refine T.ild_2 (q := 6) dL_turn_5 rfl ?_
  refine T.ild_3 (q := 7) dL_turn_6 rfl ?_
  refine T.cVc (As := [.int a1, .int a2, .int a3]) (c := 120) (ci := 7) (C := RX7) (T := TX7) (N := 9) (t_X7_turn h) w_L_45 cw_X7_turn np_X7_turn rfl (by decide) rfl (by decide) rfl (Nat.le_refl _) (Nat.le_of_ble_eq_true rfl) (by decide) (by decide) rfl (Nat.le_of_ble_eq_true rfl) dL_turn_7 (q := 10) rfl ?_ ?_
  · rintro E9 M9 ⟨i, hi, h9⟩
    rcases i with _ | _ | i
    · obtain rfl : "java/lang/IndexOutOfBoundsException" = E9 := Option.some.inj hi
      refine ⟨[], _, _, rfl, (fun z hz => absurd hz List.not_mem_nil), ⟨by decide, by decide⟩, by decide, kl_24, by decide, fun q9 => ?_⟩
      refine T.ast_5 (q := 17) dL_turn_15 rfl (by decide) sk_ok_r ?_
      refine T.iconst (q := 18) (1) dL_turn_17 rfl (by decide) ?_
      exact T.retI rfl dL_turn_18 (by decide) (by decide) (Or.inr ⟨0, rfl, by decide, h9⟩)
    · obtain rfl : "java/lang/IllegalStateException" = E9 := Option.some.inj hi
      refine ⟨[_], _, _, rfl, (fun z hz => by rw [List.mem_singleton] at hz; subst hz; exact ⟨by decide, _, kl_24, by decide⟩), ⟨by decide, by decide⟩, by decide, kl_48, by decide, fun q9 => ?_⟩
      refine T.ast_5 (q := 21) dL_turn_19 rfl (by decide) sk_ok_r ?_
      refine T.iconst (q := 22) (2) dL_turn_21 rfl (by decide) ?_
      exact T.retI rfl dL_turn_22 (by decide) (by decide) (Or.inr ⟨1, rfl, by decide, h9⟩)
    · exact absurd hi (by simp)
  · rintro _ M9 ⟨r, rfl, h9⟩
    refine T.i2l (q := 11) dL_turn_10 rfl ?_
    refine T.lastk (n := 1) rfl rfl (by decide) dL_turn_11 (q := 12) rfl (k9 := 0) (by decide) ?_
    refine T.goto (tgt := 23) dL_turn_12 (by decide) ?_
    refine T.iconst (q := 24) (0) dL_turn_23 rfl (by decide) ?_
    exact T.retI rfl dL_turn_24 (by decide) (by decide) (Or.inl ⟨rfl, h9⟩)
theorem t_L_tell {G : sk_G} {M : sk_M} {a1 : Int32} {a2 : Int32} {a3 : Int32} {Q0 : sk_M → Prop} {QX : Nat → sk_M → Prop} (h : w_X7_tell a1 a2 a3 M (fun r M1 => Q0 (sk_sl M1 158 0 r.toInt64)) (fun e M1 => ∃ i, ["java/lang/IndexOutOfBoundsException", "java/lang/IllegalArgumentException"][i]? = some e ∧ QX i M1)) : CtrH G mL_tell 9 4 24 [.ref (G.2.2.1 120), .int a1, .int a2, .int a3, .ref (G.2.2.1 158)] M (rI (lwK Q0 QX)) := by
  refine CtrH.of 1 (by decide) (Nat.le_of_ble_eq_true rfl) ?_
  show TJ G mL_tell (sk_R 9 4 24) (sk_K G 4 24 (rI (lwK Q0 QX)) noX) 0 0 0 [some (.ref (G.2.2.1 120)), some (.int a1), some (.int a2), some (.int a3), some (.ref (G.2.2.1 158)), none] [] M
  refine T.ald_4 (q := 2) dL_tell_0 rfl ?_
  refine T.iconst (q := 3) (0) dL_tell_2 rfl (by decide) ?_
  refine T.ald_0 (q := 4) dL_tell_3 rfl ?_
  refine T.ild_1 (q := 5) dL_tell_4 rfl ?_
  refine T.ild_2 (q := 6) dL_tell_5 rfl ?_
  refine T.ild_3 (q := 7) dL_tell_6 rfl ?_
  refine T.cVc (As := [.int a1, .int a2, .int a3]) (c := 120) (ci := 7) (C := RX7) (T := TX7) (N := 9) (t_X7_tell h) w_L_50 cw_X7_tell np_X7_tell rfl (by decide) rfl (by decide) rfl (Nat.le_refl _) (Nat.le_of_ble_eq_true rfl) (by decide) (by decide) rfl (Nat.le_of_ble_eq_true rfl) dL_tell_7 (q := 10) rfl ?_ ?_
  · rintro E9 M9 ⟨i, hi, h9⟩
    rcases i with _ | _ | i
    · obtain rfl : "java/lang/IndexOutOfBoundsException" = E9 := Option.some.inj hi
      refine ⟨[], _, _, rfl, (fun z hz => absurd hz List.not_mem_nil), ⟨by decide, by decide⟩, by decide, kl_24, by decide, fun q9 => ?_⟩
      refine T.ast_5 (q := 17) dL_tell_15 rfl (by decide) sk_ok_r ?_
      refine T.iconst (q := 18) (1) dL_tell_17 rfl (by decide) ?_
      exact T.retI rfl dL_tell_18 (by decide) (by decide) (Or.inr ⟨0, rfl, by decide, h9⟩)
    · obtain rfl : "java/lang/IllegalArgumentException" = E9 := Option.some.inj hi
      refine ⟨[_], _, _, rfl, (fun z hz => by rw [List.mem_singleton] at hz; subst hz; exact ⟨by decide, _, kl_24, by decide⟩), ⟨by decide, by decide⟩, by decide, kl_13, by decide, fun q9 => ?_⟩
      refine T.ast_5 (q := 21) dL_tell_19 rfl (by decide) sk_ok_r ?_
      refine T.iconst (q := 22) (2) dL_tell_21 rfl (by decide) ?_
      exact T.retI rfl dL_tell_22 (by decide) (by decide) (Or.inr ⟨1, rfl, by decide, h9⟩)
    · exact absurd hi (by simp)
  · rintro _ M9 ⟨r, rfl, h9⟩
    refine T.i2l (q := 11) dL_tell_10 rfl ?_
    refine T.lastk (n := 1) rfl rfl (by decide) dL_tell_11 (q := 12) rfl (k9 := 0) (by decide) ?_
    refine T.goto (tgt := 23) dL_tell_12 (by decide) ?_
    refine T.iconst (q := 24) (0) dL_tell_23 rfl (by decide) ?_
    exact T.retI rfl dL_tell_24 (by decide) (by decide) (Or.inl ⟨rfl, h9⟩)
theorem t_L_forget {G : sk_G} {M : sk_M} {a1 : Int32} {a2 : Int32} {Q0 : sk_M → Prop} {QX : Nat → sk_M → Prop} (h : w_X7_forget a1 a2 M (fun r M1 => Q0 (sk_sl M1 158 0 r.toInt64)) (fun e M1 => ∃ i, ["java/lang/IndexOutOfBoundsException"][i]? = some e ∧ QX i M1)) : CtrH G mL_forget 8 2 12 [.ref (G.2.2.1 120), .int a1, .int a2, .ref (G.2.2.1 158)] M (rI (lwK Q0 QX)) := by
  refine CtrH.of 1 (by decide) (Nat.le_of_ble_eq_true rfl) ?_
  show TJ G mL_forget (sk_R 8 2 12) (sk_K G 2 12 (rI (lwK Q0 QX)) noX) 0 0 0 [some (.ref (G.2.2.1 120)), some (.int a1), some (.int a2), some (.ref (G.2.2.1 158)), none] [] M
  refine T.ald_3 (q := 1) dL_forget_0 rfl ?_
  refine T.iconst (q := 2) (0) dL_forget_1 rfl (by decide) ?_
  refine T.ald_0 (q := 3) dL_forget_2 rfl ?_
  refine T.ild_1 (q := 4) dL_forget_3 rfl ?_
  refine T.ild_2 (q := 5) dL_forget_4 rfl ?_
  refine T.cVc (As := [.int a1, .int a2]) (c := 120) (ci := 7) (C := RX7) (T := TX7) (N := 9) (t_X7_forget h) w_L_53 cw_X7_forget np_X7_forget rfl (by decide) rfl (by decide) rfl (Nat.le_refl _) (Nat.le_of_ble_eq_true rfl) (by decide) (by decide) rfl (Nat.le_of_ble_eq_true rfl) dL_forget_5 (q := 8) rfl ?_ ?_
  · rintro E9 M9 ⟨i, hi, h9⟩
    rcases i with _ | i
    · obtain rfl : "java/lang/IndexOutOfBoundsException" = E9 := Option.some.inj hi
      refine ⟨[], _, _, rfl, (fun z hz => absurd hz List.not_mem_nil), ⟨by decide, by decide⟩, by decide, kl_24, by decide, fun q9 => ?_⟩
      refine T.ast_4 (q := 15) dL_forget_13 rfl (by decide) sk_ok_r ?_
      refine T.iconst (q := 16) (1) dL_forget_15 rfl (by decide) ?_
      exact T.retI rfl dL_forget_16 (by decide) (by decide) (Or.inr ⟨0, rfl, by decide, h9⟩)
    · exact absurd hi (by simp)
  · rintro _ M9 ⟨r, rfl, h9⟩
    refine T.i2l (q := 9) dL_forget_8 rfl ?_
    refine T.lastk (n := 1) rfl rfl (by decide) dL_forget_9 (q := 10) rfl (k9 := 0) (by decide) ?_
    refine T.goto (tgt := 17) dL_forget_10 (by decide) ?_
    refine T.iconst (q := 18) (0) dL_forget_17 rfl (by decide) ?_
    exact T.retI rfl dL_forget_18 (by decide) (by decide) (Or.inl ⟨rfl, h9⟩)
theorem t_L_change {G : sk_G} {M : sk_M} {a1 : Int32} {a2 : Int32} {Q0 : sk_M → Prop} {QX : Nat → sk_M → Prop} (h : w_X7_change a1 a2 M (fun r M1 => Q0 (sk_sl M1 158 0 r.toInt64)) (fun e M1 => ∃ i, ["java/lang/IndexOutOfBoundsException"][i]? = some e ∧ QX i M1)) : CtrH G mL_change 8 2 12 [.ref (G.2.2.1 120), .int a1, .int a2, .ref (G.2.2.1 158)] M (rI (lwK Q0 QX)) := by
  refine CtrH.of 1 (by decide) (Nat.le_of_ble_eq_true rfl) ?_
  show TJ G mL_change (sk_R 8 2 12) (sk_K G 2 12 (rI (lwK Q0 QX)) noX) 0 0 0 [some (.ref (G.2.2.1 120)), some (.int a1), some (.int a2), some (.ref (G.2.2.1 158)), none] [] M
  refine T.ald_3 (q := 1) dL_change_0 rfl ?_
  refine T.iconst (q := 2) (0) dL_change_1 rfl (by decide) ?_
  refine T.ald_0 (q := 3) dL_change_2 rfl ?_
  refine T.ild_1 (q := 4) dL_change_3 rfl ?_
  refine T.ild_2 (q := 5) dL_change_4 rfl ?_
  refine T.cVc (As := [.int a1, .int a2]) (c := 120) (ci := 7) (C := RX7) (T := TX7) (N := 9) (t_X7_change h) w_L_56 cw_X7_change np_X7_change rfl (by decide) rfl (by decide) rfl (Nat.le_refl _) (Nat.le_of_ble_eq_true rfl) (by decide) (by decide) rfl (Nat.le_of_ble_eq_true rfl) dL_change_5 (q := 8) rfl ?_ ?_
  · rintro E9 M9 ⟨i, hi, h9⟩
    rcases i with _ | i
    · obtain rfl : "java/lang/IndexOutOfBoundsException" = E9 := Option.some.inj hi
      refine ⟨[], _, _, rfl, (fun z hz => absurd hz List.not_mem_nil), ⟨by decide, by decide⟩, by decide, kl_24, by decide, fun q9 => ?_⟩
      refine T.ast_4 (q := 15) dL_change_13 rfl (by decide) sk_ok_r ?_
      refine T.iconst (q := 16) (1) dL_change_15 rfl (by decide) ?_
      exact T.retI rfl dL_change_16 (by decide) (by decide) (Or.inr ⟨0, rfl, by decide, h9⟩)
    · exact absurd hi (by simp)
  · rintro _ M9 ⟨r, rfl, h9⟩
    refine T.i2l (q := 9) dL_change_8 rfl ?_
    refine T.lastk (n := 1) rfl rfl (by decide) dL_change_9 (q := 10) rfl (k9 := 0) (by decide) ?_
    refine T.goto (tgt := 17) dL_change_10 (by decide) ?_
    refine T.iconst (q := 18) (0) dL_change_17 rfl (by decide) ?_
    exact T.retI rfl dL_change_18 (by decide) (by decide) (Or.inl ⟨rfl, h9⟩)
theorem t_L_guard {G : sk_G} {M : sk_M} {a1 : Int32} {a2 : Int32} {a3 : Int32} {Q0 : sk_M → Prop} {QX : Nat → sk_M → Prop} (h : w_X7_guard a1 a2 a3 M (fun r M1 => Q0 (sk_sl M1 158 0 (if r = 0 then 0 else 1))) (fun e M1 => ∃ i, ["java/lang/IndexOutOfBoundsException", "java/lang/IllegalArgumentException"][i]? = some e ∧ QX i M1)) : CtrH G mL_guard 8 2 12 [.ref (G.2.2.1 120), .int a1, .int a2, .int a3, .ref (G.2.2.1 158)] M (rI (lwK Q0 QX)) := by
  refine CtrH.of 1 (by decide) (Nat.le_of_ble_eq_true rfl) ?_
  show TJ G mL_guard (sk_R 8 2 12) (sk_K G 2 12 (rI (lwK Q0 QX)) noX) 0 0 0 [some (.ref (G.2.2.1 120)), some (.int a1), some (.int a2), some (.int a3), some (.ref (G.2.2.1 158)), none] [] M
  refine T.ald_4 (q := 2) dL_guard_0 rfl ?_
  refine T.iconst (q := 3) (0) dL_guard_2 rfl (by decide) ?_
  refine T.ald_0 (q := 4) dL_guard_3 rfl ?_
  refine T.ild_1 (q := 5) dL_guard_4 rfl ?_
  refine T.ild_2 (q := 6) dL_guard_5 rfl ?_
  refine T.ild_3 (q := 7) dL_guard_6 rfl ?_
  refine T.cVc (As := [.int a1, .int a2, .int a3]) (c := 120) (ci := 7) (C := RX7) (T := TX7) (N := 9) (t_X7_guard h) w_L_59 cw_X7_guard np_X7_guard rfl (by decide) rfl (by decide) rfl (Nat.le_refl _) (Nat.le_of_ble_eq_true rfl) (by decide) (by decide) rfl (Nat.le_of_ble_eq_true rfl) dL_guard_7 (q := 10) rfl ?_ ?_
  · rintro E9 M9 ⟨i, hi, h9⟩
    rcases i with _ | _ | i
    · obtain rfl : "java/lang/IndexOutOfBoundsException" = E9 := Option.some.inj hi
      refine ⟨[], _, _, rfl, (fun z hz => absurd hz List.not_mem_nil), ⟨by decide, by decide⟩, by decide, kl_24, by decide, fun q9 => ?_⟩
      refine T.ast_5 (q := 24) dL_guard_22 rfl (by decide) sk_ok_r ?_
      refine T.iconst (q := 25) (1) dL_guard_24 rfl (by decide) ?_
      exact T.retI rfl dL_guard_25 (by decide) (by decide) (Or.inr ⟨0, rfl, by decide, h9⟩)
    · obtain rfl : "java/lang/IllegalArgumentException" = E9 := Option.some.inj hi
      refine ⟨[_], _, _, rfl, (fun z hz => by rw [List.mem_singleton] at hz; subst hz; exact ⟨by decide, _, kl_24, by decide⟩), ⟨by decide, by decide⟩, by decide, kl_13, by decide, fun q9 => ?_⟩
      refine T.ast_5 (q := 28) dL_guard_26 rfl (by decide) sk_ok_r ?_
      refine T.iconst (q := 29) (2) dL_guard_28 rfl (by decide) ?_
      exact T.retI rfl dL_guard_29 (by decide) (by decide) (Or.inr ⟨1, rfl, by decide, h9⟩)
    · exact absurd hi (by simp)
  · rintro _ M9 ⟨r, rfl, h9⟩
    refine T.if_eq (tgt := 17) (q := 13) dL_guard_10 (by decide) rfl (fun h5 => ?_) (fun h5 => ?_)
    · rw [if_pos h5] at h9
      refine T.lconst (q := 18) (0) dL_guard_17 rfl (by decide) ?_
      refine T.lastk (n := 1) rfl rfl (by decide) dL_guard_18 (q := 19) rfl (k9 := 0) (by decide) ?_
      refine T.goto (tgt := 30) dL_guard_19 (by decide) ?_
      refine T.iconst (q := 31) (0) dL_guard_30 rfl (by decide) ?_
      exact T.retI rfl dL_guard_31 (by decide) (by decide) (Or.inl ⟨rfl, h9⟩)
    · rw [if_neg h5] at h9
      refine T.lconst (q := 14) (1) dL_guard_13 rfl (by decide) ?_
      refine T.goto (tgt := 18) dL_guard_14 (by decide) ?_
      refine T.lastk (n := 1) rfl rfl (by decide) dL_guard_18 (q := 19) rfl (k9 := 0) (by decide) ?_
      refine T.goto (tgt := 30) dL_guard_19 (by decide) ?_
      refine T.iconst (q := 31) (0) dL_guard_30 rfl (by decide) ?_
      exact T.retI rfl dL_guard_31 (by decide) (by decide) (Or.inl ⟨rfl, h9⟩)
theorem t_L_days {G : sk_G} {M : sk_M} {a1 : Int32} {Q0 : sk_M → Prop} {QX : Nat → sk_M → Prop} (h : w_X7_days a1 M (fun r M1 => Q0 (sk_sl M1 158 0 r.toInt64)) (fun e M1 => ∃ i, ["java/lang/IllegalArgumentException"][i]? = some e ∧ QX i M1)) : CtrH G mL_days 7 1 6 [.ref (G.2.2.1 120), .int a1, .ref (G.2.2.1 158)] M (rI (lwK Q0 QX)) := by
  refine CtrH.of 1 (by decide) (Nat.le_of_ble_eq_true rfl) ?_
  show TJ G mL_days (sk_R 7 1 6) (sk_K G 1 6 (rI (lwK Q0 QX)) noX) 0 0 0 [some (.ref (G.2.2.1 120)), some (.int a1), some (.ref (G.2.2.1 158)), none] [] M
  refine T.ald_2 (q := 1) dL_days_0 rfl ?_
  refine T.iconst (q := 2) (0) dL_days_1 rfl (by decide) ?_
  refine T.ald_0 (q := 3) dL_days_2 rfl ?_
  refine T.ild_1 (q := 4) dL_days_3 rfl ?_
  refine T.cVc (As := [.int a1]) (c := 120) (ci := 7) (C := RX7) (T := TX7) (N := 9) (t_X7_days h) w_L_63 cw_X7_days np_X7_days rfl (by decide) rfl (by decide) rfl (Nat.le_refl _) (Nat.le_of_ble_eq_true rfl) (by decide) (by decide) rfl (Nat.le_of_ble_eq_true rfl) dL_days_4 (q := 7) rfl ?_ ?_
  · rintro E9 M9 ⟨i, hi, h9⟩
    rcases i with _ | i
    · obtain rfl : "java/lang/IllegalArgumentException" = E9 := Option.some.inj hi
      refine ⟨[], _, _, rfl, (fun z hz => absurd hz List.not_mem_nil), ⟨by decide, by decide⟩, by decide, kl_13, by decide, fun q9 => ?_⟩
      refine T.ast_3 (q := 13) dL_days_12 rfl (by decide) sk_ok_r ?_
      refine T.iconst (q := 14) (1) dL_days_13 rfl (by decide) ?_
      exact T.retI rfl dL_days_14 (by decide) (by decide) (Or.inr ⟨0, rfl, by decide, h9⟩)
    · exact absurd hi (by simp)
  · rintro _ M9 ⟨r, rfl, h9⟩
    refine T.i2l (q := 8) dL_days_7 rfl ?_
    refine T.lastk (n := 1) rfl rfl (by decide) dL_days_8 (q := 9) rfl (k9 := 0) (by decide) ?_
    refine T.goto (tgt := 15) dL_days_9 (by decide) ?_
    refine T.iconst (q := 16) (0) dL_days_15 rfl (by decide) ?_
    exact T.retI rfl dL_days_16 (by decide) (by decide) (Or.inl ⟨rfl, h9⟩)
theorem t_L_parts {G : sk_G} {M : sk_M} {a1 : Int32} {a2 : Int32} {a3 : Int32} {a4 : Int32} {Q0 : sk_M → Prop} {QX : Nat → sk_M → Prop} (h : w_X7_parts a1 a2 a3 a4 M (fun r M1 => Q0 (sk_sl M1 158 0 r.toInt64)) (fun e M1 => ∃ i, ["java/lang/IndexOutOfBoundsException"][i]? = some e ∧ QX i M1)) : CtrH G mL_parts 8 3 18 [.ref (G.2.2.1 120), .int a1, .int a2, .int a3, .int a4, .ref (G.2.2.1 158)] M (rI (lwK Q0 QX)) := by
  refine CtrH.of 1 (by decide) (Nat.le_of_ble_eq_true rfl) ?_
  show TJ G mL_parts (sk_R 8 3 18) (sk_K G 3 18 (rI (lwK Q0 QX)) noX) 0 0 0 [some (.ref (G.2.2.1 120)), some (.int a1), some (.int a2), some (.int a3), some (.int a4), some (.ref (G.2.2.1 158)), none] [] M
  refine T.ald_5 (q := 2) dL_parts_0 rfl ?_
  refine T.iconst (q := 3) (0) dL_parts_2 rfl (by decide) ?_
  refine T.ald_0 (q := 4) dL_parts_3 rfl ?_
  refine T.ild_1 (q := 5) dL_parts_4 rfl ?_
  refine T.ild_2 (q := 6) dL_parts_5 rfl ?_
  refine T.ild_3 (q := 7) dL_parts_6 rfl ?_
  refine T.ild_4 (q := 9) dL_parts_7 rfl ?_
  refine T.cVc (As := [.int a1, .int a2, .int a3, .int a4]) (c := 120) (ci := 7) (C := RX7) (T := TX7) (N := 9) (t_X7_parts h) w_L_67 cw_X7_parts np_X7_parts rfl (by decide) rfl (by decide) rfl (Nat.le_refl _) (Nat.le_of_ble_eq_true rfl) (by decide) (by decide) rfl (Nat.le_of_ble_eq_true rfl) dL_parts_9 (q := 12) rfl ?_ ?_
  · rintro E9 M9 ⟨i, hi, h9⟩
    rcases i with _ | i
    · obtain rfl : "java/lang/IndexOutOfBoundsException" = E9 := Option.some.inj hi
      refine ⟨[], _, _, rfl, (fun z hz => absurd hz List.not_mem_nil), ⟨by decide, by decide⟩, by decide, kl_24, by decide, fun q9 => ?_⟩
      refine T.ast_6 (q := 19) dL_parts_17 rfl (by decide) sk_ok_r ?_
      refine T.iconst (q := 20) (1) dL_parts_19 rfl (by decide) ?_
      exact T.retI rfl dL_parts_20 (by decide) (by decide) (Or.inr ⟨0, rfl, by decide, h9⟩)
    · exact absurd hi (by simp)
  · rintro _ M9 ⟨r, rfl, h9⟩
    refine T.i2l (q := 13) dL_parts_12 rfl ?_
    refine T.lastk (n := 1) rfl rfl (by decide) dL_parts_13 (q := 14) rfl (k9 := 0) (by decide) ?_
    refine T.goto (tgt := 21) dL_parts_14 (by decide) ?_
    refine T.iconst (q := 22) (0) dL_parts_21 rfl (by decide) ?_
    exact T.retI rfl dL_parts_22 (by decide) (by decide) (Or.inl ⟨rfl, h9⟩)
theorem t_L_next {G : sk_G} {M : sk_M} {a1 : Int32} {a2 : Int32} {Q0 : sk_M → Prop} {QX : Nat → sk_M → Prop} (h : w_X7_next a1 a2 M (fun r M1 => Q0 (sk_sl M1 158 0 r.toInt64)) (fun e M1 => ∃ i, ["java/lang/IndexOutOfBoundsException"][i]? = some e ∧ QX i M1)) : CtrH G mL_next 8 2 12 [.ref (G.2.2.1 120), .int a1, .int a2, .ref (G.2.2.1 158)] M (rI (lwK Q0 QX)) := by
  refine CtrH.of 1 (by decide) (Nat.le_of_ble_eq_true rfl) ?_
  show TJ G mL_next (sk_R 8 2 12) (sk_K G 2 12 (rI (lwK Q0 QX)) noX) 0 0 0 [some (.ref (G.2.2.1 120)), some (.int a1), some (.int a2), some (.ref (G.2.2.1 158)), none] [] M
  refine T.ald_3 (q := 1) dL_next_0 rfl ?_
  refine T.iconst (q := 2) (0) dL_next_1 rfl (by decide) ?_
  refine T.ald_0 (q := 3) dL_next_2 rfl ?_
  refine T.ild_1 (q := 4) dL_next_3 rfl ?_
  refine T.ild_2 (q := 5) dL_next_4 rfl ?_
  refine T.cVc (As := [.int a1, .int a2]) (c := 120) (ci := 7) (C := RX7) (T := TX7) (N := 9) (t_X7_next h) w_L_70 cw_X7_next np_X7_next rfl (by decide) rfl (by decide) rfl (Nat.le_refl _) (Nat.le_of_ble_eq_true rfl) (by decide) (by decide) rfl (Nat.le_of_ble_eq_true rfl) dL_next_5 (q := 8) rfl ?_ ?_
  · rintro E9 M9 ⟨i, hi, h9⟩
    rcases i with _ | i
    · obtain rfl : "java/lang/IndexOutOfBoundsException" = E9 := Option.some.inj hi
      refine ⟨[], _, _, rfl, (fun z hz => absurd hz List.not_mem_nil), ⟨by decide, by decide⟩, by decide, kl_24, by decide, fun q9 => ?_⟩
      refine T.ast_4 (q := 15) dL_next_13 rfl (by decide) sk_ok_r ?_
      refine T.iconst (q := 16) (1) dL_next_15 rfl (by decide) ?_
      exact T.retI rfl dL_next_16 (by decide) (by decide) (Or.inr ⟨0, rfl, by decide, h9⟩)
    · exact absurd hi (by simp)
  · rintro _ M9 ⟨r, rfl, h9⟩
    refine T.i2l (q := 9) dL_next_8 rfl ?_
    refine T.lastk (n := 1) rfl rfl (by decide) dL_next_9 (q := 10) rfl (k9 := 0) (by decide) ?_
    refine T.goto (tgt := 17) dL_next_10 (by decide) ?_
    refine T.iconst (q := 18) (0) dL_next_17 rfl (by decide) ?_
    exact T.retI rfl dL_next_18 (by decide) (by decide) (Or.inl ⟨rfl, h9⟩)
theorem t_L_outright {G : sk_G} {M : sk_M} {a1 : Int32} {a2 : Int32} {Q0 : sk_M → Prop} {QX : Nat → sk_M → Prop} (h : w_X7_outright a1 a2 M (fun r M1 => Q0 (sk_sl M1 158 0 r.toInt64)) (fun e M1 => ∃ i, ["java/lang/IndexOutOfBoundsException"][i]? = some e ∧ QX i M1)) : CtrH G mL_outright 8 2 12 [.ref (G.2.2.1 120), .int a1, .int a2, .ref (G.2.2.1 158)] M (rI (lwK Q0 QX)) := by
  refine CtrH.of 1 (by decide) (Nat.le_of_ble_eq_true rfl) ?_
  show TJ G mL_outright (sk_R 8 2 12) (sk_K G 2 12 (rI (lwK Q0 QX)) noX) 0 0 0 [some (.ref (G.2.2.1 120)), some (.int a1), some (.int a2), some (.ref (G.2.2.1 158)), none] [] M
  refine T.ald_3 (q := 1) dL_outright_0 rfl ?_
  refine T.iconst (q := 2) (0) dL_outright_1 rfl (by decide) ?_
  refine T.ald_0 (q := 3) dL_outright_2 rfl ?_
  refine T.ild_1 (q := 4) dL_outright_3 rfl ?_
  refine T.ild_2 (q := 5) dL_outright_4 rfl ?_
  refine T.cVc (As := [.int a1, .int a2]) (c := 120) (ci := 7) (C := RX7) (T := TX7) (N := 9) (t_X7_outright h) w_L_73 cw_X7_outright np_X7_outright rfl (by decide) rfl (by decide) rfl (Nat.le_refl _) (Nat.le_of_ble_eq_true rfl) (by decide) (by decide) rfl (Nat.le_of_ble_eq_true rfl) dL_outright_5 (q := 8) rfl ?_ ?_
  · rintro E9 M9 ⟨i, hi, h9⟩
    rcases i with _ | i
    · obtain rfl : "java/lang/IndexOutOfBoundsException" = E9 := Option.some.inj hi
      refine ⟨[], _, _, rfl, (fun z hz => absurd hz List.not_mem_nil), ⟨by decide, by decide⟩, by decide, kl_24, by decide, fun q9 => ?_⟩
      refine T.ast_4 (q := 15) dL_outright_13 rfl (by decide) sk_ok_r ?_
      refine T.iconst (q := 16) (1) dL_outright_15 rfl (by decide) ?_
      exact T.retI rfl dL_outright_16 (by decide) (by decide) (Or.inr ⟨0, rfl, by decide, h9⟩)
    · exact absurd hi (by simp)
  · rintro _ M9 ⟨r, rfl, h9⟩
    refine T.i2l (q := 9) dL_outright_8 rfl ?_
    refine T.lastk (n := 1) rfl rfl (by decide) dL_outright_9 (q := 10) rfl (k9 := 0) (by decide) ?_
    refine T.goto (tgt := 17) dL_outright_10 (by decide) ?_
    refine T.iconst (q := 18) (0) dL_outright_17 rfl (by decide) ?_
    exact T.retI rfl dL_outright_18 (by decide) (by decide) (Or.inl ⟨rfl, h9⟩)
theorem t_L_worst {G : sk_G} {M : sk_M} {a1 : Int32} {a2 : Int32} {Q0 : sk_M → Prop} {QX : Nat → sk_M → Prop} (h : w_X7_worst a1 a2 M (fun r M1 => Q0 (sk_sl M1 158 0 r.toInt64)) (fun e M1 => ∃ i, ["java/lang/IndexOutOfBoundsException"][i]? = some e ∧ QX i M1)) : CtrH G mL_worst 8 2 12 [.ref (G.2.2.1 120), .int a1, .int a2, .ref (G.2.2.1 158)] M (rI (lwK Q0 QX)) := by
  refine CtrH.of 1 (by decide) (Nat.le_of_ble_eq_true rfl) ?_
  show TJ G mL_worst (sk_R 8 2 12) (sk_K G 2 12 (rI (lwK Q0 QX)) noX) 0 0 0 [some (.ref (G.2.2.1 120)), some (.int a1), some (.int a2), some (.ref (G.2.2.1 158)), none] [] M
  refine T.ald_3 (q := 1) dL_worst_0 rfl ?_
  refine T.iconst (q := 2) (0) dL_worst_1 rfl (by decide) ?_
  refine T.ald_0 (q := 3) dL_worst_2 rfl ?_
  refine T.ild_1 (q := 4) dL_worst_3 rfl ?_
  refine T.ild_2 (q := 5) dL_worst_4 rfl ?_
  refine T.cVc (As := [.int a1, .int a2]) (c := 120) (ci := 7) (C := RX7) (T := TX7) (N := 9) (t_X7_worst h) w_L_76 cw_X7_worst np_X7_worst rfl (by decide) rfl (by decide) rfl (Nat.le_refl _) (Nat.le_of_ble_eq_true rfl) (by decide) (by decide) rfl (Nat.le_of_ble_eq_true rfl) dL_worst_5 (q := 8) rfl ?_ ?_
  · rintro E9 M9 ⟨i, hi, h9⟩
    rcases i with _ | i
    · obtain rfl : "java/lang/IndexOutOfBoundsException" = E9 := Option.some.inj hi
      refine ⟨[], _, _, rfl, (fun z hz => absurd hz List.not_mem_nil), ⟨by decide, by decide⟩, by decide, kl_24, by decide, fun q9 => ?_⟩
      refine T.ast_4 (q := 15) dL_worst_13 rfl (by decide) sk_ok_r ?_
      refine T.iconst (q := 16) (1) dL_worst_15 rfl (by decide) ?_
      exact T.retI rfl dL_worst_16 (by decide) (by decide) (Or.inr ⟨0, rfl, by decide, h9⟩)
    · exact absurd hi (by simp)
  · rintro _ M9 ⟨r, rfl, h9⟩
    refine T.i2l (q := 9) dL_worst_8 rfl ?_
    refine T.lastk (n := 1) rfl rfl (by decide) dL_worst_9 (q := 10) rfl (k9 := 0) (by decide) ?_
    refine T.goto (tgt := 17) dL_worst_10 (by decide) ?_
    refine T.iconst (q := 18) (0) dL_worst_17 rfl (by decide) ?_
    exact T.retI rfl dL_worst_18 (by decide) (by decide) (Or.inl ⟨rfl, h9⟩)
theorem t_L_quietest {G : sk_G} {M : sk_M} {a1 : Int32} {Q0 : sk_M → Prop} {QX : Nat → sk_M → Prop} (h : w_X7_quietest a1 M (fun r M1 => Q0 (sk_sl M1 158 0 r.toInt64)) (fun e M1 => ∃ i, ["java/lang/IndexOutOfBoundsException"][i]? = some e ∧ QX i M1)) : CtrH G mL_quietest 8 1 6 [.ref (G.2.2.1 120), .int a1, .ref (G.2.2.1 158)] M (rI (lwK Q0 QX)) := by
  refine CtrH.of 1 (by decide) (Nat.le_of_ble_eq_true rfl) ?_
  show TJ G mL_quietest (sk_R 8 1 6) (sk_K G 1 6 (rI (lwK Q0 QX)) noX) 0 0 0 [some (.ref (G.2.2.1 120)), some (.int a1), some (.ref (G.2.2.1 158)), none] [] M
  refine T.ald_2 (q := 1) dL_quietest_0 rfl ?_
  refine T.iconst (q := 2) (0) dL_quietest_1 rfl (by decide) ?_
  refine T.ald_0 (q := 3) dL_quietest_2 rfl ?_
  refine T.ild_1 (q := 4) dL_quietest_3 rfl ?_
  refine T.cVc (As := [.int a1]) (c := 120) (ci := 7) (C := RX7) (T := TX7) (N := 9) (t_X7_quietest h) w_L_79 cw_X7_quietest np_X7_quietest rfl (by decide) rfl (by decide) rfl (Nat.le_refl _) (Nat.le_of_ble_eq_true rfl) (by decide) (by decide) rfl (Nat.le_of_ble_eq_true rfl) dL_quietest_4 (q := 7) rfl ?_ ?_
  · rintro E9 M9 ⟨i, hi, h9⟩
    rcases i with _ | i
    · obtain rfl : "java/lang/IndexOutOfBoundsException" = E9 := Option.some.inj hi
      refine ⟨[], _, _, rfl, (fun z hz => absurd hz List.not_mem_nil), ⟨by decide, by decide⟩, by decide, kl_24, by decide, fun q9 => ?_⟩
      refine T.ast_3 (q := 13) dL_quietest_12 rfl (by decide) sk_ok_r ?_
      refine T.iconst (q := 14) (1) dL_quietest_13 rfl (by decide) ?_
      exact T.retI rfl dL_quietest_14 (by decide) (by decide) (Or.inr ⟨0, rfl, by decide, h9⟩)
    · exact absurd hi (by simp)
  · rintro _ M9 ⟨r, rfl, h9⟩
    refine T.i2l (q := 8) dL_quietest_7 rfl ?_
    refine T.lastk (n := 1) rfl rfl (by decide) dL_quietest_8 (q := 9) rfl (k9 := 0) (by decide) ?_
    refine T.goto (tgt := 15) dL_quietest_9 (by decide) ?_
    refine T.iconst (q := 16) (0) dL_quietest_15 rfl (by decide) ?_
    exact T.retI rfl dL_quietest_16 (by decide) (by decide) (Or.inl ⟨rfl, h9⟩)
theorem t_L_alone {G : sk_G} {M : sk_M} {a1 : Int32} {Q0 : sk_M → Prop} {QX : Nat → sk_M → Prop} (h : w_X7_alone a1 M (fun r => Q0 (sk_sl M 158 0 r.toInt64)) (fun e => ∃ i, ["java/lang/IndexOutOfBoundsException"][i]? = some e ∧ QX i M)) : CtrH G mL_alone 8 1 6 [.ref (G.2.2.1 120), .int a1, .ref (G.2.2.1 158)] M (rI (lwK Q0 QX)) := by
  refine CtrH.of 1 (by decide) (Nat.le_of_ble_eq_true rfl) ?_
  show TJ G mL_alone (sk_R 8 1 6) (sk_K G 1 6 (rI (lwK Q0 QX)) noX) 0 0 0 [some (.ref (G.2.2.1 120)), some (.int a1), some (.ref (G.2.2.1 158)), none] [] M
  refine T.ald_2 (q := 1) dL_alone_0 rfl ?_
  refine T.iconst (q := 2) (0) dL_alone_1 rfl (by decide) ?_
  refine T.ald_0 (q := 3) dL_alone_2 rfl ?_
  refine T.ild_1 (q := 4) dL_alone_3 rfl ?_
  refine T.cVc (As := [.int a1]) (c := 120) (ci := 7) (C := RX7) (T := TX7) (N := 9) (t_X7_alone h) w_L_82 cw_X7_alone np_X7_alone rfl (by decide) rfl (by decide) rfl (Nat.le_refl _) (Nat.le_of_ble_eq_true rfl) (by decide) (by decide) rfl (Nat.le_of_ble_eq_true rfl) dL_alone_4 (q := 7) rfl ?_ ?_
  · rintro E9 M9 ⟨⟨i, hi, h9⟩, rfl⟩
    rcases i with _ | i
    · obtain rfl : "java/lang/IndexOutOfBoundsException" = E9 := Option.some.inj hi
      refine ⟨[], _, _, rfl, (fun z hz => absurd hz List.not_mem_nil), ⟨by decide, by decide⟩, by decide, kl_24, by decide, fun q9 => ?_⟩
      refine T.ast_3 (q := 13) dL_alone_12 rfl (by decide) sk_ok_r ?_
      refine T.iconst (q := 14) (1) dL_alone_13 rfl (by decide) ?_
      exact T.retI rfl dL_alone_14 (by decide) (by decide) (Or.inr ⟨0, rfl, by decide, h9⟩)
    · exact absurd hi (by simp)
  · rintro _ M9 ⟨r, rfl, h9, rfl⟩
    refine T.i2l (q := 8) dL_alone_7 rfl ?_
    refine T.lastk (n := 1) rfl rfl (by decide) dL_alone_8 (q := 9) rfl (k9 := 0) (by decide) ?_
    refine T.goto (tgt := 15) dL_alone_9 (by decide) ?_
    refine T.iconst (q := 16) (0) dL_alone_15 rfl (by decide) ?_
    exact T.retI rfl dL_alone_16 (by decide) (by decide) (Or.inl ⟨rfl, h9⟩)
theorem t_L_together {G : sk_G} {M : sk_M} {a1 : Int32} {a2 : Int32} {Q0 : sk_M → Prop} {QX : Nat → sk_M → Prop} (h : w_X7_together a1 a2 M (fun r => Q0 (sk_sl M 158 0 (if r = 0 then 0 else 1))) (fun e => ∃ i, ["java/lang/IndexOutOfBoundsException"][i]? = some e ∧ QX i M)) : CtrH G mL_together 8 1 6 [.ref (G.2.2.1 120), .int a1, .int a2, .ref (G.2.2.1 158)] M (rI (lwK Q0 QX)) := by
  refine CtrH.of 1 (by decide) (Nat.le_of_ble_eq_true rfl) ?_
  show TJ G mL_together (sk_R 8 1 6) (sk_K G 1 6 (rI (lwK Q0 QX)) noX) 0 0 0 [some (.ref (G.2.2.1 120)), some (.int a1), some (.int a2), some (.ref (G.2.2.1 158)), none] [] M
  refine T.ald_3 (q := 1) dL_together_0 rfl ?_
  refine T.iconst (q := 2) (0) dL_together_1 rfl (by decide) ?_
  refine T.ald_0 (q := 3) dL_together_2 rfl ?_
  refine T.ild_1 (q := 4) dL_together_3 rfl ?_
  refine T.ild_2 (q := 5) dL_together_4 rfl ?_
  refine T.cVc (As := [.int a1, .int a2]) (c := 120) (ci := 7) (C := RX7) (T := TX7) (N := 9) (t_X7_together h) w_L_85 cw_X7_together np_X7_together rfl (by decide) rfl (by decide) rfl (Nat.le_refl _) (Nat.le_of_ble_eq_true rfl) (by decide) (by decide) rfl (Nat.le_of_ble_eq_true rfl) dL_together_5 (q := 8) rfl ?_ ?_
  · rintro E9 M9 ⟨⟨i, hi, h9⟩, rfl⟩
    rcases i with _ | i
    · obtain rfl : "java/lang/IndexOutOfBoundsException" = E9 := Option.some.inj hi
      refine ⟨[], _, _, rfl, (fun z hz => absurd hz List.not_mem_nil), ⟨by decide, by decide⟩, by decide, kl_24, by decide, fun q9 => ?_⟩
      refine T.ast_4 (q := 22) dL_together_20 rfl (by decide) sk_ok_r ?_
      refine T.iconst (q := 23) (1) dL_together_22 rfl (by decide) ?_
      exact T.retI rfl dL_together_23 (by decide) (by decide) (Or.inr ⟨0, rfl, by decide, h9⟩)
    · exact absurd hi (by simp)
  · rintro _ M9 ⟨r, rfl, h9, rfl⟩
    refine T.if_eq (tgt := 15) (q := 11) dL_together_8 (by decide) rfl (fun h5 => ?_) (fun h5 => ?_)
    · rw [if_pos h5] at h9
      refine T.lconst (q := 16) (0) dL_together_15 rfl (by decide) ?_
      refine T.lastk (n := 1) rfl rfl (by decide) dL_together_16 (q := 17) rfl (k9 := 0) (by decide) ?_
      refine T.goto (tgt := 24) dL_together_17 (by decide) ?_
      refine T.iconst (q := 25) (0) dL_together_24 rfl (by decide) ?_
      exact T.retI rfl dL_together_25 (by decide) (by decide) (Or.inl ⟨rfl, h9⟩)
    · rw [if_neg h5] at h9
      refine T.lconst (q := 12) (1) dL_together_11 rfl (by decide) ?_
      refine T.goto (tgt := 16) dL_together_12 (by decide) ?_
      refine T.lastk (n := 1) rfl rfl (by decide) dL_together_16 (q := 17) rfl (k9 := 0) (by decide) ?_
      refine T.goto (tgt := 24) dL_together_17 (by decide) ?_
      refine T.iconst (q := 25) (0) dL_together_24 rfl (by decide) ?_
      exact T.retI rfl dL_together_25 (by decide) (by decide) (Or.inl ⟨rfl, h9⟩)
theorem t_L_fewest {G : sk_G} {M : sk_M} {a1 : Int32} {a2 : Int32} {Q0 : sk_M → Prop} {QX : Nat → sk_M → Prop} (h : w_X7_fewest a1 a2 M (fun r => Q0 (sk_sl M 158 0 r.toInt64)) (fun e => ∃ i, ["java/lang/IndexOutOfBoundsException"][i]? = some e ∧ QX i M)) : CtrH G mL_fewest 8 1 6 [.ref (G.2.2.1 120), .int a1, .int a2, .ref (G.2.2.1 158)] M (rI (lwK Q0 QX)) := by
  refine CtrH.of 1 (by decide) (Nat.le_of_ble_eq_true rfl) ?_
  show TJ G mL_fewest (sk_R 8 1 6) (sk_K G 1 6 (rI (lwK Q0 QX)) noX) 0 0 0 [some (.ref (G.2.2.1 120)), some (.int a1), some (.int a2), some (.ref (G.2.2.1 158)), none] [] M
  refine T.ald_3 (q := 1) dL_fewest_0 rfl ?_
  refine T.iconst (q := 2) (0) dL_fewest_1 rfl (by decide) ?_
  refine T.ald_0 (q := 3) dL_fewest_2 rfl ?_
  refine T.ild_1 (q := 4) dL_fewest_3 rfl ?_
  refine T.ild_2 (q := 5) dL_fewest_4 rfl ?_
  refine T.cVc (As := [.int a1, .int a2]) (c := 120) (ci := 7) (C := RX7) (T := TX7) (N := 9) (t_X7_fewest h) w_L_89 cw_X7_fewest np_X7_fewest rfl (by decide) rfl (by decide) rfl (Nat.le_refl _) (Nat.le_of_ble_eq_true rfl) (by decide) (by decide) rfl (Nat.le_of_ble_eq_true rfl) dL_fewest_5 (q := 8) rfl ?_ ?_
  · rintro E9 M9 ⟨⟨i, hi, h9⟩, rfl⟩
    rcases i with _ | i
    · obtain rfl : "java/lang/IndexOutOfBoundsException" = E9 := Option.some.inj hi
      refine ⟨[], _, _, rfl, (fun z hz => absurd hz List.not_mem_nil), ⟨by decide, by decide⟩, by decide, kl_24, by decide, fun q9 => ?_⟩
      refine T.ast_4 (q := 15) dL_fewest_13 rfl (by decide) sk_ok_r ?_
      refine T.iconst (q := 16) (1) dL_fewest_15 rfl (by decide) ?_
      exact T.retI rfl dL_fewest_16 (by decide) (by decide) (Or.inr ⟨0, rfl, by decide, h9⟩)
    · exact absurd hi (by simp)
  · rintro _ M9 ⟨r, rfl, h9, rfl⟩
    refine T.i2l (q := 9) dL_fewest_8 rfl ?_
    refine T.lastk (n := 1) rfl rfl (by decide) dL_fewest_9 (q := 10) rfl (k9 := 0) (by decide) ?_
    refine T.goto (tgt := 17) dL_fewest_10 (by decide) ?_
    refine T.iconst (q := 18) (0) dL_fewest_17 rfl (by decide) ?_
    exact T.retI rfl dL_fewest_18 (by decide) (by decide) (Or.inl ⟨rfl, h9⟩)
theorem t_L_pair {G : sk_G} {M : sk_M} {a1 : Int32} {Q0 : sk_M → Prop} {QX : Nat → sk_M → Prop} (h : w_X7_pair a1 M (fun r => Q0 (sk_sl M 158 0 r.toInt64)) (fun e => ∃ i, ["java/lang/IndexOutOfBoundsException"][i]? = some e ∧ QX i M)) : CtrH G mL_pair 8 1 6 [.ref (G.2.2.1 120), .int a1, .ref (G.2.2.1 158)] M (rI (lwK Q0 QX)) := by
  refine CtrH.of 1 (by decide) (Nat.le_of_ble_eq_true rfl) ?_
  show TJ G mL_pair (sk_R 8 1 6) (sk_K G 1 6 (rI (lwK Q0 QX)) noX) 0 0 0 [some (.ref (G.2.2.1 120)), some (.int a1), some (.ref (G.2.2.1 158)), none] [] M
  refine T.ald_2 (q := 1) dL_pair_0 rfl ?_
  refine T.iconst (q := 2) (0) dL_pair_1 rfl (by decide) ?_
  refine T.ald_0 (q := 3) dL_pair_2 rfl ?_
  refine T.ild_1 (q := 4) dL_pair_3 rfl ?_
  refine T.cVc (As := [.int a1]) (c := 120) (ci := 7) (C := RX7) (T := TX7) (N := 9) (t_X7_pair h) w_L_93 cw_X7_pair np_X7_pair rfl (by decide) rfl (by decide) rfl (Nat.le_refl _) (Nat.le_of_ble_eq_true rfl) (by decide) (by decide) rfl (Nat.le_of_ble_eq_true rfl) dL_pair_4 (q := 7) rfl ?_ ?_
  · rintro E9 M9 ⟨⟨i, hi, h9⟩, rfl⟩
    rcases i with _ | i
    · obtain rfl : "java/lang/IndexOutOfBoundsException" = E9 := Option.some.inj hi
      refine ⟨[], _, _, rfl, (fun z hz => absurd hz List.not_mem_nil), ⟨by decide, by decide⟩, by decide, kl_24, by decide, fun q9 => ?_⟩
      refine T.ast_3 (q := 13) dL_pair_12 rfl (by decide) sk_ok_r ?_
      refine T.iconst (q := 14) (1) dL_pair_13 rfl (by decide) ?_
      exact T.retI rfl dL_pair_14 (by decide) (by decide) (Or.inr ⟨0, rfl, by decide, h9⟩)
    · exact absurd hi (by simp)
  · rintro _ M9 ⟨r, rfl, h9, rfl⟩
    refine T.i2l (q := 8) dL_pair_7 rfl ?_
    refine T.lastk (n := 1) rfl rfl (by decide) dL_pair_8 (q := 9) rfl (k9 := 0) (by decide) ?_
    refine T.goto (tgt := 15) dL_pair_9 (by decide) ?_
    refine T.iconst (q := 16) (0) dL_pair_15 rfl (by decide) ?_
    exact T.retI rfl dL_pair_16 (by decide) (by decide) (Or.inl ⟨rfl, h9⟩)
theorem t_L_gains {G : sk_G} {M : sk_M} {a1 : Int32} {a2 : Int32} {a3 : Int32} {Q0 : sk_M → Prop} {QX : Nat → sk_M → Prop} (h : w_X7_gains a1 a2 a3 M (fun r => Q0 (sk_sl M 158 0 r.toInt64)) (fun e => ∃ i, ["java/lang/IndexOutOfBoundsException", "java/lang/IllegalArgumentException"][i]? = some e ∧ QX i M)) : CtrH G mL_gains 9 4 24 [.ref (G.2.2.1 120), .int a1, .int a2, .int a3, .ref (G.2.2.1 158)] M (rI (lwK Q0 QX)) := by
  refine CtrH.of 1 (by decide) (Nat.le_of_ble_eq_true rfl) ?_
  show TJ G mL_gains (sk_R 9 4 24) (sk_K G 4 24 (rI (lwK Q0 QX)) noX) 0 0 0 [some (.ref (G.2.2.1 120)), some (.int a1), some (.int a2), some (.int a3), some (.ref (G.2.2.1 158)), none] [] M
  refine T.ald_4 (q := 2) dL_gains_0 rfl ?_
  refine T.iconst (q := 3) (0) dL_gains_2 rfl (by decide) ?_
  refine T.ald_0 (q := 4) dL_gains_3 rfl ?_
  refine T.ild_1 (q := 5) dL_gains_4 rfl ?_
  refine T.ild_2 (q := 6) dL_gains_5 rfl ?_
  refine T.ild_3 (q := 7) dL_gains_6 rfl ?_
  refine T.cVc (As := [.int a1, .int a2, .int a3]) (c := 120) (ci := 7) (C := RX7) (T := TX7) (N := 9) (t_X7_gains h) w_L_96 cw_X7_gains np_X7_gains rfl (by decide) rfl (by decide) rfl (Nat.le_refl _) (Nat.le_of_ble_eq_true rfl) (by decide) (by decide) rfl (Nat.le_of_ble_eq_true rfl) dL_gains_7 (q := 10) rfl ?_ ?_
  · rintro E9 M9 ⟨⟨i, hi, h9⟩, rfl⟩
    rcases i with _ | _ | i
    · obtain rfl : "java/lang/IndexOutOfBoundsException" = E9 := Option.some.inj hi
      refine ⟨[], _, _, rfl, (fun z hz => absurd hz List.not_mem_nil), ⟨by decide, by decide⟩, by decide, kl_24, by decide, fun q9 => ?_⟩
      refine T.ast_5 (q := 17) dL_gains_15 rfl (by decide) sk_ok_r ?_
      refine T.iconst (q := 18) (1) dL_gains_17 rfl (by decide) ?_
      exact T.retI rfl dL_gains_18 (by decide) (by decide) (Or.inr ⟨0, rfl, by decide, h9⟩)
    · obtain rfl : "java/lang/IllegalArgumentException" = E9 := Option.some.inj hi
      refine ⟨[_], _, _, rfl, (fun z hz => by rw [List.mem_singleton] at hz; subst hz; exact ⟨by decide, _, kl_24, by decide⟩), ⟨by decide, by decide⟩, by decide, kl_13, by decide, fun q9 => ?_⟩
      refine T.ast_5 (q := 21) dL_gains_19 rfl (by decide) sk_ok_r ?_
      refine T.iconst (q := 22) (2) dL_gains_21 rfl (by decide) ?_
      exact T.retI rfl dL_gains_22 (by decide) (by decide) (Or.inr ⟨1, rfl, by decide, h9⟩)
    · exact absurd hi (by simp)
  · rintro _ M9 ⟨r, rfl, h9, rfl⟩
    refine T.i2l (q := 11) dL_gains_10 rfl ?_
    refine T.lastk (n := 1) rfl rfl (by decide) dL_gains_11 (q := 12) rfl (k9 := 0) (by decide) ?_
    refine T.goto (tgt := 23) dL_gains_12 (by decide) ?_
    refine T.iconst (q := 24) (0) dL_gains_23 rfl (by decide) ?_
    exact T.retI rfl dL_gains_24 (by decide) (by decide) (Or.inl ⟨rfl, h9⟩)
theorem t_L_contract {G : sk_G} {M : sk_M} {a1 : Int32} {a2 : Int32} {Q0 : sk_M → Prop} {QX : Nat → sk_M → Prop} (h : w_X7_contract a1 a2 M (fun r => Q0 (sk_sl M 158 0 r.toInt64)) (fun e => ∃ i, ["java/lang/IndexOutOfBoundsException", "java/util/NoSuchElementException"][i]? = some e ∧ QX i M)) : CtrH G mL_contract 7 1 6 [.ref (G.2.2.1 120), .int a1, .int a2, .ref (G.2.2.1 158)] M (rI (lwK Q0 QX)) := by
  refine CtrH.of 1 (by decide) (Nat.le_of_ble_eq_true rfl) ?_
  show TJ G mL_contract (sk_R 7 1 6) (sk_K G 1 6 (rI (lwK Q0 QX)) noX) 0 0 0 [some (.ref (G.2.2.1 120)), some (.int a1), some (.int a2), some (.ref (G.2.2.1 158)), none] [] M
  refine T.ald_3 (q := 1) dL_contract_0 rfl ?_
  refine T.iconst (q := 2) (0) dL_contract_1 rfl (by decide) ?_
  refine T.ald_0 (q := 3) dL_contract_2 rfl ?_
  refine T.ild_1 (q := 4) dL_contract_3 rfl ?_
  refine T.ild_2 (q := 5) dL_contract_4 rfl ?_
  refine T.cVc (As := [.int a1, .int a2]) (c := 120) (ci := 7) (C := RX7) (T := TX7) (N := 9) (t_X7_contract h) w_L_99 cw_X7_contract np_X7_contract rfl (by decide) rfl (by decide) rfl (Nat.le_refl _) (Nat.le_of_ble_eq_true rfl) (by decide) (by decide) rfl (Nat.le_of_ble_eq_true rfl) dL_contract_5 (q := 8) rfl ?_ ?_
  · rintro E9 M9 ⟨⟨i, hi, h9⟩, rfl⟩
    rcases i with _ | _ | i
    · obtain rfl : "java/lang/IndexOutOfBoundsException" = E9 := Option.some.inj hi
      refine ⟨[], _, _, rfl, (fun z hz => absurd hz List.not_mem_nil), ⟨by decide, by decide⟩, by decide, kl_24, by decide, fun q9 => ?_⟩
      refine T.ast_4 (q := 15) dL_contract_13 rfl (by decide) sk_ok_r ?_
      refine T.iconst (q := 16) (1) dL_contract_15 rfl (by decide) ?_
      exact T.retI rfl dL_contract_16 (by decide) (by decide) (Or.inr ⟨0, rfl, by decide, h9⟩)
    · obtain rfl : "java/util/NoSuchElementException" = E9 := Option.some.inj hi
      refine ⟨[_], _, _, rfl, (fun z hz => by rw [List.mem_singleton] at hz; subst hz; exact ⟨by decide, _, kl_24, by decide⟩), ⟨by decide, by decide⟩, by decide, kl_26, by decide, fun q9 => ?_⟩
      refine T.ast_4 (q := 19) dL_contract_17 rfl (by decide) sk_ok_r ?_
      refine T.iconst (q := 20) (2) dL_contract_19 rfl (by decide) ?_
      exact T.retI rfl dL_contract_20 (by decide) (by decide) (Or.inr ⟨1, rfl, by decide, h9⟩)
    · exact absurd hi (by simp)
  · rintro _ M9 ⟨r, rfl, h9, rfl⟩
    refine T.i2l (q := 9) dL_contract_8 rfl ?_
    refine T.lastk (n := 1) rfl rfl (by decide) dL_contract_9 (q := 10) rfl (k9 := 0) (by decide) ?_
    refine T.goto (tgt := 21) dL_contract_10 (by decide) ?_
    refine T.iconst (q := 22) (0) dL_contract_21 rfl (by decide) ?_
    exact T.retI rfl dL_contract_22 (by decide) (by decide) (Or.inl ⟨rfl, h9⟩)
theorem t_L_rota {G : sk_G} {M : sk_M} {a1 : Int32} {a2 : Int32} {Q0 : sk_M → Prop} {QX : Nat → sk_M → Prop} (h : w_X7_rota a1 a2 M (fun r => Q0 (sk_sl M 158 0 r.toInt64)) (fun e => ∃ i, ["java/lang/IndexOutOfBoundsException", "java/lang/IllegalArgumentException"][i]? = some e ∧ QX i M)) : CtrH G mL_rota 8 2 12 [.ref (G.2.2.1 120), .int a1, .int a2, .ref (G.2.2.1 158)] M (rI (lwK Q0 QX)) := by
  refine CtrH.of 1 (by decide) (Nat.le_of_ble_eq_true rfl) ?_
  show TJ G mL_rota (sk_R 8 2 12) (sk_K G 2 12 (rI (lwK Q0 QX)) noX) 0 0 0 [some (.ref (G.2.2.1 120)), some (.int a1), some (.int a2), some (.ref (G.2.2.1 158)), none] [] M
  refine T.ald_3 (q := 1) dL_rota_0 rfl ?_
  refine T.iconst (q := 2) (0) dL_rota_1 rfl (by decide) ?_
  refine T.ald_0 (q := 3) dL_rota_2 rfl ?_
  refine T.ild_1 (q := 4) dL_rota_3 rfl ?_
  refine T.ild_2 (q := 5) dL_rota_4 rfl ?_
  refine T.cVc (As := [.int a1, .int a2]) (c := 120) (ci := 7) (C := RX7) (T := TX7) (N := 9) (t_X7_rota h) w_L_102 cw_X7_rota np_X7_rota rfl (by decide) rfl (by decide) rfl (Nat.le_refl _) (Nat.le_of_ble_eq_true rfl) (by decide) (by decide) rfl (Nat.le_of_ble_eq_true rfl) dL_rota_5 (q := 8) rfl ?_ ?_
  · rintro E9 M9 ⟨⟨i, hi, h9⟩, rfl⟩
    rcases i with _ | _ | i
    · obtain rfl : "java/lang/IndexOutOfBoundsException" = E9 := Option.some.inj hi
      refine ⟨[], _, _, rfl, (fun z hz => absurd hz List.not_mem_nil), ⟨by decide, by decide⟩, by decide, kl_24, by decide, fun q9 => ?_⟩
      refine T.ast_4 (q := 15) dL_rota_13 rfl (by decide) sk_ok_r ?_
      refine T.iconst (q := 16) (1) dL_rota_15 rfl (by decide) ?_
      exact T.retI rfl dL_rota_16 (by decide) (by decide) (Or.inr ⟨0, rfl, by decide, h9⟩)
    · obtain rfl : "java/lang/IllegalArgumentException" = E9 := Option.some.inj hi
      refine ⟨[_], _, _, rfl, (fun z hz => by rw [List.mem_singleton] at hz; subst hz; exact ⟨by decide, _, kl_24, by decide⟩), ⟨by decide, by decide⟩, by decide, kl_13, by decide, fun q9 => ?_⟩
      refine T.ast_4 (q := 19) dL_rota_17 rfl (by decide) sk_ok_r ?_
      refine T.iconst (q := 20) (2) dL_rota_19 rfl (by decide) ?_
      exact T.retI rfl dL_rota_20 (by decide) (by decide) (Or.inr ⟨1, rfl, by decide, h9⟩)
    · exact absurd hi (by simp)
  · rintro _ M9 ⟨r, rfl, h9, rfl⟩
    refine T.i2l (q := 9) dL_rota_8 rfl ?_
    refine T.lastk (n := 1) rfl rfl (by decide) dL_rota_9 (q := 10) rfl (k9 := 0) (by decide) ?_
    refine T.goto (tgt := 21) dL_rota_10 (by decide) ?_
    refine T.iconst (q := 22) (0) dL_rota_21 rfl (by decide) ?_
    exact T.retI rfl dL_rota_22 (by decide) (by decide) (Or.inl ⟨rfl, h9⟩)
theorem t_L_richest {G : sk_G} {M : sk_M} {a1 : Int32} {a2 : Int32} {Q0 : sk_M → Prop} {QX : Nat → sk_M → Prop} (h : w_X7_richest a1 a2 M (fun r => Q0 (sk_sl M 158 0 r.toInt64)) (fun e => ∃ i, ["java/lang/IndexOutOfBoundsException"][i]? = some e ∧ QX i M)) : CtrH G mL_richest 8 1 6 [.ref (G.2.2.1 120), .int a1, .int a2, .ref (G.2.2.1 158)] M (rI (lwK Q0 QX)) := by
  refine CtrH.of 1 (by decide) (Nat.le_of_ble_eq_true rfl) ?_
  show TJ G mL_richest (sk_R 8 1 6) (sk_K G 1 6 (rI (lwK Q0 QX)) noX) 0 0 0 [some (.ref (G.2.2.1 120)), some (.int a1), some (.int a2), some (.ref (G.2.2.1 158)), none] [] M
  refine T.ald_3 (q := 1) dL_richest_0 rfl ?_
  refine T.iconst (q := 2) (0) dL_richest_1 rfl (by decide) ?_
  refine T.ald_0 (q := 3) dL_richest_2 rfl ?_
  refine T.ild_1 (q := 4) dL_richest_3 rfl ?_
  refine T.ild_2 (q := 5) dL_richest_4 rfl ?_
  refine T.cVc (As := [.int a1, .int a2]) (c := 120) (ci := 7) (C := RX7) (T := TX7) (N := 9) (t_X7_richest h) w_L_105 cw_X7_richest np_X7_richest rfl (by decide) rfl (by decide) rfl (Nat.le_refl _) (Nat.le_of_ble_eq_true rfl) (by decide) (by decide) rfl (Nat.le_of_ble_eq_true rfl) dL_richest_5 (q := 8) rfl ?_ ?_
  · rintro E9 M9 ⟨⟨i, hi, h9⟩, rfl⟩
    rcases i with _ | i
    · obtain rfl : "java/lang/IndexOutOfBoundsException" = E9 := Option.some.inj hi
      refine ⟨[], _, _, rfl, (fun z hz => absurd hz List.not_mem_nil), ⟨by decide, by decide⟩, by decide, kl_24, by decide, fun q9 => ?_⟩
      refine T.ast_4 (q := 15) dL_richest_13 rfl (by decide) sk_ok_r ?_
      refine T.iconst (q := 16) (1) dL_richest_15 rfl (by decide) ?_
      exact T.retI rfl dL_richest_16 (by decide) (by decide) (Or.inr ⟨0, rfl, by decide, h9⟩)
    · exact absurd hi (by simp)
  · rintro _ M9 ⟨r, rfl, h9, rfl⟩
    refine T.i2l (q := 9) dL_richest_8 rfl ?_
    refine T.lastk (n := 1) rfl rfl (by decide) dL_richest_9 (q := 10) rfl (k9 := 0) (by decide) ?_
    refine T.goto (tgt := 17) dL_richest_10 (by decide) ?_
    refine T.iconst (q := 18) (0) dL_richest_17 rfl (by decide) ?_
    exact T.retI rfl dL_richest_18 (by decide) (by decide) (Or.inl ⟨rfl, h9⟩)
theorem t_L_first {G : sk_G} {M : sk_M} {a1 : Int32} {Q0 : sk_M → Prop} {QX : Nat → sk_M → Prop} (h : w_X7_first a1 M (fun r => Q0 (sk_sl M 158 0 r.toInt64)) (fun e => ∃ i, ["java/lang/IndexOutOfBoundsException"][i]? = some e ∧ QX i M)) : CtrH G mL_first 8 1 6 [.ref (G.2.2.1 120), .int a1, .ref (G.2.2.1 158)] M (rI (lwK Q0 QX)) := by
  refine CtrH.of 1 (by decide) (Nat.le_of_ble_eq_true rfl) ?_
  show TJ G mL_first (sk_R 8 1 6) (sk_K G 1 6 (rI (lwK Q0 QX)) noX) 0 0 0 [some (.ref (G.2.2.1 120)), some (.int a1), some (.ref (G.2.2.1 158)), none] [] M
  refine T.ald_2 (q := 1) dL_first_0 rfl ?_
  refine T.iconst (q := 2) (0) dL_first_1 rfl (by decide) ?_
  refine T.ald_0 (q := 3) dL_first_2 rfl ?_
  refine T.ild_1 (q := 4) dL_first_3 rfl ?_
  refine T.cVc (As := [.int a1]) (c := 120) (ci := 7) (C := RX7) (T := TX7) (N := 9) (t_X7_first h) w_L_108 cw_X7_first np_X7_first rfl (by decide) rfl (by decide) rfl (Nat.le_refl _) (Nat.le_of_ble_eq_true rfl) (by decide) (by decide) rfl (Nat.le_of_ble_eq_true rfl) dL_first_4 (q := 7) rfl ?_ ?_
  · rintro E9 M9 ⟨⟨i, hi, h9⟩, rfl⟩
    rcases i with _ | i
    · obtain rfl : "java/lang/IndexOutOfBoundsException" = E9 := Option.some.inj hi
      refine ⟨[], _, _, rfl, (fun z hz => absurd hz List.not_mem_nil), ⟨by decide, by decide⟩, by decide, kl_24, by decide, fun q9 => ?_⟩
      refine T.ast_3 (q := 13) dL_first_12 rfl (by decide) sk_ok_r ?_
      refine T.iconst (q := 14) (1) dL_first_13 rfl (by decide) ?_
      exact T.retI rfl dL_first_14 (by decide) (by decide) (Or.inr ⟨0, rfl, by decide, h9⟩)
    · exact absurd hi (by simp)
  · rintro _ M9 ⟨r, rfl, h9, rfl⟩
    refine T.i2l (q := 8) dL_first_7 rfl ?_
    refine T.lastk (n := 1) rfl rfl (by decide) dL_first_8 (q := 9) rfl (k9 := 0) (by decide) ?_
    refine T.goto (tgt := 15) dL_first_9 (by decide) ?_
    refine T.iconst (q := 16) (0) dL_first_15 rfl (by decide) ?_
    exact T.retI rfl dL_first_16 (by decide) (by decide) (Or.inl ⟨rfl, h9⟩)
theorem t_L_turned {G : sk_G} {M : sk_M} {a1 : Int32} {a2 : Int32} {Q0 : sk_M → Prop} {QX : Nat → sk_M → Prop} (h : w_X7_turned a1 a2 M (fun r => Q0 (sk_sl M 158 0 r.toInt64)) (fun e => ∃ i, ["java/lang/IndexOutOfBoundsException"][i]? = some e ∧ QX i M)) : CtrH G mL_turned 8 2 12 [.ref (G.2.2.1 120), .int a1, .int a2, .ref (G.2.2.1 158)] M (rI (lwK Q0 QX)) := by
  refine CtrH.of 1 (by decide) (Nat.le_of_ble_eq_true rfl) ?_
  show TJ G mL_turned (sk_R 8 2 12) (sk_K G 2 12 (rI (lwK Q0 QX)) noX) 0 0 0 [some (.ref (G.2.2.1 120)), some (.int a1), some (.int a2), some (.ref (G.2.2.1 158)), none] [] M
  refine T.ald_3 (q := 1) dL_turned_0 rfl ?_
  refine T.iconst (q := 2) (0) dL_turned_1 rfl (by decide) ?_
  refine T.ald_0 (q := 3) dL_turned_2 rfl ?_
  refine T.ild_1 (q := 4) dL_turned_3 rfl ?_
  refine T.ild_2 (q := 5) dL_turned_4 rfl ?_
  refine T.cVc (As := [.int a1, .int a2]) (c := 120) (ci := 7) (C := RX7) (T := TX7) (N := 9) (t_X7_turned h) w_L_111 cw_X7_turned np_X7_turned rfl (by decide) rfl (by decide) rfl (Nat.le_refl _) (Nat.le_of_ble_eq_true rfl) (by decide) (by decide) rfl (Nat.le_of_ble_eq_true rfl) dL_turned_5 (q := 8) rfl ?_ ?_
  · rintro E9 M9 ⟨⟨i, hi, h9⟩, rfl⟩
    rcases i with _ | i
    · obtain rfl : "java/lang/IndexOutOfBoundsException" = E9 := Option.some.inj hi
      refine ⟨[], _, _, rfl, (fun z hz => absurd hz List.not_mem_nil), ⟨by decide, by decide⟩, by decide, kl_24, by decide, fun q9 => ?_⟩
      refine T.ast_4 (q := 15) dL_turned_13 rfl (by decide) sk_ok_r ?_
      refine T.iconst (q := 16) (1) dL_turned_15 rfl (by decide) ?_
      exact T.retI rfl dL_turned_16 (by decide) (by decide) (Or.inr ⟨0, rfl, by decide, h9⟩)
    · exact absurd hi (by simp)
  · rintro _ M9 ⟨r, rfl, h9, rfl⟩
    refine T.i2l (q := 9) dL_turned_8 rfl ?_
    refine T.lastk (n := 1) rfl rfl (by decide) dL_turned_9 (q := 10) rfl (k9 := 0) (by decide) ?_
    refine T.goto (tgt := 17) dL_turned_10 (by decide) ?_
    refine T.iconst (q := 18) (0) dL_turned_17 rfl (by decide) ?_
    exact T.retI rfl dL_turned_18 (by decide) (by decide) (Or.inl ⟨rfl, h9⟩)
theorem t_L_price {G : sk_G} {M : sk_M} {a1 : Int32} {Q0 : sk_M → Prop} {QX : Nat → sk_M → Prop} (h : w_X7_price a1 M (fun r => Q0 (sk_sl M 158 0 r.toInt64)) (fun e => ∃ i, ["java/lang/IndexOutOfBoundsException"][i]? = some e ∧ QX i M)) : CtrH G mL_price 8 1 6 [.ref (G.2.2.1 120), .int a1, .ref (G.2.2.1 158)] M (rI (lwK Q0 QX)) := by
  refine CtrH.of 1 (by decide) (Nat.le_of_ble_eq_true rfl) ?_
  show TJ G mL_price (sk_R 8 1 6) (sk_K G 1 6 (rI (lwK Q0 QX)) noX) 0 0 0 [some (.ref (G.2.2.1 120)), some (.int a1), some (.ref (G.2.2.1 158)), none] [] M
  refine T.ald_2 (q := 1) dL_price_0 rfl ?_
  refine T.iconst (q := 2) (0) dL_price_1 rfl (by decide) ?_
  refine T.ald_0 (q := 3) dL_price_2 rfl ?_
  refine T.ild_1 (q := 4) dL_price_3 rfl ?_
  refine T.cVc (As := [.int a1]) (c := 120) (ci := 7) (C := RX7) (T := TX7) (N := 9) (t_X7_price h) w_L_114 cw_X7_price np_X7_price rfl (by decide) rfl (by decide) rfl (Nat.le_refl _) (Nat.le_of_ble_eq_true rfl) (by decide) (by decide) rfl (Nat.le_of_ble_eq_true rfl) dL_price_4 (q := 7) rfl ?_ ?_
  · rintro E9 M9 ⟨⟨i, hi, h9⟩, rfl⟩
    rcases i with _ | i
    · obtain rfl : "java/lang/IndexOutOfBoundsException" = E9 := Option.some.inj hi
      refine ⟨[], _, _, rfl, (fun z hz => absurd hz List.not_mem_nil), ⟨by decide, by decide⟩, by decide, kl_24, by decide, fun q9 => ?_⟩
      refine T.ast_3 (q := 13) dL_price_12 rfl (by decide) sk_ok_r ?_
      refine T.iconst (q := 14) (1) dL_price_13 rfl (by decide) ?_
      exact T.retI rfl dL_price_14 (by decide) (by decide) (Or.inr ⟨0, rfl, by decide, h9⟩)
    · exact absurd hi (by simp)
  · rintro _ M9 ⟨r, rfl, h9, rfl⟩
    refine T.i2l (q := 8) dL_price_7 rfl ?_
    refine T.lastk (n := 1) rfl rfl (by decide) dL_price_8 (q := 9) rfl (k9 := 0) (by decide) ?_
    refine T.goto (tgt := 15) dL_price_9 (by decide) ?_
    refine T.iconst (q := 16) (0) dL_price_15 rfl (by decide) ?_
    exact T.retI rfl dL_price_16 (by decide) (by decide) (Or.inl ⟨rfl, h9⟩)
theorem t_L_when {G : sk_G} {M : sk_M} {a1 : Int32} {a2 : Int32} {Q0 : sk_M → Prop} {QX : Nat → sk_M → Prop} (h : w_X7_when a1 a2 M (fun r M1 => Q0 (sk_sl M1 158 0 r.toInt64)) (fun e M1 => ∃ i, ["java/lang/IndexOutOfBoundsException"][i]? = some e ∧ QX i M1)) : CtrH G mL_when 8 2 12 [.ref (G.2.2.1 120), .int a1, .int a2, .ref (G.2.2.1 158)] M (rI (lwK Q0 QX)) := by
  refine CtrH.of 1 (by decide) (Nat.le_of_ble_eq_true rfl) ?_
  show TJ G mL_when (sk_R 8 2 12) (sk_K G 2 12 (rI (lwK Q0 QX)) noX) 0 0 0 [some (.ref (G.2.2.1 120)), some (.int a1), some (.int a2), some (.ref (G.2.2.1 158)), none] [] M
  refine T.ald_3 (q := 1) dL_when_0 rfl ?_
  refine T.iconst (q := 2) (0) dL_when_1 rfl (by decide) ?_
  refine T.ald_0 (q := 3) dL_when_2 rfl ?_
  refine T.ild_1 (q := 4) dL_when_3 rfl ?_
  refine T.ild_2 (q := 5) dL_when_4 rfl ?_
  refine T.cVc (As := [.int a1, .int a2]) (c := 120) (ci := 7) (C := RX7) (T := TX7) (N := 9) (t_X7_when h) w_L_117 cw_X7_when np_X7_when rfl (by decide) rfl (by decide) rfl (Nat.le_refl _) (Nat.le_of_ble_eq_true rfl) (by decide) (by decide) rfl (Nat.le_of_ble_eq_true rfl) dL_when_5 (q := 8) rfl ?_ ?_
  · rintro E9 M9 ⟨i, hi, h9⟩
    rcases i with _ | i
    · obtain rfl : "java/lang/IndexOutOfBoundsException" = E9 := Option.some.inj hi
      refine ⟨[], _, _, rfl, (fun z hz => absurd hz List.not_mem_nil), ⟨by decide, by decide⟩, by decide, kl_24, by decide, fun q9 => ?_⟩
      refine T.ast_4 (q := 15) dL_when_13 rfl (by decide) sk_ok_r ?_
      refine T.iconst (q := 16) (1) dL_when_15 rfl (by decide) ?_
      exact T.retI rfl dL_when_16 (by decide) (by decide) (Or.inr ⟨0, rfl, by decide, h9⟩)
    · exact absurd hi (by simp)
  · rintro _ M9 ⟨r, rfl, h9⟩
    refine T.i2l (q := 9) dL_when_8 rfl ?_
    refine T.lastk (n := 1) rfl rfl (by decide) dL_when_9 (q := 10) rfl (k9 := 0) (by decide) ?_
    refine T.goto (tgt := 17) dL_when_10 (by decide) ?_
    refine T.iconst (q := 18) (0) dL_when_17 rfl (by decide) ?_
    exact T.retI rfl dL_when_18 (by decide) (by decide) (Or.inl ⟨rfl, h9⟩)
theorem t_L_trial {G : sk_G} {M : sk_M} {a1 : Int32} {a2 : Int32} {Q0 : sk_M → Prop} {QX : Nat → sk_M → Prop} (h : w_X7_trial a1 a2 M (fun r M1 => Q0 (sk_sl M1 158 0 r.toInt64)) (fun e M1 => ∃ i, ["java/lang/IllegalArgumentException"][i]? = some e ∧ QX i M1)) : CtrH G mL_trial 8 1 6 [.ref (G.2.2.1 120), .int a1, .int a2, .ref (G.2.2.1 158)] M (rI (lwK Q0 QX)) := by
  refine CtrH.of 1 (by decide) (Nat.le_of_ble_eq_true rfl) ?_
  show TJ G mL_trial (sk_R 8 1 6) (sk_K G 1 6 (rI (lwK Q0 QX)) noX) 0 0 0 [some (.ref (G.2.2.1 120)), some (.int a1), some (.int a2), some (.ref (G.2.2.1 158)), none] [] M
  refine T.ald_3 (q := 1) dL_trial_0 rfl ?_
  refine T.iconst (q := 2) (0) dL_trial_1 rfl (by decide) ?_
  refine T.ald_0 (q := 3) dL_trial_2 rfl ?_
  refine T.ild_1 (q := 4) dL_trial_3 rfl ?_
  refine T.ild_2 (q := 5) dL_trial_4 rfl ?_
  refine T.cVc (As := [.int a1, .int a2]) (c := 120) (ci := 7) (C := RX7) (T := TX7) (N := 9) (t_X7_trial h) w_L_120 cw_X7_trial np_X7_trial rfl (by decide) rfl (by decide) rfl (Nat.le_refl _) (Nat.le_of_ble_eq_true rfl) (by decide) (by decide) rfl (Nat.le_of_ble_eq_true rfl) dL_trial_5 (q := 8) rfl ?_ ?_
  · rintro E9 M9 ⟨i, hi, h9⟩
    rcases i with _ | i
    · obtain rfl : "java/lang/IllegalArgumentException" = E9 := Option.some.inj hi
      refine ⟨[], _, _, rfl, (fun z hz => absurd hz List.not_mem_nil), ⟨by decide, by decide⟩, by decide, kl_13, by decide, fun q9 => ?_⟩
      refine T.ast_4 (q := 15) dL_trial_13 rfl (by decide) sk_ok_r ?_
      refine T.iconst (q := 16) (1) dL_trial_15 rfl (by decide) ?_
      exact T.retI rfl dL_trial_16 (by decide) (by decide) (Or.inr ⟨0, rfl, by decide, h9⟩)
    · exact absurd hi (by simp)
  · rintro _ M9 ⟨r, rfl, h9⟩
    refine T.i2l (q := 9) dL_trial_8 rfl ?_
    refine T.lastk (n := 1) rfl rfl (by decide) dL_trial_9 (q := 10) rfl (k9 := 0) (by decide) ?_
    refine T.goto (tgt := 17) dL_trial_10 (by decide) ?_
    refine T.iconst (q := 18) (0) dL_trial_17 rfl (by decide) ?_
    exact T.retI rfl dL_trial_18 (by decide) (by decide) (Or.inl ⟨rfl, h9⟩)
theorem t_L_span {G : sk_G} {M : sk_M} {a1 : Int32} {a2 : Int32} {Q0 : sk_M → Prop} {QX : Nat → sk_M → Prop} (h : w_X7_span a1 a2 M (fun r M1 => Q0 (sk_sl M1 158 0 r.toInt64)) (fun e M1 => ∃ i, ["java/lang/IllegalArgumentException"][i]? = some e ∧ QX i M1)) : CtrH G mL_span 8 1 6 [.ref (G.2.2.1 120), .int a1, .int a2, .ref (G.2.2.1 158)] M (rI (lwK Q0 QX)) := by
  refine CtrH.of 1 (by decide) (Nat.le_of_ble_eq_true rfl) ?_
  show TJ G mL_span (sk_R 8 1 6) (sk_K G 1 6 (rI (lwK Q0 QX)) noX) 0 0 0 [some (.ref (G.2.2.1 120)), some (.int a1), some (.int a2), some (.ref (G.2.2.1 158)), none] [] M
  refine T.ald_3 (q := 1) dL_span_0 rfl ?_
  refine T.iconst (q := 2) (0) dL_span_1 rfl (by decide) ?_
  refine T.ald_0 (q := 3) dL_span_2 rfl ?_
  refine T.ild_1 (q := 4) dL_span_3 rfl ?_
  refine T.ild_2 (q := 5) dL_span_4 rfl ?_
  refine T.cVc (As := [.int a1, .int a2]) (c := 120) (ci := 7) (C := RX7) (T := TX7) (N := 9) (t_X7_span h) w_L_123 cw_X7_span np_X7_span rfl (by decide) rfl (by decide) rfl (Nat.le_refl _) (Nat.le_of_ble_eq_true rfl) (by decide) (by decide) rfl (Nat.le_of_ble_eq_true rfl) dL_span_5 (q := 8) rfl ?_ ?_
  · rintro E9 M9 ⟨i, hi, h9⟩
    rcases i with _ | i
    · obtain rfl : "java/lang/IllegalArgumentException" = E9 := Option.some.inj hi
      refine ⟨[], _, _, rfl, (fun z hz => absurd hz List.not_mem_nil), ⟨by decide, by decide⟩, by decide, kl_13, by decide, fun q9 => ?_⟩
      refine T.ast_4 (q := 15) dL_span_13 rfl (by decide) sk_ok_r ?_
      refine T.iconst (q := 16) (1) dL_span_15 rfl (by decide) ?_
      exact T.retI rfl dL_span_16 (by decide) (by decide) (Or.inr ⟨0, rfl, by decide, h9⟩)
    · exact absurd hi (by simp)
  · rintro _ M9 ⟨r, rfl, h9⟩
    refine T.i2l (q := 9) dL_span_8 rfl ?_
    refine T.lastk (n := 1) rfl rfl (by decide) dL_span_9 (q := 10) rfl (k9 := 0) (by decide) ?_
    refine T.goto (tgt := 17) dL_span_10 (by decide) ?_
    refine T.iconst (q := 18) (0) dL_span_17 rfl (by decide) ?_
    exact T.retI rfl dL_span_18 (by decide) (by decide) (Or.inl ⟨rfl, h9⟩)
theorem t_L_log {G : sk_G} {M : sk_M} {a1 : Int32} {a2 : Int32} {Q0 : sk_M → Prop} {QX : Nat → sk_M → Prop} (h : w_X7_log a1 a2 M (fun r => Q0 (sk_sl M 158 0 r.toInt64)) (fun e => ∃ i, ["java/util/NoSuchElementException"][i]? = some e ∧ QX i M)) : CtrH G mL_log 7 1 6 [.ref (G.2.2.1 120), .int a1, .int a2, .ref (G.2.2.1 158)] M (rI (lwK Q0 QX)) := by
  refine CtrH.of 1 (by decide) (Nat.le_of_ble_eq_true rfl) ?_
  show TJ G mL_log (sk_R 7 1 6) (sk_K G 1 6 (rI (lwK Q0 QX)) noX) 0 0 0 [some (.ref (G.2.2.1 120)), some (.int a1), some (.int a2), some (.ref (G.2.2.1 158)), none] [] M
  refine T.ald_3 (q := 1) dL_log_0 rfl ?_
  refine T.iconst (q := 2) (0) dL_log_1 rfl (by decide) ?_
  refine T.ald_0 (q := 3) dL_log_2 rfl ?_
  refine T.ild_1 (q := 4) dL_log_3 rfl ?_
  refine T.ild_2 (q := 5) dL_log_4 rfl ?_
  refine T.cVc (As := [.int a1, .int a2]) (c := 120) (ci := 7) (C := RX7) (T := TX7) (N := 9) (t_X7_log h) w_L_126 cw_X7_log np_X7_log rfl (by decide) rfl (by decide) rfl (Nat.le_refl _) (Nat.le_of_ble_eq_true rfl) (by decide) (by decide) rfl (Nat.le_of_ble_eq_true rfl) dL_log_5 (q := 8) rfl ?_ ?_
  · rintro E9 M9 ⟨⟨i, hi, h9⟩, rfl⟩
    rcases i with _ | i
    · obtain rfl : "java/util/NoSuchElementException" = E9 := Option.some.inj hi
      refine ⟨[], _, _, rfl, (fun z hz => absurd hz List.not_mem_nil), ⟨by decide, by decide⟩, by decide, kl_26, by decide, fun q9 => ?_⟩
      refine T.ast_4 (q := 15) dL_log_13 rfl (by decide) sk_ok_r ?_
      refine T.iconst (q := 16) (1) dL_log_15 rfl (by decide) ?_
      exact T.retI rfl dL_log_16 (by decide) (by decide) (Or.inr ⟨0, rfl, by decide, h9⟩)
    · exact absurd hi (by simp)
  · rintro _ M9 ⟨r, rfl, h9, rfl⟩
    refine T.i2l (q := 9) dL_log_8 rfl ?_
    refine T.lastk (n := 1) rfl rfl (by decide) dL_log_9 (q := 10) rfl (k9 := 0) (by decide) ?_
    refine T.goto (tgt := 17) dL_log_10 (by decide) ?_
    refine T.iconst (q := 18) (0) dL_log_17 rfl (by decide) ?_
    exact T.retI rfl dL_log_18 (by decide) (by decide) (Or.inl ⟨rfl, h9⟩)
