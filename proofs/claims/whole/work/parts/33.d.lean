/-! the reference, decompiled -/
theorem t_X8_gains {G : sk_G} {M : sk_M} {a1 : Int32} {a2 : Int32} {a3 : Int32}  {Q : Int32 → sk_M → Prop} (h : w_X8_gains a1 a2 a3 M Q) : Ctr G mX8_gains 2 0 0 [.ref (G.2.2.1 140), .int a1, .int a2, .int a3] M (rI Q) noX := by
  unfold w_X8_gains at h
  refine Ctr.of 0 (by decide) (Nat.le_of_ble_eq_true rfl) ?_
  show TJ G mX8_gains (sk_R 2 0 0) (sk_K G 0 0 (rI Q) noX) 0 0 0 [some (.ref (G.2.2.1 140)), some (.int a1), some (.int a2), some (.int a3)] [] M
  refine T.ald_0 (q := 1) dX8_gains_0 rfl ?_
  refine T.iconst (q := 2) (0) dX8_gains_1 rfl (by decide) ?_
  refine p_X8_3 rfl dX8_gains_2 (q := 5) rfl ?_
  refine S.mem h ?_
  intro M2 h
  refine T.ald_0 (q := 6) dX8_gains_5 rfl ?_
  refine T.ald_0 (q := 7) dX8_gains_6 rfl ?_
  refine T.ild_1 (q := 8) dX8_gains_7 rfl ?_
  refine k_X8_342 rfl dX8_gains_8 (q := 11) rfl (by decide) (by decide) (by decide) (Nat.le_of_ble_eq_true rfl) (t_X8_noPerson (P := fun r9 => r9 = (f_X8_noPerson a1 M2)) rfl) ?_
  rintro _ _ ⟨rfl, h9⟩
  obtain rfl := h9.symm
  refine s_dia (fun s35_11 : Int32 => TJ G mX8_gains (sk_R 2 0 0) (sk_K G 0 0 (rI Q) noX) 0 0 35 [some (.ref (G.2.2.1 140)), some (.int a1), some (.int a2), some (.int a3)] [.int s35_11, .ref (G.2.2.1 140)] M2) h (fun s35_11 h => ?_) (fun k9 hJ9 h => ?_)
  · refine T.iconst (q := 36) (1) dX8_gains_35 rfl (by decide) ?_
    refine k_X8_281 rfl dX8_gains_36 (q := 39) rfl (by decide) (by decide) (by decide) (Nat.le_of_ble_eq_true rfl) (t_X8_throwsIf  h) ?_
    intro r36 M36 h
    refine T.if_ne (tgt := 60) (q := 42) dX8_gains_39 (by decide) rfl (fun h39 => ?_) (fun h39 => ?_)
    · replace h := s_f h39 h
      refine T.iconst (q := 61) (0) dX8_gains_60 rfl (by decide) ?_
      exact T.retI rfl dX8_gains_61 (by decide) (by decide) h
    · replace h := s_t h39 h
      refine T.ald_0 (q := 43) dX8_gains_42 rfl ?_
      refine T.ild_1 (q := 44) dX8_gains_43 rfl ?_
      refine T.ild_2 (q := 45) dX8_gains_44 rfl ?_
      refine s_dia (fun s53_45 : Int32 => TJ G mX8_gains (sk_R 2 0 0) (sk_K G 0 0 (rI Q) noX) 0 0 53 [some (.ref (G.2.2.1 140)), some (.int a1), some (.int a2), some (.int a3)] [.int s53_45, .ref (G.2.2.1 140)] M36) h (fun s53_45 h => ?_) (fun k9 hJ9 h => ?_)
      · refine T.iconst (q := 54) (2) dX8_gains_53 rfl (by decide) ?_
        refine k_X8_281 rfl dX8_gains_54 (q := 57) rfl (by decide) (by decide) (by decide) (Nat.le_of_ble_eq_true rfl) (t_X8_throwsIf  h) ?_
        intro r54 M54 h
        refine T.if_eq (tgt := 62) (q := 60) dX8_gains_57 (by decide) rfl (fun h57 => ?_) (fun h57 => ?_)
        · replace h := s_f (fun q => q h57) h
          refine T.ald_0 (q := 63) dX8_gains_62 rfl ?_
          refine T.ild_1 (q := 64) dX8_gains_63 rfl ?_
          refine T.ild_3 (q := 65) dX8_gains_64 rfl ?_
          refine k_X8_345 rfl dX8_gains_65 (q := 68) rfl (by decide) (by decide) (by decide) (Nat.le_of_ble_eq_true rfl) (t_X8_leftOf  h) ?_
          rintro r65 _ ⟨h, h9⟩
          obtain rfl := h9.symm
          refine T.ald_0 (q := 69) dX8_gains_68 rfl ?_
          refine T.iconst (q := 70) (1) dX8_gains_69 rfl (by decide) ?_
          refine T.ild_1 (q := 71) dX8_gains_70 rfl ?_
          refine T.ishl (q := 72) dX8_gains_71 rfl ?_
          refine T.iconst (q := 73) (1) dX8_gains_72 rfl (by decide) ?_
          refine T.ild_2 (q := 74) dX8_gains_73 rfl ?_
          refine T.ishl (q := 75) dX8_gains_74 rfl ?_
          refine T.ior (q := 76) dX8_gains_75 rfl ?_
          refine T.ild_3 (q := 77) dX8_gains_76 rfl ?_
          refine k_X8_406 rfl dX8_gains_77 (q := 80) rfl (by decide) (by decide) (by decide) (Nat.le_of_ble_eq_true rfl) (t_X8_leftBy  h) ?_
          rintro r77 _ ⟨h, h9⟩
          obtain rfl := h9.symm
          refine T.isub (q := 81) dX8_gains_80 rfl ?_
          exact T.retI rfl dX8_gains_81 (by decide) (by decide) h
        · replace h := s_t h57 h
          refine T.iconst (q := 61) (0) dX8_gains_60 rfl (by decide) ?_
          exact T.retI rfl dX8_gains_61 (by decide) (by decide) h
      · refine T.ic_ne (tgt := 52) (q := 48) dX8_gains_45 (by decide) rfl (fun h45 => ?_) (fun h45 => ?_)
        · replace h := s_fk h45 h
          refine T.iconst (q := 53) (0) dX8_gains_52 rfl (by decide) ?_
          exact hJ9 _ h
        · replace h := s_tk h45 h
          refine T.iconst (q := 49) (1) dX8_gains_48 rfl (by decide) ?_
          refine T.goto (tgt := 53) dX8_gains_49 (by decide) ?_
          exact hJ9 _ h
  · refine T.if_ne (tgt := 30) (q := 14) dX8_gains_11 (by decide) rfl (fun h11 => ?_) (fun h11 => ?_)
    · replace h := s_tk (Or.inl h11) h
      refine T.iconst (q := 31) (1) dX8_gains_30 rfl (by decide) ?_
      refine T.goto (tgt := 35) dX8_gains_31 (by decide) ?_
      exact hJ9 _ h
    · refine T.ald_0 (q := 15) dX8_gains_14 rfl ?_
      refine T.ild_2 (q := 16) dX8_gains_15 rfl ?_
      refine k_X8_342 rfl dX8_gains_16 (q := 19) rfl (by decide) (by decide) (by decide) (Nat.le_of_ble_eq_true rfl) (t_X8_noPerson (P := fun r9 => r9 = (f_X8_noPerson a2 M2)) rfl) ?_
      rintro _ _ ⟨rfl, h9⟩
      obtain rfl := h9.symm
      refine T.if_ne (tgt := 30) (q := 22) dX8_gains_19 (by decide) rfl (fun h19 => ?_) (fun h19 => ?_)
      · replace h := s_tk (Or.inr (Or.inl h19)) h
        refine T.iconst (q := 31) (1) dX8_gains_30 rfl (by decide) ?_
        refine T.goto (tgt := 35) dX8_gains_31 (by decide) ?_
        exact hJ9 _ h
      · refine T.ald_0 (q := 23) dX8_gains_22 rfl ?_
        refine T.ild_3 (q := 24) dX8_gains_23 rfl ?_
        refine k_X8_329 rfl dX8_gains_24 (q := 27) rfl (by decide) (by decide) (by decide) (Nat.le_of_ble_eq_true rfl) (t_X8_noVault (P := fun r9 => r9 = (f_X8_noVault a3 M2)) rfl) ?_
        rintro _ _ ⟨rfl, h9⟩
        obtain rfl := h9.symm
        refine T.if_eq (tgt := 34) (q := 30) dX8_gains_27 (by decide) rfl (fun h27 => ?_) (fun h27 => ?_)
        · replace h := s_fk (fun q => q.elim (fun q => q h11) (fun q => q.elim (fun q => q h19) (fun q => q h27))) h
          refine T.iconst (q := 35) (0) dX8_gains_34 rfl (by decide) ?_
          exact hJ9 _ h
        · replace h := s_tk (Or.inr (Or.inr h27)) h
          refine T.iconst (q := 31) (1) dX8_gains_30 rfl (by decide) ?_
          refine T.goto (tgt := 35) dX8_gains_31 (by decide) ?_
          exact hJ9 _ h
theorem t_X8_areQuarrel {G : sk_G} {M : sk_M} {a1 : Int32} {a2 : Int32}  {Q : Int32 → Prop} (h : w_X8_areQuarrel a1 a2 M Q) : Ctr G mX8_areQuarrel 1 0 0 [.ref (G.2.2.1 140), .int a1, .int a2] M (rI fun r9 M9 => Q r9 ∧ M9 = M) noX := by
  unfold w_X8_areQuarrel at h
  refine Ctr.of 0 (by decide) (Nat.le_of_ble_eq_true rfl) ?_
  show TJ G mX8_areQuarrel (sk_R 1 0 0) (sk_K G 0 0 (rI fun r9 M9 => Q r9 ∧ M9 = M) noX) 0 0 0 [some (.ref (G.2.2.1 140)), some (.int a1), some (.int a2)] [] M
  refine T.ald_0 (q := 1) dX8_areQuarrel_0 rfl ?_
  refine T.ild_1 (q := 2) dX8_areQuarrel_1 rfl ?_
  refine T.iconst (q := 3) (1) dX8_areQuarrel_2 rfl (by decide) ?_
  refine k_X8_409 rfl dX8_areQuarrel_3 (q := 6) rfl (by decide) (by decide) (by decide) (Nat.le_of_ble_eq_true rfl) (t_X8_ofContract  h) ?_
  rintro r3 _ ⟨h, h9⟩
  obtain rfl := h9.symm
  refine T.ald_0 (q := 7) dX8_areQuarrel_6 rfl ?_
  refine T.ild_2 (q := 8) dX8_areQuarrel_7 rfl ?_
  refine T.iconst (q := 9) (1) dX8_areQuarrel_8 rfl (by decide) ?_
  refine k_X8_409 rfl dX8_areQuarrel_9 (q := 12) rfl (by decide) (by decide) (by decide) (Nat.le_of_ble_eq_true rfl) (t_X8_ofContract  h) ?_
  rintro r9 _ ⟨h, h9⟩
  obtain rfl := h9.symm
  refine T.ic_ne (tgt := 49) (q := 15) dX8_areQuarrel_12 (by decide) rfl (fun h12 => ?_) (fun h12 => ?_)
  · replace h := s_f h12 h
    refine T.iconst (q := 50) (0) dX8_areQuarrel_49 rfl (by decide) ?_
    exact T.retZ rfl dX8_areQuarrel_50 (by decide) (by decide) rfl ⟨h, rfl⟩
  · replace h := s_t h12 h
    refine T.ald_0 (q := 16) dX8_areQuarrel_15 rfl ?_
    refine T.ild_1 (q := 17) dX8_areQuarrel_16 rfl ?_
    refine T.iconst (q := 18) (2) dX8_areQuarrel_17 rfl (by decide) ?_
    refine k_X8_409 rfl dX8_areQuarrel_18 (q := 21) rfl (by decide) (by decide) (by decide) (Nat.le_of_ble_eq_true rfl) (t_X8_ofContract  h) ?_
    rintro r18 _ ⟨h, h9⟩
    obtain rfl := h9.symm
    refine T.ald_0 (q := 22) dX8_areQuarrel_21 rfl ?_
    refine T.ild_2 (q := 23) dX8_areQuarrel_22 rfl ?_
    refine T.iconst (q := 24) (2) dX8_areQuarrel_23 rfl (by decide) ?_
    refine k_X8_409 rfl dX8_areQuarrel_24 (q := 27) rfl (by decide) (by decide) (by decide) (Nat.le_of_ble_eq_true rfl) (t_X8_ofContract  h) ?_
    rintro r24 _ ⟨h, h9⟩
    obtain rfl := h9.symm
    refine T.ic_ne (tgt := 49) (q := 30) dX8_areQuarrel_27 (by decide) rfl (fun h27 => ?_) (fun h27 => ?_)
    · replace h := s_f h27 h
      refine T.iconst (q := 50) (0) dX8_areQuarrel_49 rfl (by decide) ?_
      exact T.retZ rfl dX8_areQuarrel_50 (by decide) (by decide) rfl ⟨h, rfl⟩
    · replace h := s_t h27 h
      refine T.ald_0 (q := 31) dX8_areQuarrel_30 rfl ?_
      refine T.ild_1 (q := 32) dX8_areQuarrel_31 rfl ?_
      refine T.iconst (q := 33) (0) dX8_areQuarrel_32 rfl (by decide) ?_
      refine k_X8_409 rfl dX8_areQuarrel_33 (q := 36) rfl (by decide) (by decide) (by decide) (Nat.le_of_ble_eq_true rfl) (t_X8_ofContract  h) ?_
      rintro r33 _ ⟨h, h9⟩
      obtain rfl := h9.symm
      refine T.ald_0 (q := 37) dX8_areQuarrel_36 rfl ?_
      refine T.ild_2 (q := 38) dX8_areQuarrel_37 rfl ?_
      refine T.iconst (q := 39) (0) dX8_areQuarrel_38 rfl (by decide) ?_
      refine k_X8_409 rfl dX8_areQuarrel_39 (q := 42) rfl (by decide) (by decide) (by decide) (Nat.le_of_ble_eq_true rfl) (t_X8_ofContract  h) ?_
      rintro r39 _ ⟨h, h9⟩
      obtain rfl := h9.symm
      refine T.ic_eq (tgt := 49) (q := 45) dX8_areQuarrel_42 (by decide) rfl (fun h42 => ?_) (fun h42 => ?_)
      · replace h := s_f (fun q => q h42) h
        refine T.iconst (q := 50) (0) dX8_areQuarrel_49 rfl (by decide) ?_
        exact T.retZ rfl dX8_areQuarrel_50 (by decide) (by decide) rfl ⟨h, rfl⟩
      · replace h := s_t h42 h
        refine T.iconst (q := 46) (1) dX8_areQuarrel_45 rfl (by decide) ?_
        refine T.goto (tgt := 50) dX8_areQuarrel_46 (by decide) ?_
        exact T.retZ rfl dX8_areQuarrel_50 (by decide) (by decide) rfl ⟨h, rfl⟩
theorem tl_X8_quarrelsOf_L4 {G : sk_G} {M : sk_M} {cells slots : Nat} {a1 : Int32} {Q : Int32 → Prop}  (hc0 : cells ≤ 0) (hs0 : slots ≤ 0) : ∀ (F : Nat) (s4 : Int32 × Int32), lp (w_X8_quarrelsOf_L4 a1 M Q) F s4 → TJ G mX8_quarrelsOf (sk_R 2 0 0) (sk_K G 0 0 (rI fun r9 M9 => Q r9 ∧ M9 = M) noX) cells slots 4 [some (.ref (G.2.2.1 140)), some (.int a1), some (.int s4.1), some (.int s4.2)] [] M := by
  refine lp_sound (fun c hc9 s4 h => ?_)
  unfold w_X8_quarrelsOf_L4 at h
  refine T.ild_3 (q := 5) dX8_quarrelsOf_4 rfl ?_
  refine T.ald_0 (q := 6) dX8_quarrelsOf_5 rfl ?_
  refine k_X8_178 rfl dX8_quarrelsOf_6 (q := 9) rfl (by decide) hc0 hs0 (Nat.le_of_ble_eq_true rfl) (t_X8_contracts (P := fun r9 => r9 = (f_X8_contracts M)) rfl) ?_
  rintro _ _ ⟨rfl, h9⟩
  obtain rfl := h9.symm
  refine T.ic_ge (tgt := 37) (q := 12) dX8_quarrelsOf_9 (by decide) rfl (fun h9 => ?_) (fun h9 => ?_)
  · replace h := s_f (fun q => q h9) h
    refine T.ild_2 (q := 38) dX8_quarrelsOf_37 rfl ?_
    exact T.retI rfl dX8_quarrelsOf_38 hc0 hs0 ⟨h, rfl⟩
  · replace h := s_t h9 h
    refine T.ild_2 (q := 13) dX8_quarrelsOf_12 rfl ?_
    refine T.ald_0 (q := 14) dX8_quarrelsOf_13 rfl ?_
    refine T.ild_1 (q := 15) dX8_quarrelsOf_14 rfl ?_
    refine T.ild_3 (q := 16) dX8_quarrelsOf_15 rfl ?_
    refine k_X8_412 rfl dX8_quarrelsOf_16 (q := 19) rfl (by decide) hc0 hs0 (Nat.le_of_ble_eq_true rfl) (t_X8_areQuarrel  h) ?_
    rintro r16 _ ⟨h, h9⟩
    obtain rfl := h9.symm
    refine T.if_eq (tgt := 28) (q := 22) dX8_quarrelsOf_19 (by decide) rfl (fun h19 => ?_) (fun h19 => ?_)
    · replace h := s_f (fun q => q h19) h
      refine T.iconst (q := 29) (0) dX8_quarrelsOf_28 rfl (by decide) ?_
      refine T.ior (q := 30) dX8_quarrelsOf_29 rfl ?_
      refine T.ist_2 (q := 31) dX8_quarrelsOf_30 rfl (by decide) sk_ok_i ?_
      refine S.i2 h ?_
      intro y30 h
      refine T.inc_3 (q := 34) (1) dX8_quarrelsOf_31 rfl (by decide) (by decide) sk_ok_i ?_
      refine T.goto (tgt := 4) dX8_quarrelsOf_34 (by decide) ?_
      exact hc9 (y30, (s4.2 + (1 : Int32))) h
    · replace h := s_t h19 h
      refine T.iconst (q := 23) (1) dX8_quarrelsOf_22 rfl (by decide) ?_
      refine T.ild_3 (q := 24) dX8_quarrelsOf_23 rfl ?_
      refine T.ishl (q := 25) dX8_quarrelsOf_24 rfl ?_
      refine T.goto (tgt := 29) dX8_quarrelsOf_25 (by decide) ?_
      refine T.ior (q := 30) dX8_quarrelsOf_29 rfl ?_
      refine T.ist_2 (q := 31) dX8_quarrelsOf_30 rfl (by decide) sk_ok_i ?_
      refine S.i2 h ?_
      intro y30 h
      refine T.inc_3 (q := 34) (1) dX8_quarrelsOf_31 rfl (by decide) (by decide) sk_ok_i ?_
      refine T.goto (tgt := 4) dX8_quarrelsOf_34 (by decide) ?_
      exact hc9 (y30, (s4.2 + (1 : Int32))) h
theorem t_X8_quarrelsOf {G : sk_G} {M : sk_M} {a1 : Int32}  {Q : Int32 → Prop} (h : w_X8_quarrelsOf a1 M Q) : Ctr G mX8_quarrelsOf 2 0 0 [.ref (G.2.2.1 140), .int a1] M (rI fun r9 M9 => Q r9 ∧ M9 = M) noX := by
  unfold w_X8_quarrelsOf at h
  refine Ctr.of 2 (by decide) (Nat.le_of_ble_eq_true rfl) ?_
  show TJ G mX8_quarrelsOf (sk_R 2 0 0) (sk_K G 0 0 (rI fun r9 M9 => Q r9 ∧ M9 = M) noX) 0 0 0 [some (.ref (G.2.2.1 140)), some (.int a1), none, none] [] M
  refine T.iconst (q := 1) (0) dX8_quarrelsOf_0 rfl (by decide) ?_
  refine T.ist_2 (q := 2) dX8_quarrelsOf_1 rfl (by decide) sk_ok_i ?_
  refine T.iconst (q := 3) (0) dX8_quarrelsOf_2 rfl (by decide) ?_
  refine T.ist_3 (q := 4) dX8_quarrelsOf_3 rfl (by decide) sk_ok_i ?_
  exact tl_X8_quarrelsOf_L4  (by decide) (by decide) _ ((0 : Int32), (0 : Int32)) h
theorem t_X8_contract {G : sk_G} {M : sk_M} {a1 : Int32} {a2 : Int32}  {Q : Int32 → sk_M → Prop} (h : w_X8_contract a1 a2 M Q) : Ctr G mX8_contract 3 0 0 [.ref (G.2.2.1 140), .int a1, .int a2] M (rI Q) noX := by
  unfold w_X8_contract at h
  refine Ctr.of 0 (by decide) (Nat.le_of_ble_eq_true rfl) ?_
  show TJ G mX8_contract (sk_R 3 0 0) (sk_K G 0 0 (rI Q) noX) 0 0 0 [some (.ref (G.2.2.1 140)), some (.int a1), some (.int a2)] [] M
  refine T.ald_0 (q := 1) dX8_contract_0 rfl ?_
  refine T.iconst (q := 2) (0) dX8_contract_1 rfl (by decide) ?_
  refine p_X8_3 rfl dX8_contract_2 (q := 5) rfl ?_
  refine S.mem h ?_
  intro M2 h
  refine T.ald_0 (q := 6) dX8_contract_5 rfl ?_
  refine T.ild_1 (q := 7) dX8_contract_6 rfl ?_
  refine T.iconst (q := 8) (0) dX8_contract_7 rfl (by decide) ?_
  refine T.ald_0 (q := 9) dX8_contract_8 rfl ?_
  refine k_X8_178 rfl dX8_contract_9 (q := 12) rfl (by decide) (by decide) (by decide) (Nat.le_of_ble_eq_true rfl) (t_X8_contracts (P := fun r9 => r9 = (f_X8_contracts M2)) rfl) ?_
  rintro _ _ ⟨rfl, h9⟩
  obtain rfl := h9.symm
  refine T.iconst (q := 13) (1) dX8_contract_12 rfl (by decide) ?_
  refine T.isub (q := 14) dX8_contract_13 rfl ?_
  refine k_X8_85 rfl dX8_contract_14 (q := 17) rfl (by decide) (by decide) (by decide) (Nat.le_of_ble_eq_true rfl) (t_X8_in (P := fun r9 => r9 = (f_X8_in a1 (0 : Int32) ((f_X8_contracts M2) - (1 : Int32)))) rfl) ?_
  rintro _ _ ⟨rfl, h9⟩
  obtain rfl := h9.symm
  refine s_dia (fun s25_17 : Int32 => TJ G mX8_contract (sk_R 3 0 0) (sk_K G 0 0 (rI Q) noX) 0 0 25 [some (.ref (G.2.2.1 140)), some (.int a1), some (.int a2)] [.int s25_17, .ref (G.2.2.1 140)] M2) h (fun s25_17 h => ?_) (fun k9 hJ9 h => ?_)
  · refine T.iconst (q := 26) (1) dX8_contract_25 rfl (by decide) ?_
    refine k_X8_281 rfl dX8_contract_26 (q := 29) rfl (by decide) (by decide) (by decide) (Nat.le_of_ble_eq_true rfl) (t_X8_throwsIf  h) ?_
    intro r26 M26 h
    refine T.if_ne (tgt := 54) (q := 32) dX8_contract_29 (by decide) rfl (fun h29 => ?_) (fun h29 => ?_)
    · replace h := s_f h29 h
      refine T.iconst (q := 55) (0) dX8_contract_54 rfl (by decide) ?_
      exact T.retI rfl dX8_contract_55 (by decide) (by decide) h
    · replace h := s_t h29 h
      refine T.ald_0 (q := 33) dX8_contract_32 rfl ?_
      refine T.ild_2 (q := 34) dX8_contract_33 rfl ?_
      refine T.iconst (q := 35) (0) dX8_contract_34 rfl (by decide) ?_
      refine T.iconst (q := 36) (4) dX8_contract_35 rfl (by decide) ?_
      refine k_X8_85 rfl dX8_contract_36 (q := 39) rfl (by decide) (by decide) (by decide) (Nat.le_of_ble_eq_true rfl) (t_X8_in (P := fun r9 => r9 = (f_X8_in a2 (0 : Int32) (4 : Int32))) rfl) ?_
      rintro _ _ ⟨rfl, h9⟩
      obtain rfl := h9.symm
      refine s_dia (fun s47_39 : Int32 => TJ G mX8_contract (sk_R 3 0 0) (sk_K G 0 0 (rI Q) noX) 0 0 47 [some (.ref (G.2.2.1 140)), some (.int a1), some (.int a2)] [.int s47_39, .ref (G.2.2.1 140)] M26) h (fun s47_39 h => ?_) (fun k9 hJ9 h => ?_)
      · refine T.iconst (q := 48) (2) dX8_contract_47 rfl (by decide) ?_
        refine k_X8_281 rfl dX8_contract_48 (q := 51) rfl (by decide) (by decide) (by decide) (Nat.le_of_ble_eq_true rfl) (t_X8_throwsIf  h) ?_
        intro r48 M48 h
        refine T.if_eq (tgt := 56) (q := 54) dX8_contract_51 (by decide) rfl (fun h51 => ?_) (fun h51 => ?_)
        · replace h := s_f (fun q => q h51) h
          refine T.ild_2 (q := 57) dX8_contract_56 rfl ?_
          refine T.iconst (q := 58) (4) dX8_contract_57 rfl (by decide) ?_
          refine T.ic_ne (tgt := 69) (q := 61) dX8_contract_58 (by decide) rfl (fun h58 => ?_) (fun h58 => ?_)
          · replace h := s_f h58 h
            refine T.ald_0 (q := 70) dX8_contract_69 rfl ?_
            refine T.ild_1 (q := 71) dX8_contract_70 rfl ?_
            refine T.ild_2 (q := 72) dX8_contract_71 rfl ?_
            refine k_X8_409 rfl dX8_contract_72 (q := 75) rfl (by decide) (by decide) (by decide) (Nat.le_of_ble_eq_true rfl) (t_X8_ofContract  h) ?_
            rintro r72 _ ⟨h, h9⟩
            obtain rfl := h9.symm
            exact T.retI rfl dX8_contract_75 (by decide) (by decide) h
          · replace h := s_t h58 h
            refine T.ald_0 (q := 62) dX8_contract_61 rfl ?_
            refine T.ild_1 (q := 63) dX8_contract_62 rfl ?_
            refine k_X8_415 rfl dX8_contract_63 (q := 66) rfl (by decide) (by decide) (by decide) (Nat.le_of_ble_eq_true rfl) (t_X8_quarrelsOf  h) ?_
            rintro r63 _ ⟨h, h9⟩
            obtain rfl := h9.symm
            refine T.goto (tgt := 75) dX8_contract_66 (by decide) ?_
            exact T.retI rfl dX8_contract_75 (by decide) (by decide) h
        · replace h := s_t h51 h
          refine T.iconst (q := 55) (0) dX8_contract_54 rfl (by decide) ?_
          exact T.retI rfl dX8_contract_55 (by decide) (by decide) h
      · refine T.if_ne (tgt := 46) (q := 42) dX8_contract_39 (by decide) rfl (fun h39 => ?_) (fun h39 => ?_)
        · replace h := s_fk h39 h
          refine T.iconst (q := 47) (0) dX8_contract_46 rfl (by decide) ?_
          exact hJ9 _ h
        · replace h := s_tk h39 h
          refine T.iconst (q := 43) (1) dX8_contract_42 rfl (by decide) ?_
          refine T.goto (tgt := 47) dX8_contract_43 (by decide) ?_
          exact hJ9 _ h
  · refine T.if_ne (tgt := 24) (q := 20) dX8_contract_17 (by decide) rfl (fun h17 => ?_) (fun h17 => ?_)
    · replace h := s_fk h17 h
      refine T.iconst (q := 25) (0) dX8_contract_24 rfl (by decide) ?_
      exact hJ9 _ h
    · replace h := s_tk h17 h
      refine T.iconst (q := 21) (1) dX8_contract_20 rfl (by decide) ?_
      refine T.goto (tgt := 25) dX8_contract_21 (by decide) ?_
      exact hJ9 _ h
theorem t_X8_ofLog {G : sk_G} {M : sk_M} {a1 : Int32} {a2 : Int32}  {Q : Int32 → Prop} (h : w_X8_ofLog a1 a2 M Q) : Ctr G mX8_ofLog 0 0 0 [.ref (G.2.2.1 140), .int a1, .int a2] M (rI fun r9 M9 => Q r9 ∧ M9 = M) noX := by
  unfold w_X8_ofLog at h
  refine Ctr.of 0 (by decide) (Nat.le_of_ble_eq_true rfl) ?_
  show TJ G mX8_ofLog (sk_R 0 0 0) (sk_K G 0 0 (rI fun r9 M9 => Q r9 ∧ M9 = M) noX) 0 0 0 [some (.ref (G.2.2.1 140)), some (.int a1), some (.int a2)] [] M
  refine T.ald_0 (q := 1) dX8_ofLog_0 rfl ?_
  refine g_X8_13 rfl dX8_ofLog_1 (q := 4) rfl ?_
  refine T.bipush (q := 6) (82) dX8_ofLog_4 rfl (by decide) ?_
  refine T.bipush (q := 8) (6) dX8_ofLog_6 rfl (by decide) ?_
  refine T.ild_1 (q := 9) dX8_ofLog_8 rfl ?_
  refine T.imul (q := 10) dX8_ofLog_9 rfl ?_
  refine T.iadd (q := 11) dX8_ofLog_10 rfl ?_
  refine T.ild_2 (q := 12) dX8_ofLog_11 rfl ?_
  refine T.iadd (q := 13) dX8_ofLog_12 rfl ?_
  refine T.iald (n := 2260) rfl rfl (by decide) dX8_ofLog_13 (q := 14) rfl h.1 ?_
  replace h := h.2
  exact T.retI rfl dX8_ofLog_14 (by decide) (by decide) ⟨h, rfl⟩
theorem tl_X8_isLogged_L5 {G : sk_G} {M : sk_M} {cells slots : Nat} {a1 : Int32} {a2 : Int32} {Q : Int32 → Prop}  (hc0 : cells ≤ 0) (hs0 : slots ≤ 0) : ∀ (F : Nat) (s5 : Int32 × Int32), lp (w_X8_isLogged_L5 a1 a2 M Q) F s5 → TJ G mX8_isLogged (sk_R 1 0 0) (sk_K G 0 0 (rI fun r9 M9 => Q r9 ∧ M9 = M) noX) cells slots 5 [some (.ref (G.2.2.1 140)), some (.int a1), some (.int a2), some (.int s5.1), some (.int s5.2), none] [] M := by
  refine lp_sound (fun c hc9 s5 h => ?_)
  unfold w_X8_isLogged_L5 at h
  refine T.ild_4 (q := 7) dX8_isLogged_5 rfl ?_
  refine T.ald_0 (q := 8) dX8_isLogged_7 rfl ?_
  refine g_X8_13 rfl dX8_isLogged_8 (q := 11) rfl ?_
  refine T.bipush (q := 13) (8) dX8_isLogged_11 rfl (by decide) ?_
  refine T.ialdk (n := 2260) rfl rfl (by decide) dX8_isLogged_13 (q := 14) rfl (k9 := 8) (by decide) ?_
  refine T.ic_ge (tgt := 108) (q := 17) dX8_isLogged_14 (by decide) rfl (fun h14 => ?_) (fun h14 => ?_)
  · replace h := s_f (fun q => q h14) h
    refine T.ild_3 (q := 109) dX8_isLogged_108 rfl ?_
    exact T.retZ rfl dX8_isLogged_109 hc0 hs0 (nz01 h.1) ⟨h.2, rfl⟩
  · replace h := s_t h14 h
    refine T.ald_0 (q := 18) dX8_isLogged_17 rfl ?_
    refine T.ild_4 (q := 20) dX8_isLogged_18 rfl ?_
    refine T.iconst (q := 21) (1) dX8_isLogged_20 rfl (by decide) ?_
    refine k_X8_418 rfl dX8_isLogged_21 (q := 24) rfl (by decide) hc0 hs0 (Nat.le_of_ble_eq_true rfl) (t_X8_ofLog  h) ?_
    rintro r21 _ ⟨h, h9⟩
    obtain rfl := h9.symm
    refine T.ald_0 (q := 25) dX8_isLogged_24 rfl ?_
    refine T.ild_1 (q := 26) dX8_isLogged_25 rfl ?_
    refine T.iconst (q := 27) (1) dX8_isLogged_26 rfl (by decide) ?_
    refine k_X8_409 rfl dX8_isLogged_27 (q := 30) rfl (by decide) hc0 hs0 (Nat.le_of_ble_eq_true rfl) (t_X8_ofContract  h) ?_
    rintro r27 _ ⟨h, h9⟩
    obtain rfl := h9.symm
    refine s_join (fun s54_30 : Int32 => TJ G mX8_isLogged (sk_R 1 0 0) (sk_K G 0 0 (rI fun r9 M9 => Q r9 ∧ M9 = M) noX) cells slots 54 [some (.ref (G.2.2.1 140)), some (.int a1), some (.int a2), some (.int s5.1), some (.int s5.2), none] [.int s54_30] M) h (fun s54_30 h => ?_) (fun j54_30 hj54_30 h => ?_)
    · refine T.ist_5 (q := 56) dX8_isLogged_54 rfl (by decide) sk_ok_i ?_
      refine T.ild_3 (q := 57) dX8_isLogged_56 rfl ?_
      refine T.if_ne (tgt := 96) (q := 60) dX8_isLogged_57 (by decide) rfl (fun h57 => ?_) (fun h57 => ?_)
      · replace h := s_f h57 h
        refine T.iconst (q := 97) (1) dX8_isLogged_96 rfl (by decide) ?_
        refine T.goto (tgt := 101) dX8_isLogged_97 (by decide) ?_
        refine T.ist_3 (q := 102) dX8_isLogged_101 rfl (by decide) sk_ok_i ?_
        refine T.inc_4 (q := 105) (1) dX8_isLogged_102 rfl (by decide) (by decide) sk_ok_i ?_
        refine T.goto (tgt := 5) dX8_isLogged_105 (by decide) ?_
        refine T.drop_5 ?_
        exact hc9 ((1 : Int32), (s5.2 + (1 : Int32))) h
      · replace h := s_t h57 h
        refine T.ild_5 (q := 62) dX8_isLogged_60 rfl ?_
        refine T.if_eq (tgt := 100) (q := 65) dX8_isLogged_62 (by decide) rfl (fun h62 => ?_) (fun h62 => ?_)
        · replace h := s_f (fun q => q h62) h
          refine T.iconst (q := 101) (0) dX8_isLogged_100 rfl (by decide) ?_
          refine T.ist_3 (q := 102) dX8_isLogged_101 rfl (by decide) sk_ok_i ?_
          refine T.inc_4 (q := 105) (1) dX8_isLogged_102 rfl (by decide) (by decide) sk_ok_i ?_
          refine T.goto (tgt := 5) dX8_isLogged_105 (by decide) ?_
          refine T.drop_5 ?_
          exact hc9 ((0 : Int32), (s5.2 + (1 : Int32))) h
        · replace h := s_t h62 h
          refine T.ild_2 (q := 66) dX8_isLogged_65 rfl ?_
          refine T.if_eq (tgt := 96) (q := 69) dX8_isLogged_66 (by decide) rfl (fun h66 => ?_) (fun h66 => ?_)
          · replace h := s_f (fun q => q h66) h
            refine T.iconst (q := 97) (1) dX8_isLogged_96 rfl (by decide) ?_
            refine T.goto (tgt := 101) dX8_isLogged_97 (by decide) ?_
            refine T.ist_3 (q := 102) dX8_isLogged_101 rfl (by decide) sk_ok_i ?_
            refine T.inc_4 (q := 105) (1) dX8_isLogged_102 rfl (by decide) (by decide) sk_ok_i ?_
            refine T.goto (tgt := 5) dX8_isLogged_105 (by decide) ?_
            refine T.drop_5 ?_
            exact hc9 ((1 : Int32), (s5.2 + (1 : Int32))) h
          · replace h := s_t h66 h
            refine T.ald_0 (q := 70) dX8_isLogged_69 rfl ?_
            refine T.ild_4 (q := 72) dX8_isLogged_70 rfl ?_
            refine T.iconst (q := 73) (5) dX8_isLogged_72 rfl (by decide) ?_
            refine k_X8_418 rfl dX8_isLogged_73 (q := 76) rfl (by decide) hc0 hs0 (Nat.le_of_ble_eq_true rfl) (t_X8_ofLog  h) ?_
            rintro r73 _ ⟨h, h9⟩
            obtain rfl := h9.symm
            refine T.iconst (q := 77) (1) dX8_isLogged_76 rfl (by decide) ?_
            refine T.ic_ne (tgt := 100) (q := 80) dX8_isLogged_77 (by decide) rfl (fun h77 => ?_) (fun h77 => ?_)
            · replace h := s_f h77 h
              refine T.iconst (q := 101) (0) dX8_isLogged_100 rfl (by decide) ?_
              refine T.ist_3 (q := 102) dX8_isLogged_101 rfl (by decide) sk_ok_i ?_
              refine T.inc_4 (q := 105) (1) dX8_isLogged_102 rfl (by decide) (by decide) sk_ok_i ?_
              refine T.goto (tgt := 5) dX8_isLogged_105 (by decide) ?_
              refine T.drop_5 ?_
              exact hc9 ((0 : Int32), (s5.2 + (1 : Int32))) h
            · replace h := s_t h77 h
              refine T.ald_0 (q := 81) dX8_isLogged_80 rfl ?_
              refine T.ild_4 (q := 83) dX8_isLogged_81 rfl ?_
              refine T.iconst (q := 84) (0) dX8_isLogged_83 rfl (by decide) ?_
              refine k_X8_418 rfl dX8_isLogged_84 (q := 87) rfl (by decide) hc0 hs0 (Nat.le_of_ble_eq_true rfl) (t_X8_ofLog  h) ?_
              rintro r84 _ ⟨h, h9⟩
              obtain rfl := h9.symm
              refine T.ald_0 (q := 88) dX8_isLogged_87 rfl ?_
              refine T.ild_1 (q := 89) dX8_isLogged_88 rfl ?_
              refine T.iconst (q := 90) (3) dX8_isLogged_89 rfl (by decide) ?_
              refine k_X8_409 rfl dX8_isLogged_90 (q := 93) rfl (by decide) hc0 hs0 (Nat.le_of_ble_eq_true rfl) (t_X8_ofContract  h) ?_
              rintro r90 _ ⟨h, h9⟩
              obtain rfl := h9.symm
              refine T.ic_gt (tgt := 100) (q := 96) dX8_isLogged_93 (by decide) rfl (fun h93 => ?_) (fun h93 => ?_)
              · replace h := s_f (fun q => q h93) h
                refine T.iconst (q := 101) (0) dX8_isLogged_100 rfl (by decide) ?_
                refine T.ist_3 (q := 102) dX8_isLogged_101 rfl (by decide) sk_ok_i ?_
                refine T.inc_4 (q := 105) (1) dX8_isLogged_102 rfl (by decide) (by decide) sk_ok_i ?_
                refine T.goto (tgt := 5) dX8_isLogged_105 (by decide) ?_
                refine T.drop_5 ?_
                exact hc9 ((0 : Int32), (s5.2 + (1 : Int32))) h
              · replace h := s_t h93 h
                refine T.iconst (q := 97) (1) dX8_isLogged_96 rfl (by decide) ?_
                refine T.goto (tgt := 101) dX8_isLogged_97 (by decide) ?_
                refine T.ist_3 (q := 102) dX8_isLogged_101 rfl (by decide) sk_ok_i ?_
                refine T.inc_4 (q := 105) (1) dX8_isLogged_102 rfl (by decide) (by decide) sk_ok_i ?_
                refine T.goto (tgt := 5) dX8_isLogged_105 (by decide) ?_
                refine T.drop_5 ?_
                exact hc9 ((1 : Int32), (s5.2 + (1 : Int32))) h
    · refine s_join (fun s53_30 : Unit => TJ G mX8_isLogged (sk_R 1 0 0) (sk_K G 0 0 (rI fun r9 M9 => Q r9 ∧ M9 = M) noX) cells slots 53 [some (.ref (G.2.2.1 140)), some (.int a1), some (.int a2), some (.int s5.1), some (.int s5.2), none] [] M) h (fun s53_30 h => ?_) (fun j53_30 hj53_30 h => ?_)
      · refine T.iconst (q := 54) (0) dX8_isLogged_53 rfl (by decide) ?_
        exact hj54_30 (0 : Int32) h
      · refine T.ic_ne (tgt := 53) (q := 33) dX8_isLogged_30 (by decide) rfl (fun h30 => ?_) (fun h30 => ?_)
        · replace h := s_f h30 h
          exact hj53_30 () h
        · replace h := s_t h30 h
          refine T.ald_0 (q := 34) dX8_isLogged_33 rfl ?_
          refine T.ild_4 (q := 36) dX8_isLogged_34 rfl ?_
          refine T.iconst (q := 37) (2) dX8_isLogged_36 rfl (by decide) ?_
          refine k_X8_418 rfl dX8_isLogged_37 (q := 40) rfl (by decide) hc0 hs0 (Nat.le_of_ble_eq_true rfl) (t_X8_ofLog  h) ?_
          rintro r37 _ ⟨h, h9⟩
          obtain rfl := h9.symm
          refine T.ald_0 (q := 41) dX8_isLogged_40 rfl ?_
          refine T.ild_1 (q := 42) dX8_isLogged_41 rfl ?_
          refine T.iconst (q := 43) (2) dX8_isLogged_42 rfl (by decide) ?_
          refine k_X8_409 rfl dX8_isLogged_43 (q := 46) rfl (by decide) hc0 hs0 (Nat.le_of_ble_eq_true rfl) (t_X8_ofContract  h) ?_
          rintro r43 _ ⟨h, h9⟩
          obtain rfl := h9.symm
          refine T.ic_ne (tgt := 53) (q := 49) dX8_isLogged_46 (by decide) rfl (fun h46 => ?_) (fun h46 => ?_)
          · replace h := s_f h46 h
            exact hj53_30 () h
          · replace h := s_t h46 h
            refine T.iconst (q := 50) (1) dX8_isLogged_49 rfl (by decide) ?_
            refine T.goto (tgt := 54) dX8_isLogged_50 (by decide) ?_
            exact hj54_30 (1 : Int32) h
theorem t_X8_isLogged {G : sk_G} {M : sk_M} {a1 : Int32} {a2 : Int32}  {Q : Int32 → Prop} (h : w_X8_isLogged a1 a2 M Q) : Ctr G mX8_isLogged 1 0 0 [.ref (G.2.2.1 140), .int a1, .int a2] M (rI fun r9 M9 => Q r9 ∧ M9 = M) noX := by
  unfold w_X8_isLogged at h
  refine Ctr.of 3 (by decide) (Nat.le_of_ble_eq_true rfl) ?_
  show TJ G mX8_isLogged (sk_R 1 0 0) (sk_K G 0 0 (rI fun r9 M9 => Q r9 ∧ M9 = M) noX) 0 0 0 [some (.ref (G.2.2.1 140)), some (.int a1), some (.int a2), none, none, none] [] M
  refine T.iconst (q := 1) (0) dX8_isLogged_0 rfl (by decide) ?_
  refine T.ist_3 (q := 2) dX8_isLogged_1 rfl (by decide) sk_ok_i ?_
  refine T.iconst (q := 3) (0) dX8_isLogged_2 rfl (by decide) ?_
  refine T.ist_4 (q := 5) dX8_isLogged_3 rfl (by decide) sk_ok_i ?_
  exact tl_X8_isLogged_L5  (by decide) (by decide) _ ((0 : Int32), (0 : Int32)) h
theorem tl_X8_broken_L9 {G : sk_G} {cells slots : Nat} {M2 : sk_M} {Q : Int32 → sk_M → Prop}  (hc0 : cells ≤ 0) (hs0 : slots ≤ 0) : ∀ (F : Nat) (s9 : Int32 × Int32), lp (w_X8_broken_L9 M2 Q) F s9 → TJ G mX8_broken (sk_R 2 0 0) (sk_K G 0 0 (rI Q) noX) cells slots 9 [some (.ref (G.2.2.1 140)), some (.int s9.1), some (.int s9.2), none, none] [] M2 := by
  refine lp_sound (fun c hc9 s9 h => ?_)
  unfold w_X8_broken_L9 at h
  refine T.ild_2 (q := 10) dX8_broken_9 rfl ?_
  refine T.ald_0 (q := 11) dX8_broken_10 rfl ?_
  refine k_X8_178 rfl dX8_broken_11 (q := 14) rfl (by decide) hc0 hs0 (Nat.le_of_ble_eq_true rfl) (t_X8_contracts (P := fun r9 => r9 = (f_X8_contracts M2)) rfl) ?_
  rintro _ _ ⟨rfl, h9⟩
  obtain rfl := h9.symm
  refine T.ic_ge (tgt := 98) (q := 17) dX8_broken_14 (by decide) rfl (fun h14 => ?_) (fun h14 => ?_)
  · replace h := s_f (fun q => q h14) h
    refine T.ild_1 (q := 99) dX8_broken_98 rfl ?_
    exact T.retI rfl dX8_broken_99 hc0 hs0 h
  · replace h := s_t h14 h
    refine T.ald_0 (q := 18) dX8_broken_17 rfl ?_
    refine T.ild_2 (q := 19) dX8_broken_18 rfl ?_
    refine T.iconst (q := 20) (0) dX8_broken_19 rfl (by decide) ?_
    refine k_X8_409 rfl dX8_broken_20 (q := 23) rfl (by decide) hc0 hs0 (Nat.le_of_ble_eq_true rfl) (t_X8_ofContract  h) ?_
    rintro r20 _ ⟨h, h9⟩
    obtain rfl := h9.symm
    refine T.iconst (q := 24) (1) dX8_broken_23 rfl (by decide) ?_
    refine s_dia (fun s32_24 : Int32 => TJ G mX8_broken (sk_R 2 0 0) (sk_K G 0 0 (rI Q) noX) cells slots 32 [some (.ref (G.2.2.1 140)), some (.int s9.1), some (.int s9.2), none, none] [.int s32_24] M2) h (fun s32_24 h => ?_) (fun k9 hJ9 h => ?_)
    · refine T.ist_3 (q := 33) dX8_broken_32 rfl (by decide) sk_ok_i ?_
      refine T.ild_3 (q := 34) dX8_broken_33 rfl ?_
      refine s_join (fun s75_34 : Int32 => TJ G mX8_broken (sk_R 2 0 0) (sk_K G 0 0 (rI Q) noX) cells slots 75 [some (.ref (G.2.2.1 140)), some (.int s9.1), some (.int s9.2), none, none] [.int s75_34] M2) h (fun s75_34 h => ?_) (fun j75_34 hj75_34 h => ?_)
      · refine T.ist_4 (q := 77) dX8_broken_75 rfl (by decide) sk_ok_n ?_
        refine T.ild_1 (q := 78) dX8_broken_77 rfl ?_
        refine T.ild_4 (q := 80) dX8_broken_78 rfl ?_
        refine T.if_eq (tgt := 89) (q := 83) dX8_broken_80 (by decide) rfl (fun h80 => ?_) (fun h80 => ?_)
        · replace h := s_f (fun q => q h80) h
          refine T.iconst (q := 90) (0) dX8_broken_89 rfl (by decide) ?_
          refine T.ior (q := 91) dX8_broken_90 rfl ?_
          refine T.ist_1 (q := 92) dX8_broken_91 rfl (by decide) sk_ok_r ?_
          refine S.i1 h ?_
          intro y91 h
          refine T.inc_2 (q := 95) (1) dX8_broken_92 rfl (by decide) (by decide) sk_ok_i ?_
          refine T.goto (tgt := 9) dX8_broken_95 (by decide) ?_
          refine T.drop_4 ?_
          exact hc9 (y91, (s9.2 + (1 : Int32))) h
        · replace h := s_t h80 h
          refine T.iconst (q := 84) (1) dX8_broken_83 rfl (by decide) ?_
          refine T.ild_2 (q := 85) dX8_broken_84 rfl ?_
          refine T.ishl (q := 86) dX8_broken_85 rfl ?_
          refine T.goto (tgt := 90) dX8_broken_86 (by decide) ?_
          refine T.ior (q := 91) dX8_broken_90 rfl ?_
          refine T.ist_1 (q := 92) dX8_broken_91 rfl (by decide) sk_ok_r ?_
          refine S.i1 h ?_
          intro y91 h
          refine T.inc_2 (q := 95) (1) dX8_broken_92 rfl (by decide) (by decide) sk_ok_i ?_
          refine T.goto (tgt := 9) dX8_broken_95 (by decide) ?_
          refine T.drop_4 ?_
          exact hc9 (y91, (s9.2 + (1 : Int32))) h
      · refine T.if_eq (tgt := 69) (q := 37) dX8_broken_34 (by decide) rfl (fun h34 => ?_) (fun h34 => ?_)
        · replace h := s_f (fun q => q h34) h
          refine T.ald_0 (q := 70) dX8_broken_69 rfl ?_
          refine T.ild_2 (q := 71) dX8_broken_70 rfl ?_
          refine T.iconst (q := 72) (0) dX8_broken_71 rfl (by decide) ?_
          refine k_X8_421 rfl dX8_broken_72 (q := 75) rfl (by decide) hc0 hs0 (Nat.le_of_ble_eq_true rfl) (t_X8_isLogged  h) ?_
          rintro r72 _ ⟨h, h9⟩
          obtain rfl := h9.symm
          refine T.drop_3 ?_
          exact hj75_34 r72 h
        · replace h := s_t h34 h
          refine T.ald_0 (q := 38) dX8_broken_37 rfl ?_
          refine g_X8_13 rfl dX8_broken_38 (q := 41) rfl ?_
          refine T.iconst (q := 42) (5) dX8_broken_41 rfl (by decide) ?_
          refine T.ialdk (n := 2260) rfl rfl (by decide) dX8_broken_42 (q := 43) rfl (k9 := 5) (by decide) ?_
          refine T.ald_0 (q := 44) dX8_broken_43 rfl ?_
          refine T.ild_2 (q := 45) dX8_broken_44 rfl ?_
          refine T.iconst (q := 46) (3) dX8_broken_45 rfl (by decide) ?_
          refine k_X8_409 rfl dX8_broken_46 (q := 49) rfl (by decide) hc0 hs0 (Nat.le_of_ble_eq_true rfl) (t_X8_ofContract  h) ?_
          rintro r46 _ ⟨h, h9⟩
          obtain rfl := h9.symm
          refine T.ic_le (tgt := 65) (q := 52) dX8_broken_49 (by decide) rfl (fun h49 => ?_) (fun h49 => ?_)
          · replace h := s_f (fun q => q h49) h
            refine T.iconst (q := 66) (0) dX8_broken_65 rfl (by decide) ?_
            refine T.goto (tgt := 75) dX8_broken_66 (by decide) ?_
            refine T.drop_3 ?_
            exact hj75_34 (0 : Int32) h
          · replace h := s_t h49 h
            refine T.ald_0 (q := 53) dX8_broken_52 rfl ?_
            refine T.ild_2 (q := 54) dX8_broken_53 rfl ?_
            refine T.iconst (q := 55) (1) dX8_broken_54 rfl (by decide) ?_
            refine k_X8_421 rfl dX8_broken_55 (q := 58) rfl (by decide) hc0 hs0 (Nat.le_of_ble_eq_true rfl) (t_X8_isLogged  h) ?_
            rintro r55 _ ⟨h, h9⟩
            obtain rfl := h9.symm
            refine T.if_ne (tgt := 65) (q := 61) dX8_broken_58 (by decide) rfl (fun h58 => ?_) (fun h58 => ?_)
            · replace h := s_f h58 h
              refine T.iconst (q := 66) (0) dX8_broken_65 rfl (by decide) ?_
              refine T.goto (tgt := 75) dX8_broken_66 (by decide) ?_
              refine T.drop_3 ?_
              exact hj75_34 (0 : Int32) h
            · replace h := s_t h58 h
              refine T.iconst (q := 62) (1) dX8_broken_61 rfl (by decide) ?_
              refine T.goto (tgt := 75) dX8_broken_62 (by decide) ?_
              refine T.drop_3 ?_
              exact hj75_34 (1 : Int32) h
    · refine T.ic_ne (tgt := 31) (q := 27) dX8_broken_24 (by decide) rfl (fun h24 => ?_) (fun h24 => ?_)
      · replace h := s_fk h24 h
        refine T.iconst (q := 32) (0) dX8_broken_31 rfl (by decide) ?_
        exact hJ9 _ h
      · replace h := s_tk h24 h
        refine T.iconst (q := 28) (1) dX8_broken_27 rfl (by decide) ?_
        refine T.goto (tgt := 32) dX8_broken_28 (by decide) ?_
        exact hJ9 _ h
theorem t_X8_broken {G : sk_G} {M : sk_M}   {Q : Int32 → sk_M → Prop} (h : w_X8_broken  M Q) : Ctr G mX8_broken 2 0 0 [.ref (G.2.2.1 140)] M (rI Q) noX := by
  unfold w_X8_broken at h
  refine Ctr.of 4 (by decide) (Nat.le_of_ble_eq_true rfl) ?_
  show TJ G mX8_broken (sk_R 2 0 0) (sk_K G 0 0 (rI Q) noX) 0 0 0 [some (.ref (G.2.2.1 140)), none, none, none, none] [] M
  refine T.ald_0 (q := 1) dX8_broken_0 rfl ?_
  refine T.iconst (q := 2) (0) dX8_broken_1 rfl (by decide) ?_
  refine p_X8_3 rfl dX8_broken_2 (q := 5) rfl ?_
  refine S.mem h ?_
  intro M2 h
  refine T.iconst (q := 6) (0) dX8_broken_5 rfl (by decide) ?_
  refine T.ist_1 (q := 7) dX8_broken_6 rfl (by decide) sk_ok_r ?_
  refine T.iconst (q := 8) (0) dX8_broken_7 rfl (by decide) ?_
  refine T.ist_2 (q := 9) dX8_broken_8 rfl (by decide) sk_ok_i ?_
  exact tl_X8_broken_L9  (by decide) (by decide) _ ((0 : Int32), (0 : Int32)) h
theorem tl_X8_isPeace_L4 {G : sk_G} {M : sk_M} {cells slots : Nat} {a1 : Int32} {Q : Int32 → Prop}  (hc0 : cells ≤ 0) (hs0 : slots ≤ 0) : ∀ (F : Nat) (s4 : Int32 × Int32), lp (w_X8_isPeace_L4 a1 M Q) F s4 → TJ G mX8_isPeace (sk_R 3 0 0) (sk_K G 0 0 (rI fun r9 M9 => Q r9 ∧ M9 = M) noX) cells slots 4 [some (.ref (G.2.2.1 140)), some (.int a1), some (.int s4.1), some (.int s4.2)] [] M := by
  refine lp_sound (fun c hc9 s4 h => ?_)
  unfold w_X8_isPeace_L4 at h
  refine T.ild_3 (q := 5) dX8_isPeace_4 rfl ?_
  refine T.ald_0 (q := 6) dX8_isPeace_5 rfl ?_
  refine k_X8_178 rfl dX8_isPeace_6 (q := 9) rfl (by decide) hc0 hs0 (Nat.le_of_ble_eq_true rfl) (t_X8_contracts (P := fun r9 => r9 = (f_X8_contracts M)) rfl) ?_
  rintro _ _ ⟨rfl, h9⟩
  obtain rfl := h9.symm
  refine T.ic_ge (tgt := 48) (q := 12) dX8_isPeace_9 (by decide) rfl (fun h9 => ?_) (fun h9 => ?_)
  · replace h := s_f (fun q => q.1 h9) h
    refine T.ild_2 (q := 49) dX8_isPeace_48 rfl ?_
    exact T.retZ rfl dX8_isPeace_49 hc0 hs0 (nz01 h.1) ⟨h.2, rfl⟩
  · refine T.ild_2 (q := 13) dX8_isPeace_12 rfl ?_
    refine T.if_eq (tgt := 48) (q := 16) dX8_isPeace_13 (by decide) rfl (fun h13 => ?_) (fun h13 => ?_)
    · replace h := s_f (fun q => (fun q => q h13) q.2) h
      refine T.ild_2 (q := 49) dX8_isPeace_48 rfl ?_
      exact T.retZ rfl dX8_isPeace_49 hc0 hs0 (nz01 h.1) ⟨h.2, rfl⟩
    · replace h := s_t ⟨h9, h13⟩ h
      refine T.ild_1 (q := 17) dX8_isPeace_16 rfl ?_
      refine T.ild_3 (q := 18) dX8_isPeace_17 rfl ?_
      refine k_X8_320 rfl dX8_isPeace_18 (q := 21) rfl (by decide) hc0 hs0 (Nat.le_of_ble_eq_true rfl) (t_X8_has (P := fun r9 => r9 = (f_X8_has a1 s4.2)) rfl) ?_
      rintro _ _ ⟨rfl, h9⟩
      obtain rfl := h9.symm
      refine T.if_ne (tgt := 36) (q := 24) dX8_isPeace_21 (by decide) rfl (fun h21 => ?_) (fun h21 => ?_)
      · replace h := s_f h21 h
        refine T.iconst (q := 37) (1) dX8_isPeace_36 rfl (by decide) ?_
        refine T.goto (tgt := 41) dX8_isPeace_37 (by decide) ?_
        refine T.ist_2 (q := 42) dX8_isPeace_41 rfl (by decide) sk_ok_i ?_
        refine T.inc_3 (q := 45) (1) dX8_isPeace_42 rfl (by decide) (by decide) sk_ok_i ?_
        refine T.goto (tgt := 4) dX8_isPeace_45 (by decide) ?_
        exact hc9 ((1 : Int32), (s4.2 + (1 : Int32))) h
      · replace h := s_t h21 h
        refine T.ald_0 (q := 25) dX8_isPeace_24 rfl ?_
        refine T.ild_3 (q := 26) dX8_isPeace_25 rfl ?_
        refine k_X8_415 rfl dX8_isPeace_26 (q := 29) rfl (by decide) hc0 hs0 (Nat.le_of_ble_eq_true rfl) (t_X8_quarrelsOf  h) ?_
        rintro r26 _ ⟨h, h9⟩
        obtain rfl := h9.symm
        refine T.ild_1 (q := 30) dX8_isPeace_29 rfl ?_
        refine T.iconst (q := 31) (-1) dX8_isPeace_30 rfl (by decide) ?_
        refine T.ixor (q := 32) dX8_isPeace_31 rfl ?_
        refine T.iand (q := 33) dX8_isPeace_32 rfl ?_
        refine T.if_ne (tgt := 40) (q := 36) dX8_isPeace_33 (by decide) rfl (fun h33 => ?_) (fun h33 => ?_)
        · replace h := s_f h33 h
          refine T.iconst (q := 41) (0) dX8_isPeace_40 rfl (by decide) ?_
          refine T.ist_2 (q := 42) dX8_isPeace_41 rfl (by decide) sk_ok_i ?_
          refine T.inc_3 (q := 45) (1) dX8_isPeace_42 rfl (by decide) (by decide) sk_ok_i ?_
          refine T.goto (tgt := 4) dX8_isPeace_45 (by decide) ?_
          exact hc9 ((0 : Int32), (s4.2 + (1 : Int32))) h
        · replace h := s_t h33 h
          refine T.iconst (q := 37) (1) dX8_isPeace_36 rfl (by decide) ?_
          refine T.goto (tgt := 41) dX8_isPeace_37 (by decide) ?_
          refine T.ist_2 (q := 42) dX8_isPeace_41 rfl (by decide) sk_ok_i ?_
          refine T.inc_3 (q := 45) (1) dX8_isPeace_42 rfl (by decide) (by decide) sk_ok_i ?_
          refine T.goto (tgt := 4) dX8_isPeace_45 (by decide) ?_
          exact hc9 ((1 : Int32), (s4.2 + (1 : Int32))) h
theorem t_X8_isPeace {G : sk_G} {M : sk_M} {a1 : Int32}  {Q : Int32 → Prop} (h : w_X8_isPeace a1 M Q) : Ctr G mX8_isPeace 3 0 0 [.ref (G.2.2.1 140), .int a1] M (rI fun r9 M9 => Q r9 ∧ M9 = M) noX := by
  unfold w_X8_isPeace at h
  refine Ctr.of 2 (by decide) (Nat.le_of_ble_eq_true rfl) ?_
  show TJ G mX8_isPeace (sk_R 3 0 0) (sk_K G 0 0 (rI fun r9 M9 => Q r9 ∧ M9 = M) noX) 0 0 0 [some (.ref (G.2.2.1 140)), some (.int a1), none, none] [] M
  refine T.iconst (q := 1) (1) dX8_isPeace_0 rfl (by decide) ?_
  refine T.ist_2 (q := 2) dX8_isPeace_1 rfl (by decide) sk_ok_i ?_
  refine T.iconst (q := 3) (0) dX8_isPeace_2 rfl (by decide) ?_
  refine T.ist_3 (q := 4) dX8_isPeace_3 rfl (by decide) sk_ok_i ?_
  exact tl_X8_isPeace_L4  (by decide) (by decide) _ ((1 : Int32), (0 : Int32)) h
theorem tl_X8_breaks_L16 {G : sk_G} {cells slots : Nat} {M2 : sk_M} {Q : Int32 → sk_M → Prop}  (hc0 : cells ≤ 0) (hs0 : slots ≤ 0) : ∀ (F : Nat) (s16 : Int32 × Int32), lp (w_X8_breaks_L16 M2 Q) F s16 → TJ G mX8_breaks (sk_R 4 0 0) (sk_K G 0 0 (rI Q) noX) cells slots 16 [some (.ref (G.2.2.1 140)), some (.int s16.1), some (.int s16.2)] [] M2 := by
  refine lp_sound (fun c hc9 s16 h => ?_)
  unfold w_X8_breaks_L16 at h
  refine T.ild_2 (q := 17) dX8_breaks_16 rfl ?_
  refine T.if_lt (tgt := 51) (q := 20) dX8_breaks_17 (by decide) rfl (fun h17 => ?_) (fun h17 => ?_)
  · replace h := s_f (fun q => q h17) h
    refine T.ild_1 (q := 52) dX8_breaks_51 rfl ?_
    exact T.retI rfl dX8_breaks_52 hc0 hs0 h
  · replace h := s_t h17 h
    refine T.ild_2 (q := 21) dX8_breaks_20 rfl ?_
    refine k_X8_338 rfl dX8_breaks_21 (q := 24) rfl (by decide) hc0 hs0 (Nat.le_of_ble_eq_true rfl) (t_bc32 (P := fun r9 => r9 = (bc32 s16.2)) rfl) ?_
    rintro _ _ ⟨rfl, h9⟩
    obtain rfl := h9.symm
    refine T.ild_1 (q := 25) dX8_breaks_24 rfl ?_
    refine k_X8_338 rfl dX8_breaks_25 (q := 28) rfl (by decide) hc0 hs0 (Nat.le_of_ble_eq_true rfl) (t_bc32 (P := fun r9 => r9 = (bc32 s16.1)) rfl) ?_
    rintro _ _ ⟨rfl, h9⟩
    obtain rfl := h9.symm
    refine T.ic_gt (tgt := 43) (q := 31) dX8_breaks_28 (by decide) rfl (fun h28 => ?_) (fun h28 => ?_)
    · replace h := s_f (fun q => q h28) h
      refine T.ild_1 (q := 44) dX8_breaks_43 rfl ?_
      refine T.ist_1 (q := 45) dX8_breaks_44 rfl (by decide) sk_ok_r ?_
      refine T.inc_2 (q := 48) (-1) dX8_breaks_45 rfl (by decide) (by decide) sk_ok_i ?_
      refine T.goto (tgt := 16) dX8_breaks_48 (by decide) ?_
      exact hc9 (s16.1, (s16.2 + (-1 : Int32))) h
    · replace h := s_t h28 h
      refine T.ald_0 (q := 32) dX8_breaks_31 rfl ?_
      refine T.ild_2 (q := 33) dX8_breaks_32 rfl ?_
      refine k_X8_425 rfl dX8_breaks_33 (q := 36) rfl (by decide) hc0 hs0 (Nat.le_of_ble_eq_true rfl) (t_X8_isPeace  h) ?_
      rintro r33 _ ⟨h, h9⟩
      obtain rfl := h9.symm
      refine T.if_eq (tgt := 43) (q := 39) dX8_breaks_36 (by decide) rfl (fun h36 => ?_) (fun h36 => ?_)
      · replace h := s_f (fun q => q h36) h
        refine T.ild_1 (q := 44) dX8_breaks_43 rfl ?_
        refine T.ist_1 (q := 45) dX8_breaks_44 rfl (by decide) sk_ok_r ?_
        refine T.inc_2 (q := 48) (-1) dX8_breaks_45 rfl (by decide) (by decide) sk_ok_i ?_
        refine T.goto (tgt := 16) dX8_breaks_48 (by decide) ?_
        exact hc9 (s16.1, (s16.2 + (-1 : Int32))) h
      · replace h := s_t h36 h
        refine T.ild_2 (q := 40) dX8_breaks_39 rfl ?_
        refine T.goto (tgt := 44) dX8_breaks_40 (by decide) ?_
        refine T.ist_1 (q := 45) dX8_breaks_44 rfl (by decide) sk_ok_r ?_
        refine T.inc_2 (q := 48) (-1) dX8_breaks_45 rfl (by decide) (by decide) sk_ok_i ?_
        refine T.goto (tgt := 16) dX8_breaks_48 (by decide) ?_
        exact hc9 (s16.2, (s16.2 + (-1 : Int32))) h
theorem t_X8_breaks {G : sk_G} {M : sk_M}   {Q : Int32 → sk_M → Prop} (h : w_X8_breaks  M Q) : Ctr G mX8_breaks 4 0 0 [.ref (G.2.2.1 140)] M (rI Q) noX := by
  unfold w_X8_breaks at h
  refine Ctr.of 2 (by decide) (Nat.le_of_ble_eq_true rfl) ?_
  show TJ G mX8_breaks (sk_R 4 0 0) (sk_K G 0 0 (rI Q) noX) 0 0 0 [some (.ref (G.2.2.1 140)), none, none] [] M
  refine T.ald_0 (q := 1) dX8_breaks_0 rfl ?_
  refine T.iconst (q := 2) (0) dX8_breaks_1 rfl (by decide) ?_
  refine p_X8_3 rfl dX8_breaks_2 (q := 5) rfl ?_
  refine S.mem h ?_
  intro M2 h
  refine T.iconst (q := 6) (1) dX8_breaks_5 rfl (by decide) ?_
  refine T.ald_0 (q := 7) dX8_breaks_6 rfl ?_
  refine k_X8_178 rfl dX8_breaks_7 (q := 10) rfl (by decide) (by decide) (by decide) (Nat.le_of_ble_eq_true rfl) (t_X8_contracts (P := fun r9 => r9 = (f_X8_contracts M2)) rfl) ?_
  rintro _ _ ⟨rfl, h9⟩
  obtain rfl := h9.symm
  refine T.ishl (q := 11) dX8_breaks_10 rfl ?_
  refine T.iconst (q := 12) (1) dX8_breaks_11 rfl (by decide) ?_
  refine T.isub (q := 13) dX8_breaks_12 rfl ?_
  refine T.ist_1 (q := 14) dX8_breaks_13 rfl (by decide) sk_ok_r ?_
  refine S.i1 h ?_
  intro y13 h
  refine T.ild_1 (q := 15) dX8_breaks_14 rfl ?_
  refine T.ist_2 (q := 16) dX8_breaks_15 rfl (by decide) sk_ok_i ?_
  exact tl_X8_breaks_L16  (by decide) (by decide) _ (y13, y13) h
theorem t_X8_worthOf {G : sk_G} {M : sk_M} {a1 : Int32} {a2 : Int32}  {Q : Int32 → Prop} (h : w_X8_worthOf a1 a2 M Q) : Ctr G mX8_worthOf 2 0 0 [.ref (G.2.2.1 140), .int a1, .int a2] M (rI fun r9 M9 => Q r9 ∧ M9 = M) noX := by
  unfold w_X8_worthOf at h
  refine Ctr.of 1 (by decide) (Nat.le_of_ble_eq_true rfl) ?_
  show TJ G mX8_worthOf (sk_R 2 0 0) (sk_K G 0 0 (rI fun r9 M9 => Q r9 ∧ M9 = M) noX) 0 0 0 [some (.ref (G.2.2.1 140)), some (.int a1), some (.int a2), none] [] M
  refine T.ald_0 (q := 1) dX8_worthOf_0 rfl ?_
  refine T.ild_1 (q := 2) dX8_worthOf_1 rfl ?_
  refine T.ild_2 (q := 3) dX8_worthOf_2 rfl ?_
  refine k_X8_345 rfl dX8_worthOf_3 (q := 6) rfl (by decide) (by decide) (by decide) (Nat.le_of_ble_eq_true rfl) (t_X8_leftOf  h) ?_
  rintro r3 _ ⟨h, h9⟩
  obtain rfl := h9.symm
  refine T.ist_3 (q := 7) dX8_worthOf_6 rfl (by decide) sk_ok_i ?_
  refine T.ild_3 (q := 8) dX8_worthOf_7 rfl ?_
  refine T.if_ne (tgt := 15) (q := 11) dX8_worthOf_8 (by decide) rfl (fun h8 => ?_) (fun h8 => ?_)
  · replace h := s_f h8 h
    refine T.ald_0 (q := 16) dX8_worthOf_15 rfl ?_
    refine T.ild_2 (q := 17) dX8_worthOf_16 rfl ?_
    refine T.iconst (q := 18) (2) dX8_worthOf_17 rfl (by decide) ?_
    refine k_X8_167 rfl dX8_worthOf_18 (q := 21) rfl (by decide) (by decide) (by decide) (Nat.le_of_ble_eq_true rfl) (t_X8_of  h) ?_
    rintro r18 _ ⟨h, h9⟩
    obtain rfl := h9.symm
    refine T.ild_3 (q := 22) dX8_worthOf_21 rfl ?_
    refine T.idiv (q := 23) dX8_worthOf_22 rfl h.1 ?_
    replace h := h.2
    exact T.retI rfl dX8_worthOf_23 (by decide) (by decide) ⟨h, rfl⟩
  · replace h := s_t h8 h
    refine T.iconst (q := 12) (0) dX8_worthOf_11 rfl (by decide) ?_
    refine T.goto (tgt := 23) dX8_worthOf_12 (by decide) ?_
    exact T.retI rfl dX8_worthOf_23 (by decide) (by decide) ⟨h, rfl⟩
theorem tl_X8_richest_L28 {G : sk_G} {cells slots : Nat} {a1 : Int32} {a2 : Int32} {M12 : sk_M} {Q : Int32 → sk_M → Prop}  (hc0 : cells ≤ 0) (hs0 : slots ≤ 0) : ∀ (F : Nat) (s28 : Int32 × Int32 × Int32), lp (w_X8_richest_L28 a1 a2 M12 Q) F s28 → TJ G mX8_richest (sk_R 3 0 0) (sk_K G 0 0 (rI Q) noX) cells slots 28 [some (.ref (G.2.2.1 140)), some (.int a1), some (.int a2), some (.int s28.1), some (.int s28.2.1), some (.int s28.2.2), none] [] M12 := by
  refine lp_sound (fun c hc9 s28 h => ?_)
  unfold w_X8_richest_L28 at h
  refine T.ild_5 (q := 30) dX8_richest_28 rfl ?_
  refine T.ald_0 (q := 31) dX8_richest_30 rfl ?_
  refine k_X8_81 rfl dX8_richest_31 (q := 34) rfl (by decide) hc0 hs0 (Nat.le_of_ble_eq_true rfl) (t_X8_vaults (P := fun r9 => r9 = (f_X8_vaults M12)) rfl) ?_
  rintro _ _ ⟨rfl, h9⟩
  obtain rfl := h9.symm
  refine T.ic_ge (tgt := 103) (q := 37) dX8_richest_34 (by decide) rfl (fun h34 => ?_) (fun h34 => ?_)
  · replace h := s_f (fun q => q h34) h
    refine T.ild_3 (q := 104) dX8_richest_103 rfl ?_
    exact T.retI rfl dX8_richest_104 hc0 hs0 h
  · replace h := s_t h34 h
    refine T.ild_2 (q := 38) dX8_richest_37 rfl ?_
    refine s_join (fun s59_38 : Int32 => TJ G mX8_richest (sk_R 3 0 0) (sk_K G 0 0 (rI Q) noX) cells slots 59 [some (.ref (G.2.2.1 140)), some (.int a1), some (.int a2), some (.int s28.1), some (.int s28.2.1), some (.int s28.2.2), none] [.int s59_38] M12) h (fun s59_38 h => ?_) (fun j59_38 hj59_38 h => ?_)
    · refine T.ist_6 (q := 61) dX8_richest_59 rfl (by decide) sk_ok_i ?_
      refine T.ald_0 (q := 62) dX8_richest_61 rfl ?_
      refine T.ild_5 (q := 64) dX8_richest_62 rfl ?_
      refine T.ald_0 (q := 65) dX8_richest_64 rfl ?_
      refine g_X8_13 rfl dX8_richest_65 (q := 68) rfl ?_
      refine T.iconst (q := 69) (5) dX8_richest_68 rfl (by decide) ?_
      refine T.ialdk (n := 2260) rfl rfl (by decide) dX8_richest_69 (q := 70) rfl (k9 := 5) (by decide) ?_
      refine k_X8_323 rfl dX8_richest_70 (q := 73) rfl (by decide) hc0 hs0 (Nat.le_of_ble_eq_true rfl) (t_X8_isGuarded  h) ?_
      rintro r70 _ ⟨h, h9⟩
      obtain rfl := h9.symm
      refine T.if_ne (tgt := 97) (q := 76) dX8_richest_73 (by decide) rfl (fun h73 => ?_) (fun h73 => ?_)
      · replace h := s_f h73 h
        refine T.inc_5 (q := 100) (1) dX8_richest_97 rfl (by decide) (by decide) sk_ok_i ?_
        refine T.goto (tgt := 28) dX8_richest_100 (by decide) ?_
        refine T.drop_6 ?_
        exact hc9 (s28.1, s28.2.1, (s28.2.2 + (1 : Int32))) h
      · replace h := s_t h73 h
        refine T.ild_3 (q := 77) dX8_richest_76 rfl ?_
        refine T.if_lt (tgt := 90) (q := 80) dX8_richest_77 (by decide) rfl (fun h77 => ?_) (fun h77 => ?_)
        · replace h := s_f (fun q => q.1 h77) h
          refine T.ild_5 (q := 92) dX8_richest_90 rfl ?_
          refine T.ist_3 (q := 93) dX8_richest_92 rfl (by decide) sk_ok_i ?_
          refine T.ild_6 (q := 95) dX8_richest_93 rfl ?_
          refine T.ist_4 (q := 97) dX8_richest_95 rfl (by decide) sk_ok_i ?_
          refine T.inc_5 (q := 100) (1) dX8_richest_97 rfl (by decide) (by decide) sk_ok_i ?_
          refine T.goto (tgt := 28) dX8_richest_100 (by decide) ?_
          refine T.drop_6 ?_
          exact hc9 (s28.2.2, s59_38, (s28.2.2 + (1 : Int32))) h
        · refine T.ild_6 (q := 82) dX8_richest_80 rfl ?_
          refine T.ild_4 (q := 84) dX8_richest_82 rfl ?_
          refine T.ic_gt (tgt := 90) (q := 87) dX8_richest_84 (by decide) rfl (fun h84 => ?_) (fun h84 => ?_)
          · replace h := s_f (fun q => (fun q => q h84) q.2) h
            refine T.ild_5 (q := 92) dX8_richest_90 rfl ?_
            refine T.ist_3 (q := 93) dX8_richest_92 rfl (by decide) sk_ok_i ?_
            refine T.ild_6 (q := 95) dX8_richest_93 rfl ?_
            refine T.ist_4 (q := 97) dX8_richest_95 rfl (by decide) sk_ok_i ?_
            refine T.inc_5 (q := 100) (1) dX8_richest_97 rfl (by decide) (by decide) sk_ok_i ?_
            refine T.goto (tgt := 28) dX8_richest_100 (by decide) ?_
            refine T.drop_6 ?_
            exact hc9 (s28.2.2, s59_38, (s28.2.2 + (1 : Int32))) h
          · replace h := s_t ⟨h77, h84⟩ h
            refine T.goto (tgt := 97) dX8_richest_87 (by decide) ?_
            refine T.inc_5 (q := 100) (1) dX8_richest_97 rfl (by decide) (by decide) sk_ok_i ?_
            refine T.goto (tgt := 28) dX8_richest_100 (by decide) ?_
            refine T.drop_6 ?_
            exact hc9 (s28.1, s28.2.1, (s28.2.2 + (1 : Int32))) h
    · refine T.if_eq (tgt := 52) (q := 41) dX8_richest_38 (by decide) rfl (fun h38 => ?_) (fun h38 => ?_)
      · replace h := s_f (fun q => q h38) h
        refine T.ald_0 (q := 53) dX8_richest_52 rfl ?_
        refine T.ild_1 (q := 54) dX8_richest_53 rfl ?_
        refine T.ild_5 (q := 56) dX8_richest_54 rfl ?_
        refine k_X8_428 rfl dX8_richest_56 (q := 59) rfl (by decide) hc0 hs0 (Nat.le_of_ble_eq_true rfl) (t_X8_worthOf  h) ?_
        rintro r56 _ ⟨h, h9⟩
        obtain rfl := h9.symm
        exact hj59_38 r56 h
      · replace h := s_t h38 h
        refine T.ald_0 (q := 42) dX8_richest_41 rfl ?_
        refine T.ild_1 (q := 43) dX8_richest_42 rfl ?_
        refine T.ild_5 (q := 45) dX8_richest_43 rfl ?_
        refine k_X8_345 rfl dX8_richest_45 (q := 48) rfl (by decide) hc0 hs0 (Nat.le_of_ble_eq_true rfl) (t_X8_leftOf  h) ?_
        rintro r45 _ ⟨h, h9⟩
        obtain rfl := h9.symm
        refine T.ineg (q := 49) dX8_richest_48 rfl ?_
        refine T.goto (tgt := 59) dX8_richest_49 (by decide) ?_
        exact hj59_38 (-r45) h
theorem t_X8_richest {G : sk_G} {M : sk_M} {a1 : Int32} {a2 : Int32}  {Q : Int32 → sk_M → Prop} (h : w_X8_richest a1 a2 M Q) : Ctr G mX8_richest 3 0 0 [.ref (G.2.2.1 140), .int a1, .int a2] M (rI Q) noX := by
  unfold w_X8_richest at h
  refine Ctr.of 4 (by decide) (Nat.le_of_ble_eq_true rfl) ?_
  show TJ G mX8_richest (sk_R 3 0 0) (sk_K G 0 0 (rI Q) noX) 0 0 0 [some (.ref (G.2.2.1 140)), some (.int a1), some (.int a2), none, none, none, none] [] M
  refine T.ald_0 (q := 1) dX8_richest_0 rfl ?_
  refine T.iconst (q := 2) (0) dX8_richest_1 rfl (by decide) ?_
  refine p_X8_3 rfl dX8_richest_2 (q := 5) rfl ?_
  refine S.mem h ?_
  intro M2 h
  refine T.ald_0 (q := 6) dX8_richest_5 rfl ?_
  refine T.ald_0 (q := 7) dX8_richest_6 rfl ?_
  refine T.ild_1 (q := 8) dX8_richest_7 rfl ?_
  refine k_X8_342 rfl dX8_richest_8 (q := 11) rfl (by decide) (by decide) (by decide) (Nat.le_of_ble_eq_true rfl) (t_X8_noPerson (P := fun r9 => r9 = (f_X8_noPerson a1 M2)) rfl) ?_
  rintro _ _ ⟨rfl, h9⟩
  obtain rfl := h9.symm
  refine T.iconst (q := 12) (1) dX8_richest_11 rfl (by decide) ?_
  refine k_X8_281 rfl dX8_richest_12 (q := 15) rfl (by decide) (by decide) (by decide) (Nat.le_of_ble_eq_true rfl) (t_X8_throwsIf  h) ?_
  intro r12 M12 h
  refine T.if_eq (tgt := 20) (q := 18) dX8_richest_15 (by decide) rfl (fun h15 => ?_) (fun h15 => ?_)
  · replace h := s_f (fun q => q h15) h
    refine T.iconst (q := 21) (-1) dX8_richest_20 rfl (by decide) ?_
    refine T.ist_3 (q := 22) dX8_richest_21 rfl (by decide) sk_ok_i ?_
    refine T.iconst (q := 23) (0) dX8_richest_22 rfl (by decide) ?_
    refine T.ist_4 (q := 25) dX8_richest_23 rfl (by decide) sk_ok_i ?_
    refine T.iconst (q := 26) (0) dX8_richest_25 rfl (by decide) ?_
    refine T.ist_5 (q := 28) dX8_richest_26 rfl (by decide) sk_ok_i ?_
    exact tl_X8_richest_L28  (by decide) (by decide) _ ((-1 : Int32), (0 : Int32), (0 : Int32)) h
  · replace h := s_t h15 h
    refine T.iconst (q := 19) (0) dX8_richest_18 rfl (by decide) ?_
    exact T.retI rfl dX8_richest_19 (by decide) (by decide) h
theorem tl_X8_first_L24 {G : sk_G} {cells slots : Nat} {a1 : Int32} {M12 : sk_M} {Q : Int32 → sk_M → Prop}  (hc0 : cells ≤ 0) (hs0 : slots ≤ 0) : ∀ (F : Nat) (s24 : Int32 × Int32), lp (w_X8_first_L24 a1 M12 Q) F s24 → TJ G mX8_first (sk_R 2 0 0) (sk_K G 0 0 (rI Q) noX) cells slots 24 [some (.ref (G.2.2.1 140)), some (.int a1), some (.int s24.1), some (.int s24.2)] [] M12 := by
  refine lp_sound (fun c hc9 s24 h => ?_)
  unfold w_X8_first_L24 at h
  refine T.ild_3 (q := 25) dX8_first_24 rfl ?_
  refine T.ald_0 (q := 26) dX8_first_25 rfl ?_
  refine g_X8_13 rfl dX8_first_26 (q := 29) rfl ?_
  refine T.bipush (q := 31) (8) dX8_first_29 rfl (by decide) ?_
  refine T.ialdk (n := 2260) rfl rfl (by decide) dX8_first_31 (q := 32) rfl (k9 := 8) (by decide) ?_
  refine T.ic_ge (tgt := 72) (q := 35) dX8_first_32 (by decide) rfl (fun h32 => ?_) (fun h32 => ?_)
  · replace h := s_f (fun q => q h32) h
    refine T.ild_2 (q := 73) dX8_first_72 rfl ?_
    exact T.retI rfl dX8_first_73 hc0 hs0 h
  · replace h := s_t h32 h
    refine T.ald_0 (q := 36) dX8_first_35 rfl ?_
    refine T.ild_3 (q := 37) dX8_first_36 rfl ?_
    refine T.iconst (q := 38) (2) dX8_first_37 rfl (by decide) ?_
    refine k_X8_418 rfl dX8_first_38 (q := 41) rfl (by decide) hc0 hs0 (Nat.le_of_ble_eq_true rfl) (t_X8_ofLog  h) ?_
    rintro r38 _ ⟨h, h9⟩
    obtain rfl := h9.symm
    refine T.ild_1 (q := 42) dX8_first_41 rfl ?_
    refine T.ic_ne (tgt := 64) (q := 45) dX8_first_42 (by decide) rfl (fun h42 => ?_) (fun h42 => ?_)
    · replace h := s_f h42 h
      refine T.ild_2 (q := 65) dX8_first_64 rfl ?_
      refine T.ist_2 (q := 66) dX8_first_65 rfl (by decide) sk_ok_i ?_
      refine T.inc_3 (q := 69) (1) dX8_first_66 rfl (by decide) (by decide) sk_ok_i ?_
      refine T.goto (tgt := 24) dX8_first_69 (by decide) ?_
      exact hc9 (s24.1, (s24.2 + (1 : Int32))) h
    · replace h := s_t h42 h
      refine T.ald_0 (q := 46) dX8_first_45 rfl ?_
      refine T.ild_3 (q := 47) dX8_first_46 rfl ?_
      refine T.iconst (q := 48) (5) dX8_first_47 rfl (by decide) ?_
      refine k_X8_418 rfl dX8_first_48 (q := 51) rfl (by decide) hc0 hs0 (Nat.le_of_ble_eq_true rfl) (t_X8_ofLog  h) ?_
      rintro r48 _ ⟨h, h9⟩
      obtain rfl := h9.symm
      refine T.iconst (q := 52) (1) dX8_first_51 rfl (by decide) ?_
      refine T.ic_ne (tgt := 64) (q := 55) dX8_first_52 (by decide) rfl (fun h52 => ?_) (fun h52 => ?_)
      · replace h := s_f h52 h
        refine T.ild_2 (q := 65) dX8_first_64 rfl ?_
        refine T.ist_2 (q := 66) dX8_first_65 rfl (by decide) sk_ok_i ?_
        refine T.inc_3 (q := 69) (1) dX8_first_66 rfl (by decide) (by decide) sk_ok_i ?_
        refine T.goto (tgt := 24) dX8_first_69 (by decide) ?_
        exact hc9 (s24.1, (s24.2 + (1 : Int32))) h
      · replace h := s_t h52 h
        refine T.ald_0 (q := 56) dX8_first_55 rfl ?_
        refine T.ild_3 (q := 57) dX8_first_56 rfl ?_
        refine T.iconst (q := 58) (1) dX8_first_57 rfl (by decide) ?_
        refine k_X8_418 rfl dX8_first_58 (q := 61) rfl (by decide) hc0 hs0 (Nat.le_of_ble_eq_true rfl) (t_X8_ofLog  h) ?_
        rintro r58 _ ⟨h, h9⟩
        obtain rfl := h9.symm
        refine T.goto (tgt := 65) dX8_first_61 (by decide) ?_
        refine T.ist_2 (q := 66) dX8_first_65 rfl (by decide) sk_ok_i ?_
        refine T.inc_3 (q := 69) (1) dX8_first_66 rfl (by decide) (by decide) sk_ok_i ?_
        refine T.goto (tgt := 24) dX8_first_69 (by decide) ?_
        exact hc9 (r58, (s24.2 + (1 : Int32))) h
theorem t_X8_first {G : sk_G} {M : sk_M} {a1 : Int32}  {Q : Int32 → sk_M → Prop} (h : w_X8_first a1 M Q) : Ctr G mX8_first 2 0 0 [.ref (G.2.2.1 140), .int a1] M (rI Q) noX := by
  unfold w_X8_first at h
  refine Ctr.of 2 (by decide) (Nat.le_of_ble_eq_true rfl) ?_
  show TJ G mX8_first (sk_R 2 0 0) (sk_K G 0 0 (rI Q) noX) 0 0 0 [some (.ref (G.2.2.1 140)), some (.int a1), none, none] [] M
  refine T.ald_0 (q := 1) dX8_first_0 rfl ?_
  refine T.iconst (q := 2) (0) dX8_first_1 rfl (by decide) ?_
  refine p_X8_3 rfl dX8_first_2 (q := 5) rfl ?_
  refine S.mem h ?_
  intro M2 h
  refine T.ald_0 (q := 6) dX8_first_5 rfl ?_
  refine T.ald_0 (q := 7) dX8_first_6 rfl ?_
  refine T.ild_1 (q := 8) dX8_first_7 rfl ?_
  refine k_X8_329 rfl dX8_first_8 (q := 11) rfl (by decide) (by decide) (by decide) (Nat.le_of_ble_eq_true rfl) (t_X8_noVault (P := fun r9 => r9 = (f_X8_noVault a1 M2)) rfl) ?_
  rintro _ _ ⟨rfl, h9⟩
  obtain rfl := h9.symm
  refine T.iconst (q := 12) (1) dX8_first_11 rfl (by decide) ?_
  refine k_X8_281 rfl dX8_first_12 (q := 15) rfl (by decide) (by decide) (by decide) (Nat.le_of_ble_eq_true rfl) (t_X8_throwsIf  h) ?_
  intro r12 M12 h
  refine T.if_eq (tgt := 20) (q := 18) dX8_first_15 (by decide) rfl (fun h15 => ?_) (fun h15 => ?_)
  · replace h := s_f (fun q => q h15) h
    refine T.iconst (q := 21) (-1) dX8_first_20 rfl (by decide) ?_
    refine T.ist_2 (q := 22) dX8_first_21 rfl (by decide) sk_ok_i ?_
    refine T.iconst (q := 23) (0) dX8_first_22 rfl (by decide) ?_
    refine T.ist_3 (q := 24) dX8_first_23 rfl (by decide) sk_ok_i ?_
    exact tl_X8_first_L24  (by decide) (by decide) _ ((-1 : Int32), (0 : Int32)) h
  · replace h := s_t h15 h
    refine T.iconst (q := 19) (0) dX8_first_18 rfl (by decide) ?_
    exact T.retI rfl dX8_first_19 (by decide) (by decide) h
theorem tl_X8_turned_L46 {G : sk_G} {cells slots : Nat} {a1 : Int32} {a2 : Int32} {M33 : sk_M} {Q : Int32 → sk_M → Prop}  (hc0 : cells ≤ 0) (hs0 : slots ≤ 0) : ∀ (F : Nat) (s46 : Int32 × Int32), lp (w_X8_turned_L46 a1 a2 M33 Q) F s46 → TJ G mX8_turned (sk_R 2 0 0) (sk_K G 0 0 (rI Q) noX) cells slots 46 [some (.ref (G.2.2.1 140)), some (.int a1), some (.int a2), some (.int s46.1), some (.int s46.2)] [] M33 := by
  refine lp_sound (fun c hc9 s46 h => ?_)
  unfold w_X8_turned_L46 at h
  refine T.ild_4 (q := 48) dX8_turned_46 rfl ?_
  refine T.ald_0 (q := 49) dX8_turned_48 rfl ?_
  refine g_X8_13 rfl dX8_turned_49 (q := 52) rfl ?_
  refine T.bipush (q := 54) (8) dX8_turned_52 rfl (by decide) ?_
  refine T.ialdk (n := 2260) rfl rfl (by decide) dX8_turned_54 (q := 55) rfl (k9 := 8) (by decide) ?_
  refine T.ic_ge (tgt := 99) (q := 58) dX8_turned_55 (by decide) rfl (fun h55 => ?_) (fun h55 => ?_)
  · replace h := s_f (fun q => q h55) h
    refine T.ild_3 (q := 100) dX8_turned_99 rfl ?_
    exact T.retI rfl dX8_turned_100 hc0 hs0 h
  · replace h := s_t h55 h
    refine T.ild_3 (q := 59) dX8_turned_58 rfl ?_
    refine T.ald_0 (q := 60) dX8_turned_59 rfl ?_
    refine T.ild_4 (q := 62) dX8_turned_60 rfl ?_
    refine T.iconst (q := 63) (2) dX8_turned_62 rfl (by decide) ?_
    refine k_X8_418 rfl dX8_turned_63 (q := 66) rfl (by decide) hc0 hs0 (Nat.le_of_ble_eq_true rfl) (t_X8_ofLog  h) ?_
    rintro r63 _ ⟨h, h9⟩
    obtain rfl := h9.symm
    refine T.ild_1 (q := 67) dX8_turned_66 rfl ?_
    refine T.ic_ne (tgt := 90) (q := 70) dX8_turned_67 (by decide) rfl (fun h67 => ?_) (fun h67 => ?_)
    · replace h := s_f h67 h
      refine T.iconst (q := 91) (0) dX8_turned_90 rfl (by decide) ?_
      refine T.iadd (q := 92) dX8_turned_91 rfl ?_
      refine T.ist_3 (q := 93) dX8_turned_92 rfl (by decide) sk_ok_i ?_
      refine S.i3 h ?_
      intro y92 h
      refine T.inc_4 (q := 96) (1) dX8_turned_93 rfl (by decide) (by decide) sk_ok_i ?_
      refine T.goto (tgt := 46) dX8_turned_96 (by decide) ?_
      exact hc9 (y92, (s46.2 + (1 : Int32))) h
    · replace h := s_t h67 h
      refine T.ild_2 (q := 71) dX8_turned_70 rfl ?_
      refine T.iconst (q := 72) (-1) dX8_turned_71 rfl (by decide) ?_
      refine T.ic_eq (tgt := 86) (q := 75) dX8_turned_72 (by decide) rfl (fun h72 => ?_) (fun h72 => ?_)
      · replace h := s_f (fun q => q h72) h
        refine T.iconst (q := 87) (1) dX8_turned_86 rfl (by decide) ?_
        refine T.goto (tgt := 91) dX8_turned_87 (by decide) ?_
        refine T.iadd (q := 92) dX8_turned_91 rfl ?_
        refine T.ist_3 (q := 93) dX8_turned_92 rfl (by decide) sk_ok_i ?_
        refine S.i3 h ?_
        intro y92 h
        refine T.inc_4 (q := 96) (1) dX8_turned_93 rfl (by decide) (by decide) sk_ok_i ?_
        refine T.goto (tgt := 46) dX8_turned_96 (by decide) ?_
        exact hc9 (y92, (s46.2 + (1 : Int32))) h
      · replace h := s_t h72 h
        refine T.ald_0 (q := 76) dX8_turned_75 rfl ?_
        refine T.ild_4 (q := 78) dX8_turned_76 rfl ?_
        refine T.iconst (q := 79) (1) dX8_turned_78 rfl (by decide) ?_
        refine k_X8_418 rfl dX8_turned_79 (q := 82) rfl (by decide) hc0 hs0 (Nat.le_of_ble_eq_true rfl) (t_X8_ofLog  h) ?_
        rintro r79 _ ⟨h, h9⟩
        obtain rfl := h9.symm
        refine T.ild_2 (q := 83) dX8_turned_82 rfl ?_
        refine T.ic_ne (tgt := 90) (q := 86) dX8_turned_83 (by decide) rfl (fun h83 => ?_) (fun h83 => ?_)
        · replace h := s_f h83 h
          refine T.iconst (q := 91) (0) dX8_turned_90 rfl (by decide) ?_
          refine T.iadd (q := 92) dX8_turned_91 rfl ?_
          refine T.ist_3 (q := 93) dX8_turned_92 rfl (by decide) sk_ok_i ?_
          refine S.i3 h ?_
          intro y92 h
          refine T.inc_4 (q := 96) (1) dX8_turned_93 rfl (by decide) (by decide) sk_ok_i ?_
          refine T.goto (tgt := 46) dX8_turned_96 (by decide) ?_
          exact hc9 (y92, (s46.2 + (1 : Int32))) h
        · replace h := s_t h83 h
          refine T.iconst (q := 87) (1) dX8_turned_86 rfl (by decide) ?_
          refine T.goto (tgt := 91) dX8_turned_87 (by decide) ?_
          refine T.iadd (q := 92) dX8_turned_91 rfl ?_
          refine T.ist_3 (q := 93) dX8_turned_92 rfl (by decide) sk_ok_i ?_
          refine S.i3 h ?_
          intro y92 h
          refine T.inc_4 (q := 96) (1) dX8_turned_93 rfl (by decide) (by decide) sk_ok_i ?_
          refine T.goto (tgt := 46) dX8_turned_96 (by decide) ?_
          exact hc9 (y92, (s46.2 + (1 : Int32))) h
theorem t_X8_turned {G : sk_G} {M : sk_M} {a1 : Int32} {a2 : Int32}  {Q : Int32 → sk_M → Prop} (h : w_X8_turned a1 a2 M Q) : Ctr G mX8_turned 2 0 0 [.ref (G.2.2.1 140), .int a1, .int a2] M (rI Q) noX := by
  unfold w_X8_turned at h
  refine Ctr.of 2 (by decide) (Nat.le_of_ble_eq_true rfl) ?_
  show TJ G mX8_turned (sk_R 2 0 0) (sk_K G 0 0 (rI Q) noX) 0 0 0 [some (.ref (G.2.2.1 140)), some (.int a1), some (.int a2), none, none] [] M
  refine T.ald_0 (q := 1) dX8_turned_0 rfl ?_
  refine T.iconst (q := 2) (0) dX8_turned_1 rfl (by decide) ?_
  refine p_X8_3 rfl dX8_turned_2 (q := 5) rfl ?_
  refine S.mem h ?_
  intro M2 h
  refine T.ald_0 (q := 6) dX8_turned_5 rfl ?_
  refine T.ald_0 (q := 7) dX8_turned_6 rfl ?_
  refine T.ild_1 (q := 8) dX8_turned_7 rfl ?_
  refine k_X8_329 rfl dX8_turned_8 (q := 11) rfl (by decide) (by decide) (by decide) (Nat.le_of_ble_eq_true rfl) (t_X8_noVault (P := fun r9 => r9 = (f_X8_noVault a1 M2)) rfl) ?_
  rintro _ _ ⟨rfl, h9⟩
  obtain rfl := h9.symm
  refine s_dia (fun s32_11 : Int32 => TJ G mX8_turned (sk_R 2 0 0) (sk_K G 0 0 (rI Q) noX) 0 0 32 [some (.ref (G.2.2.1 140)), some (.int a1), some (.int a2), none, none] [.int s32_11, .ref (G.2.2.1 140)] M2) h (fun s32_11 h => ?_) (fun k9 hJ9 h => ?_)
  · refine T.iconst (q := 33) (1) dX8_turned_32 rfl (by decide) ?_
    refine k_X8_281 rfl dX8_turned_33 (q := 36) rfl (by decide) (by decide) (by decide) (Nat.le_of_ble_eq_true rfl) (t_X8_throwsIf  h) ?_
    intro r33 M33 h
    refine T.if_eq (tgt := 41) (q := 39) dX8_turned_36 (by decide) rfl (fun h36 => ?_) (fun h36 => ?_)
    · replace h := s_f (fun q => q h36) h
      refine T.iconst (q := 42) (0) dX8_turned_41 rfl (by decide) ?_
      refine T.ist_3 (q := 43) dX8_turned_42 rfl (by decide) sk_ok_i ?_
      refine T.iconst (q := 44) (0) dX8_turned_43 rfl (by decide) ?_
      refine T.ist_4 (q := 46) dX8_turned_44 rfl (by decide) sk_ok_i ?_
      exact tl_X8_turned_L46  (by decide) (by decide) _ ((0 : Int32), (0 : Int32)) h
    · replace h := s_t h36 h
      refine T.iconst (q := 40) (0) dX8_turned_39 rfl (by decide) ?_
      exact T.retI rfl dX8_turned_40 (by decide) (by decide) h
  · refine T.if_ne (tgt := 27) (q := 14) dX8_turned_11 (by decide) rfl (fun h11 => ?_) (fun h11 => ?_)
    · replace h := s_tk (Or.inl h11) h
      refine T.iconst (q := 28) (1) dX8_turned_27 rfl (by decide) ?_
      refine T.goto (tgt := 32) dX8_turned_28 (by decide) ?_
      exact hJ9 _ h
    · refine T.ild_2 (q := 15) dX8_turned_14 rfl ?_
      refine T.iconst (q := 16) (-1) dX8_turned_15 rfl (by decide) ?_
      refine T.ic_eq (tgt := 31) (q := 19) dX8_turned_16 (by decide) rfl (fun h16 => ?_) (fun h16 => ?_)
      · replace h := s_fk (fun q => q.elim (fun q => q h11) (fun q => q.1 h16)) h
        refine T.iconst (q := 32) (0) dX8_turned_31 rfl (by decide) ?_
        exact hJ9 _ h
      · refine T.ald_0 (q := 20) dX8_turned_19 rfl ?_
        refine T.ild_2 (q := 21) dX8_turned_20 rfl ?_
        refine k_X8_342 rfl dX8_turned_21 (q := 24) rfl (by decide) (by decide) (by decide) (Nat.le_of_ble_eq_true rfl) (t_X8_noPerson (P := fun r9 => r9 = (f_X8_noPerson a2 M2)) rfl) ?_
        rintro _ _ ⟨rfl, h9⟩
        obtain rfl := h9.symm
        refine T.if_eq (tgt := 31) (q := 27) dX8_turned_24 (by decide) rfl (fun h24 => ?_) (fun h24 => ?_)
        · replace h := s_fk (fun q => q.elim (fun q => q h11) (fun q => (fun q => q h24) q.2)) h
          refine T.iconst (q := 32) (0) dX8_turned_31 rfl (by decide) ?_
          exact hJ9 _ h
        · replace h := s_tk (Or.inr ⟨h16, h24⟩) h
          refine T.iconst (q := 28) (1) dX8_turned_27 rfl (by decide) ?_
          refine T.goto (tgt := 32) dX8_turned_28 (by decide) ?_
          exact hJ9 _ h
theorem tl_X8_price_L24 {G : sk_G} {cells slots : Nat} {a1 : Int32} {M12 : sk_M} {Q : Int32 → sk_M → Prop}  (hc0 : cells ≤ 0) (hs0 : slots ≤ 0) : ∀ (F : Nat) (s24 : Int32 × Int32), lp (w_X8_price_L24 a1 M12 Q) F s24 → TJ G mX8_price (sk_R 3 0 0) (sk_K G 0 0 (rI Q) noX) cells slots 24 [some (.ref (G.2.2.1 140)), some (.int a1), some (.int s24.1), some (.int s24.2)] [] M12 := by
  refine lp_sound (fun c hc9 s24 h => ?_)
  unfold w_X8_price_L24 at h
  refine T.ild_3 (q := 25) dX8_price_24 rfl ?_
  refine T.ald_0 (q := 26) dX8_price_25 rfl ?_
  refine k_X8_81 rfl dX8_price_26 (q := 29) rfl (by decide) hc0 hs0 (Nat.le_of_ble_eq_true rfl) (t_X8_vaults (P := fun r9 => r9 = (f_X8_vaults M12)) rfl) ?_
  rintro _ _ ⟨rfl, h9⟩
  obtain rfl := h9.symm
  refine T.ic_ge (tgt := 47) (q := 32) dX8_price_29 (by decide) rfl (fun h29 => ?_) (fun h29 => ?_)
  · replace h := s_f (fun q => q h29) h
    refine T.ild_2 (q := 48) dX8_price_47 rfl ?_
    exact T.retI rfl dX8_price_48 hc0 hs0 h
  · replace h := s_t h29 h
    refine T.ild_2 (q := 33) dX8_price_32 rfl ?_
    refine T.ald_0 (q := 34) dX8_price_33 rfl ?_
    refine T.ild_1 (q := 35) dX8_price_34 rfl ?_
    refine T.ild_3 (q := 36) dX8_price_35 rfl ?_
    refine k_X8_428 rfl dX8_price_36 (q := 39) rfl (by decide) hc0 hs0 (Nat.le_of_ble_eq_true rfl) (t_X8_worthOf  h) ?_
    rintro r36 _ ⟨h, h9⟩
    obtain rfl := h9.symm
    refine T.iadd (q := 40) dX8_price_39 rfl ?_
    refine T.ist_2 (q := 41) dX8_price_40 rfl (by decide) sk_ok_i ?_
    refine S.i2 h ?_
    intro y40 h
    refine T.inc_3 (q := 44) (1) dX8_price_41 rfl (by decide) (by decide) sk_ok_i ?_
    refine T.goto (tgt := 24) dX8_price_44 (by decide) ?_
    exact hc9 (y40, (s24.2 + (1 : Int32))) h
theorem t_X8_price {G : sk_G} {M : sk_M} {a1 : Int32}  {Q : Int32 → sk_M → Prop} (h : w_X8_price a1 M Q) : Ctr G mX8_price 3 0 0 [.ref (G.2.2.1 140), .int a1] M (rI Q) noX := by
  unfold w_X8_price at h
  refine Ctr.of 2 (by decide) (Nat.le_of_ble_eq_true rfl) ?_
  show TJ G mX8_price (sk_R 3 0 0) (sk_K G 0 0 (rI Q) noX) 0 0 0 [some (.ref (G.2.2.1 140)), some (.int a1), none, none] [] M
  refine T.ald_0 (q := 1) dX8_price_0 rfl ?_
  refine T.iconst (q := 2) (0) dX8_price_1 rfl (by decide) ?_
  refine p_X8_3 rfl dX8_price_2 (q := 5) rfl ?_
  refine S.mem h ?_
  intro M2 h
  refine T.ald_0 (q := 6) dX8_price_5 rfl ?_
  refine T.ald_0 (q := 7) dX8_price_6 rfl ?_
  refine T.ild_1 (q := 8) dX8_price_7 rfl ?_
  refine k_X8_342 rfl dX8_price_8 (q := 11) rfl (by decide) (by decide) (by decide) (Nat.le_of_ble_eq_true rfl) (t_X8_noPerson (P := fun r9 => r9 = (f_X8_noPerson a1 M2)) rfl) ?_
  rintro _ _ ⟨rfl, h9⟩
  obtain rfl := h9.symm
  refine T.iconst (q := 12) (1) dX8_price_11 rfl (by decide) ?_
  refine k_X8_281 rfl dX8_price_12 (q := 15) rfl (by decide) (by decide) (by decide) (Nat.le_of_ble_eq_true rfl) (t_X8_throwsIf  h) ?_
  intro r12 M12 h
  refine T.if_eq (tgt := 20) (q := 18) dX8_price_15 (by decide) rfl (fun h15 => ?_) (fun h15 => ?_)
  · replace h := s_f (fun q => q h15) h
    refine T.iconst (q := 21) (0) dX8_price_20 rfl (by decide) ?_
    refine T.ist_2 (q := 22) dX8_price_21 rfl (by decide) sk_ok_i ?_
    refine T.iconst (q := 23) (0) dX8_price_22 rfl (by decide) ?_
    refine T.ist_3 (q := 24) dX8_price_23 rfl (by decide) sk_ok_i ?_
    exact tl_X8_price_L24  (by decide) (by decide) _ ((0 : Int32), (0 : Int32)) h
  · replace h := s_t h15 h
    refine T.iconst (q := 19) (0) dX8_price_18 rfl (by decide) ?_
    exact T.retI rfl dX8_price_19 (by decide) (by decide) h
theorem tl_X8_risky_L34 {G : sk_G} {cells slots : Nat} {M2 : sk_M} {s13 : Int32 × Int32 × Int32} {Q : Int32 → sk_M → Prop} {k61 : Int32 → Prop}  (hc0 : cells ≤ 0) (hs0 : slots ≤ 0) (hk61 : ∀ s61 : Int32, k61 s61 → TJ G mX8_risky (sk_R 2 0 0) (sk_K G 0 0 (rI Q) noX) cells slots 61 [some (.ref (G.2.2.1 140)), some (.int s13.1), some (.int s13.2.1), some (.int s13.2.2), some (.int s61), none] [] M2) : ∀ (F : Nat) (s34 : Int32 × Int32), lp (w_X8_risky_L34 M2 s13 k61) F s34 → TJ G mX8_risky (sk_R 2 0 0) (sk_K G 0 0 (rI Q) noX) cells slots 34 [some (.ref (G.2.2.1 140)), some (.int s13.1), some (.int s13.2.1), some (.int s13.2.2), some (.int s34.1), some (.int s34.2)] [] M2 := by
  refine lp_sound (fun c hc9 s34 h => ?_)
  unfold w_X8_risky_L34 at h
  refine T.ild_5 (q := 36) dX8_risky_34 rfl ?_
  refine T.ald_0 (q := 37) dX8_risky_36 rfl ?_
  refine k_X8_89 rfl dX8_risky_37 (q := 40) rfl (by decide) hc0 hs0 (Nat.le_of_ble_eq_true rfl) (t_X8_people (P := fun r9 => r9 = (f_X8_people M2)) rfl) ?_
  rintro _ _ ⟨rfl, h9⟩
  obtain rfl := h9.symm
  refine T.ic_ge (tgt := 61) (q := 43) dX8_risky_40 (by decide) rfl (fun h40 => ?_) (fun h40 => ?_)
  · replace h := s_f (fun q => q h40) h
    refine T.drop_5 ?_
    exact hk61 s34.1 h
  · replace h := s_t h40 h
    refine T.ild_4 (q := 45) dX8_risky_43 rfl ?_
    refine T.ald_0 (q := 46) dX8_risky_45 rfl ?_
    refine T.ild_5 (q := 48) dX8_risky_46 rfl ?_
    refine T.ild_3 (q := 49) dX8_risky_48 rfl ?_
    refine k_X8_345 rfl dX8_risky_49 (q := 52) rfl (by decide) hc0 hs0 (Nat.le_of_ble_eq_true rfl) (t_X8_leftOf  h) ?_
    rintro r49 _ ⟨h, h9⟩
    obtain rfl := h9.symm
    refine T.iadd (q := 53) dX8_risky_52 rfl ?_
    refine T.ist_4 (q := 55) dX8_risky_53 rfl (by decide) sk_ok_i ?_
    refine S.i4 h ?_
    intro y53 h
    refine T.inc_5 (q := 58) (1) dX8_risky_55 rfl (by decide) (by decide) sk_ok_i ?_
    refine T.goto (tgt := 34) dX8_risky_58 (by decide) ?_
    exact hc9 (y53, (s34.2 + (1 : Int32))) h
theorem tl_X8_risky_L13 {G : sk_G} {cells slots : Nat} {M2 : sk_M} {Q : Int32 → sk_M → Prop}  (hc0 : cells ≤ 0) (hs0 : slots ≤ 0) : ∀ (F : Nat) (s13 : Int32 × Int32 × Int32), lp (w_X8_risky_L13 M2 Q) F s13 → TJ G mX8_risky (sk_R 2 0 0) (sk_K G 0 0 (rI Q) noX) cells slots 13 [some (.ref (G.2.2.1 140)), some (.int s13.1), some (.int s13.2.1), some (.int s13.2.2), none, none] [] M2 := by
  refine lp_sound (fun c hc9 s13 h => ?_)
  unfold w_X8_risky_L13 at h
  refine T.ild_3 (q := 14) dX8_risky_13 rfl ?_
  refine T.ald_0 (q := 15) dX8_risky_14 rfl ?_
  refine k_X8_81 rfl dX8_risky_15 (q := 18) rfl (by decide) hc0 hs0 (Nat.le_of_ble_eq_true rfl) (t_X8_vaults (P := fun r9 => r9 = (f_X8_vaults M2)) rfl) ?_
  rintro _ _ ⟨rfl, h9⟩
  obtain rfl := h9.symm
  refine T.ic_ge (tgt := 81) (q := 21) dX8_risky_18 (by decide) rfl (fun h18 => ?_) (fun h18 => ?_)
  · replace h := s_f (fun q => q.1 h18) h
    refine T.ild_1 (q := 82) dX8_risky_81 rfl ?_
    exact T.retI rfl dX8_risky_82 hc0 hs0 h
  · refine T.ald_0 (q := 22) dX8_risky_21 rfl ?_
    refine k_X8_89 rfl dX8_risky_22 (q := 25) rfl (by decide) hc0 hs0 (Nat.le_of_ble_eq_true rfl) (t_X8_people (P := fun r9 => r9 = (f_X8_people M2)) rfl) ?_
    rintro _ _ ⟨rfl, h9⟩
    obtain rfl := h9.symm
    refine T.if_le (tgt := 81) (q := 28) dX8_risky_25 (by decide) rfl (fun h25 => ?_) (fun h25 => ?_)
    · replace h := s_f (fun q => (fun q => q h25) q.2) h
      refine T.ild_1 (q := 82) dX8_risky_81 rfl ?_
      exact T.retI rfl dX8_risky_82 hc0 hs0 h
    · replace h := s_t ⟨h18, h25⟩ h
      refine T.iconst (q := 29) (0) dX8_risky_28 rfl (by decide) ?_
      refine T.ist_4 (q := 31) dX8_risky_29 rfl (by decide) sk_ok_i ?_
      refine T.iconst (q := 32) (0) dX8_risky_31 rfl (by decide) ?_
      refine T.ist_5 (q := 34) dX8_risky_32 rfl (by decide) sk_ok_i ?_
      refine tl_X8_risky_L34  hc0 hs0 ?_ _ ((0 : Int32), (0 : Int32)) h
      intro s61 h
      refine T.ild_4 (q := 63) dX8_risky_61 rfl ?_
      refine T.ild_2 (q := 64) dX8_risky_63 rfl ?_
      refine T.ic_lt (tgt := 70) (q := 67) dX8_risky_64 (by decide) rfl (fun h64 => ?_) (fun h64 => ?_)
      · replace h := s_f (fun q => q h64) h
        refine T.ild_3 (q := 71) dX8_risky_70 rfl ?_
        refine T.ist_1 (q := 72) dX8_risky_71 rfl (by decide) sk_ok_r ?_
        refine T.ild_4 (q := 74) dX8_risky_72 rfl ?_
        refine T.ist_2 (q := 75) dX8_risky_74 rfl (by decide) sk_ok_i ?_
        refine T.inc_3 (q := 78) (1) dX8_risky_75 rfl (by decide) (by decide) sk_ok_i ?_
        refine T.goto (tgt := 13) dX8_risky_78 (by decide) ?_
        refine T.drop_4 ?_
        exact hc9 (s13.2.2, s61, (s13.2.2 + (1 : Int32))) h
      · replace h := s_t h64 h
        refine T.goto (tgt := 75) dX8_risky_67 (by decide) ?_
        refine T.inc_3 (q := 78) (1) dX8_risky_75 rfl (by decide) (by decide) sk_ok_i ?_
        refine T.goto (tgt := 13) dX8_risky_78 (by decide) ?_
        refine T.drop_4 ?_
        exact hc9 (s13.1, s13.2.1, (s13.2.2 + (1 : Int32))) h
theorem t_X8_risky {G : sk_G} {M : sk_M}   {Q : Int32 → sk_M → Prop} (h : w_X8_risky  M Q) : Ctr G mX8_risky 2 0 0 [.ref (G.2.2.1 140)] M (rI Q) noX := by
  unfold w_X8_risky at h
  refine Ctr.of 5 (by decide) (Nat.le_of_ble_eq_true rfl) ?_
  show TJ G mX8_risky (sk_R 2 0 0) (sk_K G 0 0 (rI Q) noX) 0 0 0 [some (.ref (G.2.2.1 140)), none, none, none, none, none] [] M
  refine T.ald_0 (q := 1) dX8_risky_0 rfl ?_
  refine T.iconst (q := 2) (0) dX8_risky_1 rfl (by decide) ?_
  refine p_X8_3 rfl dX8_risky_2 (q := 5) rfl ?_
  refine S.mem h ?_
  intro M2 h
  refine T.iconst (q := 6) (-1) dX8_risky_5 rfl (by decide) ?_
  refine T.ist_1 (q := 7) dX8_risky_6 rfl (by decide) sk_ok_r ?_
  refine T.ldcw (q := 10) (1000000) dX8_risky_7 rfl w_X8_c389 ?_
  refine T.ist_2 (q := 11) dX8_risky_10 rfl (by decide) sk_ok_i ?_
  refine T.iconst (q := 12) (0) dX8_risky_11 rfl (by decide) ?_
  refine T.ist_3 (q := 13) dX8_risky_12 rfl (by decide) sk_ok_i ?_
  exact tl_X8_risky_L13  (by decide) (by decide) _ ((-1 : Int32), (1000000 : Int32), (0 : Int32)) h
theorem tl_X8_keepsAll_L2 {G : sk_G} {cells slots : Nat}  {Q : sk_M → Prop} {k27 : sk_M → Prop}  (hc0 : cells ≤ 0) (hs0 : slots ≤ 0) (hk27 : ∀ s27 : sk_M, k27 s27 → TJ G mX8_keepsAll (sk_R 1 0 0) (sk_K G 0 0 (rV Q) noX) cells slots 27 [some (.ref (G.2.2.1 140)), none] [] s27) : ∀ (F : Nat) (s2 : Int32 × sk_M), lp (w_X8_keepsAll_L2  k27) F s2 → TJ G mX8_keepsAll (sk_R 1 0 0) (sk_K G 0 0 (rV Q) noX) cells slots 2 [some (.ref (G.2.2.1 140)), some (.int s2.1)] [] s2.2 := by
  refine lp_sound (fun c hc9 s2 h => ?_)
  unfold w_X8_keepsAll_L2 at h
  refine T.ild_1 (q := 3) dX8_keepsAll_2 rfl ?_
  refine T.sipush (q := 6) (562) dX8_keepsAll_3 rfl (by decide) ?_
  refine T.ic_ge (tgt := 27) (q := 9) dX8_keepsAll_6 (by decide) rfl (fun h6 => ?_) (fun h6 => ?_)
  · replace h := s_f (fun q => q h6) h
    refine T.drop_1 ?_
    exact hk27 s2.2 h
  · replace h := s_t h6 h
    refine T.ald_0 (q := 10) dX8_keepsAll_9 rfl ?_
    refine g_X8_23 rfl dX8_keepsAll_10 (q := 13) rfl ?_
    refine T.ild_1 (q := 14) dX8_keepsAll_13 rfl ?_
    refine T.ald_0 (q := 15) dX8_keepsAll_14 rfl ?_
    refine g_X8_13 rfl dX8_keepsAll_15 (q := 18) rfl ?_
    refine T.ild_1 (q := 19) dX8_keepsAll_18 rfl ?_
    refine T.iald (n := 2260) rfl rfl (by decide) dX8_keepsAll_19 (q := 20) rfl h.1 ?_
    replace h := h.2
    refine T.iast (n := 562) rfl rfl (by decide) dX8_keepsAll_20 (q := 21) rfl h.1 ?_
    refine S.mem h.2 ?_
    intro M20 h
    refine T.inc_1 (q := 24) (1) dX8_keepsAll_21 rfl (by decide) (by decide) sk_ok_r ?_
    refine T.goto (tgt := 2) dX8_keepsAll_24 (by decide) ?_
    exact hc9 ((s2.1 + (1 : Int32)), M20) h
theorem t_X8_keepsAll {G : sk_G} {M : sk_M}   {Q : sk_M → Prop} (h : w_X8_keepsAll  M Q) : Ctr G mX8_keepsAll 1 0 0 [.ref (G.2.2.1 140)] M (rV Q) noX := by
  unfold w_X8_keepsAll at h
  refine Ctr.of 1 (by decide) (Nat.le_of_ble_eq_true rfl) ?_
  show TJ G mX8_keepsAll (sk_R 1 0 0) (sk_K G 0 0 (rV Q) noX) 0 0 0 [some (.ref (G.2.2.1 140)), none] [] M
  refine T.iconst (q := 1) (0) dX8_keepsAll_0 rfl (by decide) ?_
  refine T.ist_1 (q := 2) dX8_keepsAll_1 rfl (by decide) sk_ok_r ?_
  refine tl_X8_keepsAll_L2  (by decide) (by decide) ?_ _ ((0 : Int32), M) h
  intro s27 h
  refine T.ald_0 (q := 28) dX8_keepsAll_27 rfl ?_
  refine g_X8_29 rfl dX8_keepsAll_28 (q := 31) rfl ?_
  refine T.ald_0 (q := 32) dX8_keepsAll_31 rfl ?_
  refine g_X8_39 rfl dX8_keepsAll_32 (q := 35) rfl ?_
  refine k_X8_70 rfl dX8_keepsAll_35 (q := 38) rfl (by decide) (by decide) (by decide) (Nat.le_of_ble_eq_true rfl) (t_X8_copies (⟨rfl, rfl, by decide⟩) (⟨rfl, rfl, by decide⟩) h) ?_
  intro M35 h
  exact T.retV rfl dX8_keepsAll_38 (by decide) (by decide) h
theorem tl_X8_bringsBack_L2 {G : sk_G} {cells slots : Nat}  {Q : sk_M → Prop} {k27 : sk_M → Prop}  (hc0 : cells ≤ 0) (hs0 : slots ≤ 0) (hk27 : ∀ s27 : sk_M, k27 s27 → TJ G mX8_bringsBack (sk_R 1 0 0) (sk_K G 0 0 (rV Q) noX) cells slots 27 [some (.ref (G.2.2.1 140)), none] [] s27) : ∀ (F : Nat) (s2 : Int32 × sk_M), lp (w_X8_bringsBack_L2  k27) F s2 → TJ G mX8_bringsBack (sk_R 1 0 0) (sk_K G 0 0 (rV Q) noX) cells slots 2 [some (.ref (G.2.2.1 140)), some (.int s2.1)] [] s2.2 := by
  refine lp_sound (fun c hc9 s2 h => ?_)
  unfold w_X8_bringsBack_L2 at h
  refine T.ild_1 (q := 3) dX8_bringsBack_2 rfl ?_
  refine T.sipush (q := 6) (562) dX8_bringsBack_3 rfl (by decide) ?_
  refine T.ic_ge (tgt := 27) (q := 9) dX8_bringsBack_6 (by decide) rfl (fun h6 => ?_) (fun h6 => ?_)
  · replace h := s_f (fun q => q h6) h
    refine T.drop_1 ?_
    exact hk27 s2.2 h
  · replace h := s_t h6 h
    refine T.ald_0 (q := 10) dX8_bringsBack_9 rfl ?_
    refine g_X8_13 rfl dX8_bringsBack_10 (q := 13) rfl ?_
    refine T.ild_1 (q := 14) dX8_bringsBack_13 rfl ?_
    refine T.ald_0 (q := 15) dX8_bringsBack_14 rfl ?_
    refine g_X8_23 rfl dX8_bringsBack_15 (q := 18) rfl ?_
    refine T.ild_1 (q := 19) dX8_bringsBack_18 rfl ?_
    refine T.iald (n := 562) rfl rfl (by decide) dX8_bringsBack_19 (q := 20) rfl h.1 ?_
    replace h := h.2
    refine T.iast (n := 2260) rfl rfl (by decide) dX8_bringsBack_20 (q := 21) rfl h.1 ?_
    refine S.mem h.2 ?_
    intro M20 h
    refine T.inc_1 (q := 24) (1) dX8_bringsBack_21 rfl (by decide) (by decide) sk_ok_r ?_
    refine T.goto (tgt := 2) dX8_bringsBack_24 (by decide) ?_
    exact hc9 ((s2.1 + (1 : Int32)), M20) h
theorem t_X8_bringsBack {G : sk_G} {M : sk_M}   {Q : sk_M → Prop} (h : w_X8_bringsBack  M Q) : Ctr G mX8_bringsBack 1 0 0 [.ref (G.2.2.1 140)] M (rV Q) noX := by
  unfold w_X8_bringsBack at h
  refine Ctr.of 1 (by decide) (Nat.le_of_ble_eq_true rfl) ?_
  show TJ G mX8_bringsBack (sk_R 1 0 0) (sk_K G 0 0 (rV Q) noX) 0 0 0 [some (.ref (G.2.2.1 140)), none] [] M
  refine T.iconst (q := 1) (0) dX8_bringsBack_0 rfl (by decide) ?_
  refine T.ist_1 (q := 2) dX8_bringsBack_1 rfl (by decide) sk_ok_r ?_
  refine tl_X8_bringsBack_L2  (by decide) (by decide) ?_ _ ((0 : Int32), M) h
  intro s27 h
  refine T.ald_0 (q := 28) dX8_bringsBack_27 rfl ?_
  refine g_X8_39 rfl dX8_bringsBack_28 (q := 31) rfl ?_
  refine T.ald_0 (q := 32) dX8_bringsBack_31 rfl ?_
  refine g_X8_29 rfl dX8_bringsBack_32 (q := 35) rfl ?_
  refine k_X8_70 rfl dX8_bringsBack_35 (q := 38) rfl (by decide) (by decide) (by decide) (Nat.le_of_ble_eq_true rfl) (t_X8_copies (⟨rfl, rfl, by decide⟩) (⟨rfl, rfl, by decide⟩) h) ?_
  intro M35 h
  exact T.retV rfl dX8_bringsBack_38 (by decide) (by decide) h
theorem tl_X8_when_L49 {G : sk_G} {cells slots : Nat} {a1 : Int32} {a2 : Int32} {Q : Int32 → sk_M → Prop} {k80 : (Int32 × Int32 × sk_M) → Prop}  (hc0 : cells ≤ 0) (hs0 : slots ≤ 0) (hk80 : ∀ s80 : Int32 × Int32 × sk_M, k80 s80 → TJ G mX8_when (sk_R 6 0 0) (sk_K G 0 0 (rI Q) noX) cells slots 80 [some (.ref (G.2.2.1 140)), none, none, some (.int s80.1), some (.int s80.2.1)] [] s80.2.2) : ∀ (F : Nat) (s49 : Int32 × Int32 × sk_M), lp (w_X8_when_L49 a1 a2 k80) F s49 → TJ G mX8_when (sk_R 6 0 0) (sk_K G 0 0 (rI Q) noX) cells slots 49 [some (.ref (G.2.2.1 140)), some (.int a1), some (.int a2), some (.int s49.1), some (.int s49.2.1)] [] s49.2.2 := by
  refine lp_sound (fun c hc9 s49 h => ?_)
  unfold w_X8_when_L49 at h
  refine T.ild_3 (q := 50) dX8_when_49 rfl ?_
  refine T.bipush (q := 52) (20) dX8_when_50 rfl (by decide) ?_
  refine T.ic_ge (tgt := 80) (q := 55) dX8_when_52 (by decide) rfl (fun h52 => ?_) (fun h52 => ?_)
  · replace h := s_f (fun q => q.1 h52) h
    refine T.drop_1 ?_
    refine T.drop_2 ?_
    exact hk80 (s49.1, s49.2.1, s49.2.2) h
  · refine T.ild_4 (q := 57) dX8_when_55 rfl ?_
    refine T.if_ne (tgt := 80) (q := 60) dX8_when_57 (by decide) rfl (fun h57 => ?_) (fun h57 => ?_)
    · replace h := s_f (fun q => h57 q.2) h
      refine T.drop_1 ?_
      refine T.drop_2 ?_
      exact hk80 (s49.1, s49.2.1, s49.2.2) h
    · replace h := s_t ⟨h52, h57⟩ h
      refine T.ald_0 (q := 61) dX8_when_60 rfl ?_
      refine T.ild_1 (q := 62) dX8_when_61 rfl ?_
      refine T.ild_2 (q := 63) dX8_when_62 rfl ?_
      refine T.ald_0 (q := 64) dX8_when_63 rfl ?_
      refine T.ild_1 (q := 65) dX8_when_64 rfl ?_
      refine T.ild_2 (q := 66) dX8_when_65 rfl ?_
      refine k_X8_390 rfl dX8_when_66 (q := 69) rfl (by decide) hc0 hs0 (Nat.le_of_ble_eq_true rfl) (t_X8_nextOf  h) ?_
      intro r66 M66 h
      refine k_X8_366 rfl dX8_when_69 (q := 72) rfl (by decide) hc0 hs0 (Nat.le_of_ble_eq_true rfl) (t_X8_hears  h) ?_
      intro r69 M69 h
      refine T.ist_4 (q := 74) dX8_when_72 rfl (by decide) sk_ok_i ?_
      refine T.inc_3 (q := 77) (1) dX8_when_74 rfl (by decide) (by decide) sk_ok_i ?_
      refine T.goto (tgt := 49) dX8_when_77 (by decide) ?_
      exact hc9 ((s49.1 + (1 : Int32)), r69, M69) h
theorem t_X8_when {G : sk_G} {M : sk_M} {a1 : Int32} {a2 : Int32}  {Q : Int32 → sk_M → Prop} (h : w_X8_when a1 a2 M Q) : Ctr G mX8_when 6 0 0 [.ref (G.2.2.1 140), .int a1, .int a2] M (rI Q) noX := by
  unfold w_X8_when at h
  refine Ctr.of 2 (by decide) (Nat.le_of_ble_eq_true rfl) ?_
  show TJ G mX8_when (sk_R 6 0 0) (sk_K G 0 0 (rI Q) noX) 0 0 0 [some (.ref (G.2.2.1 140)), some (.int a1), some (.int a2), none, none] [] M
  refine T.ald_0 (q := 1) dX8_when_0 rfl ?_
  refine T.iconst (q := 2) (0) dX8_when_1 rfl (by decide) ?_
  refine p_X8_3 rfl dX8_when_2 (q := 5) rfl ?_
  refine S.mem h ?_
  intro M2 h
  refine T.ald_0 (q := 6) dX8_when_5 rfl ?_
  refine T.ald_0 (q := 7) dX8_when_6 rfl ?_
  refine T.ild_1 (q := 8) dX8_when_7 rfl ?_
  refine k_X8_342 rfl dX8_when_8 (q := 11) rfl (by decide) (by decide) (by decide) (Nat.le_of_ble_eq_true rfl) (t_X8_noPerson (P := fun r9 => r9 = (f_X8_noPerson a1 M2)) rfl) ?_
  rintro _ _ ⟨rfl, h9⟩
  obtain rfl := h9.symm
  refine s_dia (fun s27_11 : Int32 => TJ G mX8_when (sk_R 6 0 0) (sk_K G 0 0 (rI Q) noX) 0 0 27 [some (.ref (G.2.2.1 140)), some (.int a1), some (.int a2), none, none] [.int s27_11, .ref (G.2.2.1 140)] M2) h (fun s27_11 h => ?_) (fun k9 hJ9 h => ?_)
  · refine T.iconst (q := 28) (1) dX8_when_27 rfl (by decide) ?_
    refine k_X8_281 rfl dX8_when_28 (q := 31) rfl (by decide) (by decide) (by decide) (Nat.le_of_ble_eq_true rfl) (t_X8_throwsIf  h) ?_
    intro r28 M28 h
    refine T.if_eq (tgt := 36) (q := 34) dX8_when_31 (by decide) rfl (fun h31 => ?_) (fun h31 => ?_)
    · replace h := s_f (fun q => q h31) h
      refine T.ald_0 (q := 37) dX8_when_36 rfl ?_
      refine k_X8_431 rfl dX8_when_37 (q := 40) rfl (by decide) (by decide) (by decide) (Nat.le_of_ble_eq_true rfl) (t_X8_keepsAll  h) ?_
      intro M37 h
      refine T.ald_0 (q := 41) dX8_when_40 rfl ?_
      refine k_X8_314 rfl dX8_when_41 (q := 44) rfl (by decide) (by decide) (by decide) (Nat.le_of_ble_eq_true rfl) (t_X8_laysClicks  h) ?_
      intro M41 h
      refine T.iconst (q := 45) (0) dX8_when_44 rfl (by decide) ?_
      refine T.ist_3 (q := 46) dX8_when_45 rfl (by decide) sk_ok_i ?_
      refine T.iconst (q := 47) (0) dX8_when_46 rfl (by decide) ?_
      refine T.ist_4 (q := 49) dX8_when_47 rfl (by decide) sk_ok_i ?_
      refine tl_X8_when_L49  (by decide) (by decide) ?_ _ ((0 : Int32), (0 : Int32), M41) h
      intro s80 h
      refine T.ald_0 (q := 81) dX8_when_80 rfl ?_
      refine k_X8_434 rfl dX8_when_81 (q := 84) rfl (by decide) (by decide) (by decide) (Nat.le_of_ble_eq_true rfl) (t_X8_bringsBack  h) ?_
      intro M81 h
      refine T.ild_4 (q := 86) dX8_when_84 rfl ?_
      refine T.if_eq (tgt := 93) (q := 89) dX8_when_86 (by decide) rfl (fun h86 => ?_) (fun h86 => ?_)
      · replace h := s_f (fun q => q h86) h
        refine T.iconst (q := 94) (-1) dX8_when_93 rfl (by decide) ?_
        exact T.retI rfl dX8_when_94 (by decide) (by decide) h
      · replace h := s_t h86 h
        refine T.ild_3 (q := 90) dX8_when_89 rfl ?_
        refine T.goto (tgt := 94) dX8_when_90 (by decide) ?_
        exact T.retI rfl dX8_when_94 (by decide) (by decide) h
    · replace h := s_t h31 h
      refine T.iconst (q := 35) (0) dX8_when_34 rfl (by decide) ?_
      exact T.retI rfl dX8_when_35 (by decide) (by decide) h
  · refine T.if_ne (tgt := 22) (q := 14) dX8_when_11 (by decide) rfl (fun h11 => ?_) (fun h11 => ?_)
    · replace h := s_tk (Or.inl h11) h
      refine T.iconst (q := 23) (1) dX8_when_22 rfl (by decide) ?_
      refine T.goto (tgt := 27) dX8_when_23 (by decide) ?_
      exact hJ9 _ h
    · refine T.ald_0 (q := 15) dX8_when_14 rfl ?_
      refine T.ild_2 (q := 16) dX8_when_15 rfl ?_
      refine k_X8_329 rfl dX8_when_16 (q := 19) rfl (by decide) (by decide) (by decide) (Nat.le_of_ble_eq_true rfl) (t_X8_noVault (P := fun r9 => r9 = (f_X8_noVault a2 M2)) rfl) ?_
      rintro _ _ ⟨rfl, h9⟩
      obtain rfl := h9.symm
      refine T.if_eq (tgt := 26) (q := 22) dX8_when_19 (by decide) rfl (fun h19 => ?_) (fun h19 => ?_)
      · replace h := s_fk (fun q => q.elim (fun q => q h11) (fun q => q h19)) h
        refine T.iconst (q := 27) (0) dX8_when_26 rfl (by decide) ?_
        exact hJ9 _ h
      · replace h := s_tk (Or.inr h19) h
        refine T.iconst (q := 23) (1) dX8_when_22 rfl (by decide) ?_
        refine T.goto (tgt := 27) dX8_when_23 (by decide) ?_
        exact hJ9 _ h
theorem tl_X8_changedOnes_L4 {G : sk_G} {M : sk_M} {cells slots : Nat}  {Q : Int32 → Prop}  (hc0 : cells ≤ 0) (hs0 : slots ≤ 0) : ∀ (F : Nat) (s4 : Int32 × Int32), lp (w_X8_changedOnes_L4 M Q) F s4 → TJ G mX8_changedOnes (sk_R 1 0 0) (sk_K G 0 0 (rI fun r9 M9 => Q r9 ∧ M9 = M) noX) cells slots 4 [some (.ref (G.2.2.1 140)), some (.int s4.1), some (.int s4.2)] [] M := by
  refine lp_sound (fun c hc9 s4 h => ?_)
  unfold w_X8_changedOnes_L4 at h
  refine T.ild_2 (q := 5) dX8_changedOnes_4 rfl ?_
  refine T.ald_0 (q := 6) dX8_changedOnes_5 rfl ?_
  refine k_X8_81 rfl dX8_changedOnes_6 (q := 9) rfl (by decide) hc0 hs0 (Nat.le_of_ble_eq_true rfl) (t_X8_vaults (P := fun r9 => r9 = (f_X8_vaults M)) rfl) ?_
  rintro _ _ ⟨rfl, h9⟩
  obtain rfl := h9.symm
  refine T.ic_ge (tgt := 50) (q := 12) dX8_changedOnes_9 (by decide) rfl (fun h9 => ?_) (fun h9 => ?_)
  · replace h := s_f (fun q => q h9) h
    refine T.ild_1 (q := 51) dX8_changedOnes_50 rfl ?_
    exact T.retI rfl dX8_changedOnes_51 hc0 hs0 ⟨h, rfl⟩
  · replace h := s_t h9 h
    refine T.ild_1 (q := 13) dX8_changedOnes_12 rfl ?_
    refine T.ald_0 (q := 14) dX8_changedOnes_13 rfl ?_
    refine T.ild_2 (q := 15) dX8_changedOnes_14 rfl ?_
    refine T.iconst (q := 16) (0) dX8_changedOnes_15 rfl (by decide) ?_
    refine k_X8_167 rfl dX8_changedOnes_16 (q := 19) rfl (by decide) hc0 hs0 (Nat.le_of_ble_eq_true rfl) (t_X8_of  h) ?_
    rintro r16 _ ⟨h, h9⟩
    obtain rfl := h9.symm
    refine T.ald_0 (q := 20) dX8_changedOnes_19 rfl ?_
    refine g_X8_23 rfl dX8_changedOnes_20 (q := 23) rfl ?_
    refine T.bipush (q := 25) (10) dX8_changedOnes_23 rfl (by decide) ?_
    refine T.iconst (q := 26) (4) dX8_changedOnes_25 rfl (by decide) ?_
    refine T.ild_2 (q := 27) dX8_changedOnes_26 rfl ?_
    refine T.imul (q := 28) dX8_changedOnes_27 rfl ?_
    refine T.iadd (q := 29) dX8_changedOnes_28 rfl ?_
    refine T.iconst (q := 30) (0) dX8_changedOnes_29 rfl (by decide) ?_
    refine T.iadd (q := 31) dX8_changedOnes_30 rfl ?_
    refine T.iald (n := 562) rfl rfl (by decide) dX8_changedOnes_31 (q := 32) rfl h.1 ?_
    replace h := h.2
    refine T.ic_eq (tgt := 41) (q := 35) dX8_changedOnes_32 (by decide) rfl (fun h32 => ?_) (fun h32 => ?_)
    · replace h := s_f (fun q => q h32) h
      refine T.iconst (q := 42) (0) dX8_changedOnes_41 rfl (by decide) ?_
      refine T.ior (q := 43) dX8_changedOnes_42 rfl ?_
      refine T.ist_1 (q := 44) dX8_changedOnes_43 rfl (by decide) sk_ok_r ?_
      refine S.i1 h ?_
      intro y43 h
      refine T.inc_2 (q := 47) (1) dX8_changedOnes_44 rfl (by decide) (by decide) sk_ok_i ?_
      refine T.goto (tgt := 4) dX8_changedOnes_47 (by decide) ?_
      exact hc9 (y43, (s4.2 + (1 : Int32))) h
    · replace h := s_t h32 h
      refine T.iconst (q := 36) (1) dX8_changedOnes_35 rfl (by decide) ?_
      refine T.ild_2 (q := 37) dX8_changedOnes_36 rfl ?_
      refine T.ishl (q := 38) dX8_changedOnes_37 rfl ?_
      refine T.goto (tgt := 42) dX8_changedOnes_38 (by decide) ?_
      refine T.ior (q := 43) dX8_changedOnes_42 rfl ?_
      refine T.ist_1 (q := 44) dX8_changedOnes_43 rfl (by decide) sk_ok_r ?_
      refine S.i1 h ?_
      intro y43 h
      refine T.inc_2 (q := 47) (1) dX8_changedOnes_44 rfl (by decide) (by decide) sk_ok_i ?_
      refine T.goto (tgt := 4) dX8_changedOnes_47 (by decide) ?_
      exact hc9 (y43, (s4.2 + (1 : Int32))) h
theorem t_X8_changedOnes {G : sk_G} {M : sk_M}   {Q : Int32 → Prop} (h : w_X8_changedOnes  M Q) : Ctr G mX8_changedOnes 1 0 0 [.ref (G.2.2.1 140)] M (rI fun r9 M9 => Q r9 ∧ M9 = M) noX := by
  unfold w_X8_changedOnes at h
  refine Ctr.of 2 (by decide) (Nat.le_of_ble_eq_true rfl) ?_
  show TJ G mX8_changedOnes (sk_R 1 0 0) (sk_K G 0 0 (rI fun r9 M9 => Q r9 ∧ M9 = M) noX) 0 0 0 [some (.ref (G.2.2.1 140)), none, none] [] M
  refine T.iconst (q := 1) (0) dX8_changedOnes_0 rfl (by decide) ?_
  refine T.ist_1 (q := 2) dX8_changedOnes_1 rfl (by decide) sk_ok_r ?_
  refine T.iconst (q := 3) (0) dX8_changedOnes_2 rfl (by decide) ?_
  refine T.ist_2 (q := 4) dX8_changedOnes_3 rfl (by decide) sk_ok_i ?_
  exact tl_X8_changedOnes_L4  (by decide) (by decide) _ ((0 : Int32), (0 : Int32)) h
theorem tl_X8_unknown_L14 {G : sk_G} {M : sk_M} {cells slots : Nat} {s4 : Int32 × Int32} {Q : Int32 → Prop} {k48 : Int32 → Prop}  (hc0 : cells ≤ 0) (hs0 : slots ≤ 0) (hk48 : ∀ s48 : Int32, k48 s48 → TJ G mX8_unknown (sk_R 2 0 0) (sk_K G 0 0 (rI fun r9 M9 => Q r9 ∧ M9 = M) noX) cells slots 48 [some (.ref (G.2.2.1 140)), some (.int s48), some (.int s4.2), none] [] M) : ∀ (F : Nat) (s14 : Int32 × Int32), lp (w_X8_unknown_L14 s4 M k48) F s14 → TJ G mX8_unknown (sk_R 2 0 0) (sk_K G 0 0 (rI fun r9 M9 => Q r9 ∧ M9 = M) noX) cells slots 14 [some (.ref (G.2.2.1 140)), some (.int s14.1), some (.int s4.2), some (.int s14.2)] [] M := by
  refine lp_sound (fun c hc9 s14 h => ?_)
  unfold w_X8_unknown_L14 at h
  refine T.ild_3 (q := 15) dX8_unknown_14 rfl ?_
  refine T.ald_0 (q := 16) dX8_unknown_15 rfl ?_
  refine k_X8_81 rfl dX8_unknown_16 (q := 19) rfl (by decide) hc0 hs0 (Nat.le_of_ble_eq_true rfl) (t_X8_vaults (P := fun r9 => r9 = (f_X8_vaults M)) rfl) ?_
  rintro _ _ ⟨rfl, h9⟩
  obtain rfl := h9.symm
  refine T.ic_ge (tgt := 48) (q := 22) dX8_unknown_19 (by decide) rfl (fun h19 => ?_) (fun h19 => ?_)
  · replace h := s_f (fun q => q h19) h
    refine T.drop_3 ?_
    exact hk48 s14.1 h
  · replace h := s_t h19 h
    refine T.ild_1 (q := 23) dX8_unknown_22 rfl ?_
    refine T.ald_0 (q := 24) dX8_unknown_23 rfl ?_
    refine T.ild_2 (q := 25) dX8_unknown_24 rfl ?_
    refine T.ild_3 (q := 26) dX8_unknown_25 rfl ?_
    refine k_X8_345 rfl dX8_unknown_26 (q := 29) rfl (by decide) hc0 hs0 (Nat.le_of_ble_eq_true rfl) (t_X8_leftOf  h) ?_
    rintro r26 _ ⟨h, h9⟩
    obtain rfl := h9.symm
    refine T.sipush (q := 32) (216) dX8_unknown_29 rfl (by decide) ?_
    refine T.ic_ne (tgt := 39) (q := 35) dX8_unknown_32 (by decide) rfl (fun h32 => ?_) (fun h32 => ?_)
    · replace h := s_f h32 h
      refine T.iconst (q := 40) (0) dX8_unknown_39 rfl (by decide) ?_
      refine T.iadd (q := 41) dX8_unknown_40 rfl ?_
      refine T.ist_1 (q := 42) dX8_unknown_41 rfl (by decide) sk_ok_r ?_
      refine S.i1 h ?_
      intro y41 h
      refine T.inc_3 (q := 45) (1) dX8_unknown_42 rfl (by decide) (by decide) sk_ok_i ?_
      refine T.goto (tgt := 14) dX8_unknown_45 (by decide) ?_
      exact hc9 (y41, (s14.2 + (1 : Int32))) h
    · replace h := s_t h32 h
      refine T.iconst (q := 36) (1) dX8_unknown_35 rfl (by decide) ?_
      refine T.goto (tgt := 40) dX8_unknown_36 (by decide) ?_
      refine T.iadd (q := 41) dX8_unknown_40 rfl ?_
      refine T.ist_1 (q := 42) dX8_unknown_41 rfl (by decide) sk_ok_r ?_
      refine S.i1 h ?_
      intro y41 h
      refine T.inc_3 (q := 45) (1) dX8_unknown_42 rfl (by decide) (by decide) sk_ok_i ?_
      refine T.goto (tgt := 14) dX8_unknown_45 (by decide) ?_
      exact hc9 (y41, (s14.2 + (1 : Int32))) h
theorem tl_X8_unknown_L4 {G : sk_G} {M : sk_M} {cells slots : Nat}  {Q : Int32 → Prop}  (hc0 : cells ≤ 0) (hs0 : slots ≤ 0) : ∀ (F : Nat) (s4 : Int32 × Int32), lp (w_X8_unknown_L4 M Q) F s4 → TJ G mX8_unknown (sk_R 2 0 0) (sk_K G 0 0 (rI fun r9 M9 => Q r9 ∧ M9 = M) noX) cells slots 4 [some (.ref (G.2.2.1 140)), some (.int s4.1), some (.int s4.2), none] [] M := by
  refine lp_sound (fun c hc9 s4 h => ?_)
  unfold w_X8_unknown_L4 at h
  refine T.ild_2 (q := 5) dX8_unknown_4 rfl ?_
  refine T.ald_0 (q := 6) dX8_unknown_5 rfl ?_
  refine k_X8_89 rfl dX8_unknown_6 (q := 9) rfl (by decide) hc0 hs0 (Nat.le_of_ble_eq_true rfl) (t_X8_people (P := fun r9 => r9 = (f_X8_people M)) rfl) ?_
  rintro _ _ ⟨rfl, h9⟩
  obtain rfl := h9.symm
  refine T.ic_ge (tgt := 54) (q := 12) dX8_unknown_9 (by decide) rfl (fun h9 => ?_) (fun h9 => ?_)
  · replace h := s_f (fun q => q h9) h
    refine T.ild_1 (q := 55) dX8_unknown_54 rfl ?_
    exact T.retI rfl dX8_unknown_55 hc0 hs0 ⟨h, rfl⟩
  · replace h := s_t h9 h
    refine T.iconst (q := 13) (0) dX8_unknown_12 rfl (by decide) ?_
    refine T.ist_3 (q := 14) dX8_unknown_13 rfl (by decide) sk_ok_i ?_
    refine tl_X8_unknown_L14  hc0 hs0 ?_ _ (s4.1, (0 : Int32)) h
    intro s48 h
    refine T.inc_2 (q := 51) (1) dX8_unknown_48 rfl (by decide) (by decide) sk_ok_i ?_
    refine T.goto (tgt := 4) dX8_unknown_51 (by decide) ?_
    exact hc9 (s48, (s4.2 + (1 : Int32))) h
theorem t_X8_unknown {G : sk_G} {M : sk_M}   {Q : Int32 → Prop} (h : w_X8_unknown  M Q) : Ctr G mX8_unknown 2 0 0 [.ref (G.2.2.1 140)] M (rI fun r9 M9 => Q r9 ∧ M9 = M) noX := by
  unfold w_X8_unknown at h
  refine Ctr.of 3 (by decide) (Nat.le_of_ble_eq_true rfl) ?_
  show TJ G mX8_unknown (sk_R 2 0 0) (sk_K G 0 0 (rI fun r9 M9 => Q r9 ∧ M9 = M) noX) 0 0 0 [some (.ref (G.2.2.1 140)), none, none, none] [] M
  refine T.iconst (q := 1) (0) dX8_unknown_0 rfl (by decide) ?_
  refine T.ist_1 (q := 2) dX8_unknown_1 rfl (by decide) sk_ok_r ?_
  refine T.iconst (q := 3) (0) dX8_unknown_2 rfl (by decide) ?_
  refine T.ist_2 (q := 4) dX8_unknown_3 rfl (by decide) sk_ok_i ?_
  exact tl_X8_unknown_L4  (by decide) (by decide) _ ((0 : Int32), (0 : Int32)) h
theorem tl_X8_trial_L36 {G : sk_G} {cells slots : Nat} {a1 : Int32} {a2 : Int32} {Q : Int32 → sk_M → Prop} {k51 : sk_M → Prop}  (hc0 : cells ≤ 0) (hs0 : slots ≤ 0) (hk51 : ∀ s51 : sk_M, k51 s51 → TJ G mX8_trial (sk_R 5 0 0) (sk_K G 0 0 (rI Q) noX) cells slots 51 [some (.ref (G.2.2.1 140)), none, some (.int a2), none] [] s51) : ∀ (F : Nat) (s36 : Int32 × sk_M), lp (w_X8_trial_L36 a1 k51) F s36 → TJ G mX8_trial (sk_R 5 0 0) (sk_K G 0 0 (rI Q) noX) cells slots 36 [some (.ref (G.2.2.1 140)), some (.int a1), some (.int a2), some (.int s36.1)] [] s36.2 := by
  refine lp_sound (fun c hc9 s36 h => ?_)
  unfold w_X8_trial_L36 at h
  refine T.ild_3 (q := 37) dX8_trial_36 rfl ?_
  refine T.ild_1 (q := 38) dX8_trial_37 rfl ?_
  refine T.ic_ge (tgt := 51) (q := 41) dX8_trial_38 (by decide) rfl (fun h38 => ?_) (fun h38 => ?_)
  · replace h := s_f (fun q => q h38) h
    refine T.drop_1 ?_
    refine T.drop_3 ?_
    exact hk51 s36.2 h
  · replace h := s_t h38 h
    refine T.ald_0 (q := 42) dX8_trial_41 rfl ?_
    refine k_X8_382 rfl dX8_trial_42 (q := 45) rfl (by decide) hc0 hs0 (Nat.le_of_ble_eq_true rfl) (t_X8_oneDay  h) ?_
    intro M42 h
    refine T.inc_3 (q := 48) (1) dX8_trial_45 rfl (by decide) (by decide) sk_ok_i ?_
    refine T.goto (tgt := 36) dX8_trial_48 (by decide) ?_
    exact hc9 ((s36.1 + (1 : Int32)), M42) h
theorem t_X8_trial {G : sk_G} {M : sk_M} {a1 : Int32} {a2 : Int32}  {Q : Int32 → sk_M → Prop} (h : w_X8_trial a1 a2 M Q) : Ctr G mX8_trial 5 0 0 [.ref (G.2.2.1 140), .int a1, .int a2] M (rI Q) noX := by
  unfold w_X8_trial at h
  refine Ctr.of 1 (by decide) (Nat.le_of_ble_eq_true rfl) ?_
  show TJ G mX8_trial (sk_R 5 0 0) (sk_K G 0 0 (rI Q) noX) 0 0 0 [some (.ref (G.2.2.1 140)), some (.int a1), some (.int a2), none] [] M
  refine T.ald_0 (q := 1) dX8_trial_0 rfl ?_
  refine T.iconst (q := 2) (0) dX8_trial_1 rfl (by decide) ?_
  refine p_X8_3 rfl dX8_trial_2 (q := 5) rfl ?_
  refine S.mem h ?_
  intro M2 h
  refine T.ald_0 (q := 6) dX8_trial_5 rfl ?_
  refine T.ild_1 (q := 7) dX8_trial_6 rfl ?_
  refine T.iconst (q := 8) (0) dX8_trial_7 rfl (by decide) ?_
  refine T.bipush (q := 10) (40) dX8_trial_8 rfl (by decide) ?_
  refine k_X8_85 rfl dX8_trial_10 (q := 13) rfl (by decide) (by decide) (by decide) (Nat.le_of_ble_eq_true rfl) (t_X8_in (P := fun r9 => r9 = (f_X8_in a1 (0 : Int32) (40 : Int32))) rfl) ?_
  rintro _ _ ⟨rfl, h9⟩
  obtain rfl := h9.symm
  refine s_dia (fun s21_13 : Int32 => TJ G mX8_trial (sk_R 5 0 0) (sk_K G 0 0 (rI Q) noX) 0 0 21 [some (.ref (G.2.2.1 140)), some (.int a1), some (.int a2), none] [.int s21_13, .ref (G.2.2.1 140)] M2) h (fun s21_13 h => ?_) (fun k9 hJ9 h => ?_)
  · refine T.iconst (q := 22) (1) dX8_trial_21 rfl (by decide) ?_
    refine k_X8_281 rfl dX8_trial_22 (q := 25) rfl (by decide) (by decide) (by decide) (Nat.le_of_ble_eq_true rfl) (t_X8_throwsIf  h) ?_
    intro r22 M22 h
    refine T.if_eq (tgt := 30) (q := 28) dX8_trial_25 (by decide) rfl (fun h25 => ?_) (fun h25 => ?_)
    · replace h := s_f (fun q => q h25) h
      refine T.ald_0 (q := 31) dX8_trial_30 rfl ?_
      refine k_X8_431 rfl dX8_trial_31 (q := 34) rfl (by decide) (by decide) (by decide) (Nat.le_of_ble_eq_true rfl) (t_X8_keepsAll  h) ?_
      intro M31 h
      refine T.iconst (q := 35) (0) dX8_trial_34 rfl (by decide) ?_
      refine T.ist_3 (q := 36) dX8_trial_35 rfl (by decide) sk_ok_i ?_
      refine tl_X8_trial_L36  (by decide) (by decide) ?_ _ ((0 : Int32), M31) h
      intro s51 h
      refine T.ild_2 (q := 52) dX8_trial_51 rfl ?_
      refine T.if_eq (tgt := 62) (q := 55) dX8_trial_52 (by decide) rfl (fun h52 => ?_) (fun h52 => ?_)
      · replace h := s_f (fun q => q h52) h
        refine T.ald_0 (q := 63) dX8_trial_62 rfl ?_
        refine k_X8_440 rfl dX8_trial_63 (q := 66) rfl (by decide) (by decide) (by decide) (Nat.le_of_ble_eq_true rfl) (t_X8_changedOnes  h) ?_
        rintro r63 _ ⟨h, h9⟩
        obtain rfl := h9.symm
        refine T.ist_3 (q := 67) dX8_trial_66 rfl (by decide) sk_ok_i ?_
        refine T.ald_0 (q := 68) dX8_trial_67 rfl ?_
        refine k_X8_434 rfl dX8_trial_68 (q := 71) rfl (by decide) (by decide) (by decide) (Nat.le_of_ble_eq_true rfl) (t_X8_bringsBack  h) ?_
        intro M68 h
        refine T.ild_3 (q := 72) dX8_trial_71 rfl ?_
        exact T.retI rfl dX8_trial_72 (by decide) (by decide) h
      · replace h := s_t h52 h
        refine T.ald_0 (q := 56) dX8_trial_55 rfl ?_
        refine k_X8_437 rfl dX8_trial_56 (q := 59) rfl (by decide) (by decide) (by decide) (Nat.le_of_ble_eq_true rfl) (t_X8_unknown  h) ?_
        rintro r56 _ ⟨h, h9⟩
        obtain rfl := h9.symm
        refine T.goto (tgt := 66) dX8_trial_59 (by decide) ?_
        refine T.ist_3 (q := 67) dX8_trial_66 rfl (by decide) sk_ok_i ?_
        refine T.ald_0 (q := 68) dX8_trial_67 rfl ?_
        refine k_X8_434 rfl dX8_trial_68 (q := 71) rfl (by decide) (by decide) (by decide) (Nat.le_of_ble_eq_true rfl) (t_X8_bringsBack  h) ?_
        intro M68 h
        refine T.ild_3 (q := 72) dX8_trial_71 rfl ?_
        exact T.retI rfl dX8_trial_72 (by decide) (by decide) h
    · replace h := s_t h25 h
      refine T.iconst (q := 29) (0) dX8_trial_28 rfl (by decide) ?_
      exact T.retI rfl dX8_trial_29 (by decide) (by decide) h
  · refine T.if_ne (tgt := 20) (q := 16) dX8_trial_13 (by decide) rfl (fun h13 => ?_) (fun h13 => ?_)
    · replace h := s_fk h13 h
      refine T.iconst (q := 21) (0) dX8_trial_20 rfl (by decide) ?_
      exact hJ9 _ h
    · replace h := s_tk h13 h
      refine T.iconst (q := 17) (1) dX8_trial_16 rfl (by decide) ?_
      refine T.goto (tgt := 21) dX8_trial_17 (by decide) ?_
      exact hJ9 _ h
theorem tl_X8_span_L58 {G : sk_G} {cells slots : Nat} {a1 : Int32} {a2 : Int32} {s39 : Int32 × Int32 × sk_M} {Q : Int32 → sk_M → Prop} {k74 : sk_M → Prop}  (hc0 : cells ≤ 0) (hs0 : slots ≤ 0) (hk74 : ∀ s74 : sk_M, k74 s74 → TJ G mX8_span (sk_R 5 0 0) (sk_K G 0 0 (rI Q) noX) cells slots 74 [some (.ref (G.2.2.1 140)), some (.int a1), some (.int a2), some (.int s39.1), some (.int s39.2.1), none] [] s74) : ∀ (F : Nat) (s58 : Int32 × sk_M), lp (w_X8_span_L58 a1 k74) F s58 → TJ G mX8_span (sk_R 5 0 0) (sk_K G 0 0 (rI Q) noX) cells slots 58 [some (.ref (G.2.2.1 140)), some (.int a1), some (.int a2), some (.int s39.1), some (.int s39.2.1), some (.int s58.1)] [] s58.2 := by
  refine lp_sound (fun c hc9 s58 h => ?_)
  unfold w_X8_span_L58 at h
  refine T.ild_5 (q := 60) dX8_span_58 rfl ?_
  refine T.ild_1 (q := 61) dX8_span_60 rfl ?_
  refine T.ic_ge (tgt := 74) (q := 64) dX8_span_61 (by decide) rfl (fun h61 => ?_) (fun h61 => ?_)
  · replace h := s_f (fun q => q h61) h
    refine T.drop_5 ?_
    exact hk74 s58.2 h
  · replace h := s_t h61 h
    refine T.ald_0 (q := 65) dX8_span_64 rfl ?_
    refine k_X8_382 rfl dX8_span_65 (q := 68) rfl (by decide) hc0 hs0 (Nat.le_of_ble_eq_true rfl) (t_X8_oneDay  h) ?_
    intro M65 h
    refine T.inc_5 (q := 71) (1) dX8_span_68 rfl (by decide) (by decide) sk_ok_i ?_
    refine T.goto (tgt := 58) dX8_span_71 (by decide) ?_
    exact hc9 ((s58.1 + (1 : Int32)), M65) h
theorem tl_X8_span_L39 {G : sk_G} {cells slots : Nat} {a1 : Int32} {a2 : Int32} {Q : Int32 → sk_M → Prop}  (hc0 : cells ≤ 0) (hs0 : slots ≤ 0) : ∀ (F : Nat) (s39 : Int32 × Int32 × sk_M), lp (w_X8_span_L39 a1 a2 Q) F s39 → TJ G mX8_span (sk_R 5 0 0) (sk_K G 0 0 (rI Q) noX) cells slots 39 [some (.ref (G.2.2.1 140)), some (.int a1), some (.int a2), some (.int s39.1), some (.int s39.2.1), none] [] s39.2.2 := by
  refine lp_sound (fun c hc9 s39 h => ?_)
  unfold w_X8_span_L39 at h
  refine T.ild_4 (q := 41) dX8_span_39 rfl ?_
  refine T.bipush (q := 43) (6) dX8_span_41 rfl (by decide) ?_
  refine T.ic_gt (tgt := 122) (q := 46) dX8_span_43 (by decide) rfl (fun h43 => ?_) (fun h43 => ?_)
  · replace h := s_f (fun q => q h43) h
    refine T.ild_3 (q := 123) dX8_span_122 rfl ?_
    exact T.retI rfl dX8_span_123 hc0 hs0 h
  · replace h := s_t h43 h
    refine T.ald_0 (q := 47) dX8_span_46 rfl ?_
    refine g_X8_13 rfl dX8_span_47 (q := 50) rfl ?_
    refine T.bipush (q := 52) (9) dX8_span_50 rfl (by decide) ?_
    refine T.ild_4 (q := 54) dX8_span_52 rfl ?_
    refine T.iastk (n := 2260) rfl rfl (by decide) dX8_span_54 (q := 55) rfl (k9 := 9) (by decide) ?_
    refine S.mem h ?_
    intro M54 h
    refine T.iconst (q := 56) (0) dX8_span_55 rfl (by decide) ?_
    refine T.ist_5 (q := 58) dX8_span_56 rfl (by decide) sk_ok_i ?_
    refine tl_X8_span_L58  hc0 hs0 ?_ _ ((0 : Int32), M54) h
    intro s74 h
    refine T.ald_0 (q := 75) dX8_span_74 rfl ?_
    refine k_X8_440 rfl dX8_span_75 (q := 78) rfl (by decide) hc0 hs0 (Nat.le_of_ble_eq_true rfl) (t_X8_changedOnes  h) ?_
    rintro r75 _ ⟨h, h9⟩
    obtain rfl := h9.symm
    refine k_X8_338 rfl dX8_span_78 (q := 81) rfl (by decide) hc0 hs0 (Nat.le_of_ble_eq_true rfl) (t_bc32 (P := fun r9 => r9 = (bc32 r75)) rfl) ?_
    rintro _ _ ⟨rfl, h9⟩
    obtain rfl := h9.symm
    refine T.ist_5 (q := 83) dX8_span_81 rfl (by decide) sk_ok_i ?_
    refine S.i5 h ?_
    intro y81 h
    refine T.ald_0 (q := 84) dX8_span_83 rfl ?_
    refine k_X8_434 rfl dX8_span_84 (q := 87) rfl (by decide) hc0 hs0 (Nat.le_of_ble_eq_true rfl) (t_X8_bringsBack  h) ?_
    intro M84 h
    refine T.ild_3 (q := 88) dX8_span_87 rfl ?_
    refine T.if_ge (tgt := 96) (q := 91) dX8_span_88 (by decide) rfl (fun h88 => ?_) (fun h88 => ?_)
    · replace h := s_f (fun q => q h88) h
      refine T.ild_2 (q := 97) dX8_span_96 rfl ?_
      refine T.if_eq (tgt := 109) (q := 100) dX8_span_97 (by decide) rfl (fun h97 => ?_) (fun h97 => ?_)
      · replace h := s_f (fun q => q h97) h
        refine T.ild_3 (q := 110) dX8_span_109 rfl ?_
        refine T.ild_5 (q := 112) dX8_span_110 rfl ?_
        refine k_X8_290 rfl dX8_span_112 (q := 115) rfl (by decide) hc0 hs0 (Nat.le_of_ble_eq_true rfl) ?_
        refine T.ist_3 (q := 116) dX8_span_115 rfl (by decide) sk_ok_i ?_
        refine S.i3 h ?_
        intro y115 h
        refine T.inc_4 (q := 119) (1) dX8_span_116 rfl (by decide) (by decide) sk_ok_i ?_
        refine T.goto (tgt := 39) dX8_span_119 (by decide) ?_
        refine T.drop_5 ?_
        exact hc9 (y115, (s39.2.1 + (1 : Int32)), M84) h
      · replace h := s_t h97 h
        refine T.ild_3 (q := 101) dX8_span_100 rfl ?_
        refine T.ild_5 (q := 103) dX8_span_101 rfl ?_
        refine k_X8_326 rfl dX8_span_103 (q := 106) rfl (by decide) hc0 hs0 (Nat.le_of_ble_eq_true rfl) ?_
        refine T.goto (tgt := 115) dX8_span_106 (by decide) ?_
        refine T.ist_3 (q := 116) dX8_span_115 rfl (by decide) sk_ok_i ?_
        refine S.i3 h ?_
        intro y115 h
        refine T.inc_4 (q := 119) (1) dX8_span_116 rfl (by decide) (by decide) sk_ok_i ?_
        refine T.goto (tgt := 39) dX8_span_119 (by decide) ?_
        refine T.drop_5 ?_
        exact hc9 (y115, (s39.2.1 + (1 : Int32)), M84) h
    · replace h := s_t h88 h
      refine T.ild_5 (q := 93) dX8_span_91 rfl ?_
      refine T.goto (tgt := 115) dX8_span_93 (by decide) ?_
      refine T.ist_3 (q := 116) dX8_span_115 rfl (by decide) sk_ok_i ?_
      refine T.inc_4 (q := 119) (1) dX8_span_116 rfl (by decide) (by decide) sk_ok_i ?_
      refine T.goto (tgt := 39) dX8_span_119 (by decide) ?_
      refine T.drop_5 ?_
      exact hc9 (y81, (s39.2.1 + (1 : Int32)), M84) h
theorem t_X8_span {G : sk_G} {M : sk_M} {a1 : Int32} {a2 : Int32}  {Q : Int32 → sk_M → Prop} (h : w_X8_span a1 a2 M Q) : Ctr G mX8_span 5 0 0 [.ref (G.2.2.1 140), .int a1, .int a2] M (rI Q) noX := by
  unfold w_X8_span at h
  refine Ctr.of 3 (by decide) (Nat.le_of_ble_eq_true rfl) ?_
  show TJ G mX8_span (sk_R 5 0 0) (sk_K G 0 0 (rI Q) noX) 0 0 0 [some (.ref (G.2.2.1 140)), some (.int a1), some (.int a2), none, none, none] [] M
  refine T.ald_0 (q := 1) dX8_span_0 rfl ?_
  refine T.iconst (q := 2) (0) dX8_span_1 rfl (by decide) ?_
  refine p_X8_3 rfl dX8_span_2 (q := 5) rfl ?_
  refine S.mem h ?_
  intro M2 h
  refine T.ald_0 (q := 6) dX8_span_5 rfl ?_
  refine T.ild_1 (q := 7) dX8_span_6 rfl ?_
  refine T.iconst (q := 8) (0) dX8_span_7 rfl (by decide) ?_
  refine T.bipush (q := 10) (40) dX8_span_8 rfl (by decide) ?_
  refine k_X8_85 rfl dX8_span_10 (q := 13) rfl (by decide) (by decide) (by decide) (Nat.le_of_ble_eq_true rfl) (t_X8_in (P := fun r9 => r9 = (f_X8_in a1 (0 : Int32) (40 : Int32))) rfl) ?_
  rintro _ _ ⟨rfl, h9⟩
  obtain rfl := h9.symm
  refine s_dia (fun s21_13 : Int32 => TJ G mX8_span (sk_R 5 0 0) (sk_K G 0 0 (rI Q) noX) 0 0 21 [some (.ref (G.2.2.1 140)), some (.int a1), some (.int a2), none, none, none] [.int s21_13, .ref (G.2.2.1 140)] M2) h (fun s21_13 h => ?_) (fun k9 hJ9 h => ?_)
  · refine T.iconst (q := 22) (1) dX8_span_21 rfl (by decide) ?_
    refine k_X8_281 rfl dX8_span_22 (q := 25) rfl (by decide) (by decide) (by decide) (Nat.le_of_ble_eq_true rfl) (t_X8_throwsIf  h) ?_
    intro r22 M22 h
    refine T.if_eq (tgt := 30) (q := 28) dX8_span_25 (by decide) rfl (fun h25 => ?_) (fun h25 => ?_)
    · replace h := s_f (fun q => q h25) h
      refine T.ald_0 (q := 31) dX8_span_30 rfl ?_
      refine k_X8_431 rfl dX8_span_31 (q := 34) rfl (by decide) (by decide) (by decide) (Nat.le_of_ble_eq_true rfl) (t_X8_keepsAll  h) ?_
      intro M31 h
      refine T.iconst (q := 35) (-1) dX8_span_34 rfl (by decide) ?_
      refine T.ist_3 (q := 36) dX8_span_35 rfl (by decide) sk_ok_i ?_
      refine T.iconst (q := 37) (1) dX8_span_36 rfl (by decide) ?_
      refine T.ist_4 (q := 39) dX8_span_37 rfl (by decide) sk_ok_i ?_
      exact tl_X8_span_L39  (by decide) (by decide) _ ((-1 : Int32), (1 : Int32), M31) h
    · replace h := s_t h25 h
      refine T.iconst (q := 29) (0) dX8_span_28 rfl (by decide) ?_
      exact T.retI rfl dX8_span_29 (by decide) (by decide) h
  · refine T.if_ne (tgt := 20) (q := 16) dX8_span_13 (by decide) rfl (fun h13 => ?_) (fun h13 => ?_)
    · replace h := s_fk h13 h
      refine T.iconst (q := 21) (0) dX8_span_20 rfl (by decide) ?_
      exact hJ9 _ h
    · replace h := s_tk h13 h
      refine T.iconst (q := 17) (1) dX8_span_16 rfl (by decide) ?_
      refine T.goto (tgt := 21) dX8_span_17 (by decide) ?_
      exact hJ9 _ h
theorem t_X8_log {G : sk_G} {M : sk_M} {a1 : Int32} {a2 : Int32}  {Q : Int32 → sk_M → Prop} (h : w_X8_log a1 a2 M Q) : Ctr G mX8_log 1 0 0 [.ref (G.2.2.1 140), .int a1, .int a2] M (rI Q) noX := by
  unfold w_X8_log at h
  refine Ctr.of 0 (by decide) (Nat.le_of_ble_eq_true rfl) ?_
  show TJ G mX8_log (sk_R 1 0 0) (sk_K G 0 0 (rI Q) noX) 0 0 0 [some (.ref (G.2.2.1 140)), some (.int a1), some (.int a2)] [] M
  refine T.ald_0 (q := 1) dX8_log_0 rfl ?_
  refine T.iconst (q := 2) (0) dX8_log_1 rfl (by decide) ?_
  refine p_X8_3 rfl dX8_log_2 (q := 5) rfl ?_
  refine S.mem h ?_
  intro M2 h
  refine T.ald_0 (q := 6) dX8_log_5 rfl ?_
  refine T.ild_2 (q := 7) dX8_log_6 rfl ?_
  refine T.iconst (q := 8) (0) dX8_log_7 rfl (by decide) ?_
  refine T.iconst (q := 9) (5) dX8_log_8 rfl (by decide) ?_
  refine k_X8_85 rfl dX8_log_9 (q := 12) rfl (by decide) (by decide) (by decide) (Nat.le_of_ble_eq_true rfl) (t_X8_in (P := fun r9 => r9 = (f_X8_in a2 (0 : Int32) (5 : Int32))) rfl) ?_
  rintro _ _ ⟨rfl, h9⟩
  obtain rfl := h9.symm
  refine s_dia (fun s20_12 : Int32 => TJ G mX8_log (sk_R 1 0 0) (sk_K G 0 0 (rI Q) noX) 0 0 20 [some (.ref (G.2.2.1 140)), some (.int a1), some (.int a2)] [.int s20_12, .ref (G.2.2.1 140)] M2) h (fun s20_12 h => ?_) (fun k9 hJ9 h => ?_)
  · refine T.iconst (q := 21) (1) dX8_log_20 rfl (by decide) ?_
    refine k_X8_281 rfl dX8_log_21 (q := 24) rfl (by decide) (by decide) (by decide) (Nat.le_of_ble_eq_true rfl) (t_X8_throwsIf  h) ?_
    intro r21 M21 h
    refine T.if_eq (tgt := 29) (q := 27) dX8_log_24 (by decide) rfl (fun h24 => ?_) (fun h24 => ?_)
    · replace h := s_f (fun q => q h24) h
      refine T.ild_1 (q := 30) dX8_log_29 rfl ?_
      refine T.iconst (q := 31) (0) dX8_log_30 rfl (by decide) ?_
      refine T.ald_0 (q := 32) dX8_log_31 rfl ?_
      refine g_X8_13 rfl dX8_log_32 (q := 35) rfl ?_
      refine T.bipush (q := 37) (8) dX8_log_35 rfl (by decide) ?_
      refine T.ialdk (n := 2260) rfl rfl (by decide) dX8_log_37 (q := 38) rfl (k9 := 8) (by decide) ?_
      refine T.iconst (q := 39) (1) dX8_log_38 rfl (by decide) ?_
      refine T.isub (q := 40) dX8_log_39 rfl ?_
      refine k_X8_85 rfl dX8_log_40 (q := 43) rfl (by decide) (by decide) (by decide) (Nat.le_of_ble_eq_true rfl) (t_X8_in (P := fun r9 => r9 = (f_X8_in a1 (0 : Int32) ((M21.1 141 8) - (1 : Int32)))) rfl) ?_
      rintro _ _ ⟨rfl, h9⟩
      obtain rfl := h9.symm
      refine T.if_eq (tgt := 55) (q := 46) dX8_log_43 (by decide) rfl (fun h43 => ?_) (fun h43 => ?_)
      · replace h := s_f (fun q => q h43) h
        refine T.sipush (q := 58) (-999) dX8_log_55 rfl (by decide) ?_
        exact T.retI rfl dX8_log_58 (by decide) (by decide) h
      · replace h := s_t h43 h
        refine T.ald_0 (q := 47) dX8_log_46 rfl ?_
        refine T.ild_1 (q := 48) dX8_log_47 rfl ?_
        refine T.ild_2 (q := 49) dX8_log_48 rfl ?_
        refine k_X8_418 rfl dX8_log_49 (q := 52) rfl (by decide) (by decide) (by decide) (Nat.le_of_ble_eq_true rfl) (t_X8_ofLog  h) ?_
        rintro r49 _ ⟨h, h9⟩
        obtain rfl := h9.symm
        refine T.goto (tgt := 58) dX8_log_52 (by decide) ?_
        exact T.retI rfl dX8_log_58 (by decide) (by decide) h
    · replace h := s_t h24 h
      refine T.iconst (q := 28) (0) dX8_log_27 rfl (by decide) ?_
      exact T.retI rfl dX8_log_28 (by decide) (by decide) h
  · refine T.if_ne (tgt := 19) (q := 15) dX8_log_12 (by decide) rfl (fun h12 => ?_) (fun h12 => ?_)
    · replace h := s_fk h12 h
      refine T.iconst (q := 20) (0) dX8_log_19 rfl (by decide) ?_
      exact hJ9 _ h
    · replace h := s_tk h12 h
      refine T.iconst (q := 16) (1) dX8_log_15 rfl (by decide) ?_
      refine T.goto (tgt := 20) dX8_log_16 (by decide) ?_
      exact hJ9 _ h
theorem t_X8_seed {G : sk_G} {M : sk_M} {a1 : Int32}  {Q : Int32 → sk_M → Prop} (h : w_X8_seed a1 M Q) : Ctr G mX8_seed 0 0 0 [.ref (G.2.2.1 140), .int a1] M (rI Q) noX := by
  unfold w_X8_seed at h
  refine Ctr.of 1 (by decide) (Nat.le_of_ble_eq_true rfl) ?_
  show TJ G mX8_seed (sk_R 0 0 0) (sk_K G 0 0 (rI Q) noX) 0 0 0 [some (.ref (G.2.2.1 140)), some (.int a1), none] [] M
  refine T.ald_0 (q := 1) dX8_seed_0 rfl ?_
  refine T.iconst (q := 2) (0) dX8_seed_1 rfl (by decide) ?_
  refine p_X8_3 rfl dX8_seed_2 (q := 5) rfl ?_
  refine S.mem h ?_
  intro M2 h
  refine T.ald_0 (q := 6) dX8_seed_5 rfl ?_
  refine g_X8_13 rfl dX8_seed_6 (q := 9) rfl ?_
  refine T.bipush (q := 11) (9) dX8_seed_9 rfl (by decide) ?_
  refine T.ialdk (n := 2260) rfl rfl (by decide) dX8_seed_11 (q := 12) rfl (k9 := 9) (by decide) ?_
  refine T.ist_2 (q := 13) dX8_seed_12 rfl (by decide) sk_ok_i ?_
  refine S.i2 h ?_
  intro y12 h
  refine T.ald_0 (q := 14) dX8_seed_13 rfl ?_
  refine g_X8_13 rfl dX8_seed_14 (q := 17) rfl ?_
  refine T.bipush (q := 19) (9) dX8_seed_17 rfl (by decide) ?_
  refine T.ild_1 (q := 20) dX8_seed_19 rfl ?_
  refine T.iastk (n := 2260) rfl rfl (by decide) dX8_seed_20 (q := 21) rfl (k9 := 9) (by decide) ?_
  refine S.mem h ?_
  intro M20 h
  refine T.ild_2 (q := 22) dX8_seed_21 rfl ?_
  exact T.retI rfl dX8_seed_22 (by decide) (by decide) h
theorem tl_X8_openedOnes_L4 {G : sk_G} {M : sk_M} {cells slots : Nat}  {Q : Int32 → Prop}  (hc0 : cells ≤ 0) (hs0 : slots ≤ 0) : ∀ (F : Nat) (s4 : Int32 × Int32), lp (w_X8_openedOnes_L4 M Q) F s4 → TJ G mX8_openedOnes (sk_R 1 0 0) (sk_K G 0 0 (rI fun r9 M9 => Q r9 ∧ M9 = M) noX) cells slots 4 [some (.ref (G.2.2.1 140)), some (.int s4.1), some (.int s4.2)] [] M := by
  refine lp_sound (fun c hc9 s4 h => ?_)
  unfold w_X8_openedOnes_L4 at h
  refine T.ild_2 (q := 5) dX8_openedOnes_4 rfl ?_
  refine T.ald_0 (q := 6) dX8_openedOnes_5 rfl ?_
  refine k_X8_81 rfl dX8_openedOnes_6 (q := 9) rfl (by decide) hc0 hs0 (Nat.le_of_ble_eq_true rfl) (t_X8_vaults (P := fun r9 => r9 = (f_X8_vaults M)) rfl) ?_
  rintro _ _ ⟨rfl, h9⟩
  obtain rfl := h9.symm
  refine T.ic_ge (tgt := 38) (q := 12) dX8_openedOnes_9 (by decide) rfl (fun h9 => ?_) (fun h9 => ?_)
  · replace h := s_f (fun q => q h9) h
    refine T.ild_1 (q := 39) dX8_openedOnes_38 rfl ?_
    exact T.retI rfl dX8_openedOnes_39 hc0 hs0 ⟨h, rfl⟩
  · replace h := s_t h9 h
    refine T.ild_1 (q := 13) dX8_openedOnes_12 rfl ?_
    refine T.ald_0 (q := 14) dX8_openedOnes_13 rfl ?_
    refine T.ild_2 (q := 15) dX8_openedOnes_14 rfl ?_
    refine T.iconst (q := 16) (3) dX8_openedOnes_15 rfl (by decide) ?_
    refine k_X8_167 rfl dX8_openedOnes_16 (q := 19) rfl (by decide) hc0 hs0 (Nat.le_of_ble_eq_true rfl) (t_X8_of  h) ?_
    rintro r16 _ ⟨h, h9⟩
    obtain rfl := h9.symm
    refine T.iconst (q := 20) (1) dX8_openedOnes_19 rfl (by decide) ?_
    refine T.ic_ne (tgt := 29) (q := 23) dX8_openedOnes_20 (by decide) rfl (fun h20 => ?_) (fun h20 => ?_)
    · replace h := s_f h20 h
      refine T.iconst (q := 30) (0) dX8_openedOnes_29 rfl (by decide) ?_
      refine T.ior (q := 31) dX8_openedOnes_30 rfl ?_
      refine T.ist_1 (q := 32) dX8_openedOnes_31 rfl (by decide) sk_ok_r ?_
      refine S.i1 h ?_
      intro y31 h
      refine T.inc_2 (q := 35) (1) dX8_openedOnes_32 rfl (by decide) (by decide) sk_ok_i ?_
      refine T.goto (tgt := 4) dX8_openedOnes_35 (by decide) ?_
      exact hc9 (y31, (s4.2 + (1 : Int32))) h
    · replace h := s_t h20 h
      refine T.iconst (q := 24) (1) dX8_openedOnes_23 rfl (by decide) ?_
      refine T.ild_2 (q := 25) dX8_openedOnes_24 rfl ?_
      refine T.ishl (q := 26) dX8_openedOnes_25 rfl ?_
      refine T.goto (tgt := 30) dX8_openedOnes_26 (by decide) ?_
      refine T.ior (q := 31) dX8_openedOnes_30 rfl ?_
      refine T.ist_1 (q := 32) dX8_openedOnes_31 rfl (by decide) sk_ok_r ?_
      refine S.i1 h ?_
      intro y31 h
      refine T.inc_2 (q := 35) (1) dX8_openedOnes_32 rfl (by decide) (by decide) sk_ok_i ?_
      refine T.goto (tgt := 4) dX8_openedOnes_35 (by decide) ?_
      exact hc9 (y31, (s4.2 + (1 : Int32))) h
theorem t_X8_openedOnes {G : sk_G} {M : sk_M}   {Q : Int32 → Prop} (h : w_X8_openedOnes  M Q) : Ctr G mX8_openedOnes 1 0 0 [.ref (G.2.2.1 140)] M (rI fun r9 M9 => Q r9 ∧ M9 = M) noX := by
  unfold w_X8_openedOnes at h
  refine Ctr.of 2 (by decide) (Nat.le_of_ble_eq_true rfl) ?_
  show TJ G mX8_openedOnes (sk_R 1 0 0) (sk_K G 0 0 (rI fun r9 M9 => Q r9 ∧ M9 = M) noX) 0 0 0 [some (.ref (G.2.2.1 140)), none, none] [] M
  refine T.iconst (q := 1) (0) dX8_openedOnes_0 rfl (by decide) ?_
  refine T.ist_1 (q := 2) dX8_openedOnes_1 rfl (by decide) sk_ok_r ?_
  refine T.iconst (q := 3) (0) dX8_openedOnes_2 rfl (by decide) ?_
  refine T.ist_2 (q := 4) dX8_openedOnes_3 rfl (by decide) sk_ok_i ?_
  exact tl_X8_openedOnes_L4  (by decide) (by decide) _ ((0 : Int32), (0 : Int32)) h
theorem tl_X8_guardedOnes_L4 {G : sk_G} {M : sk_M} {cells slots : Nat}  {Q : Int32 → Prop}  (hc0 : cells ≤ 0) (hs0 : slots ≤ 0) : ∀ (F : Nat) (s4 : Int32 × Int32), lp (w_X8_guardedOnes_L4 M Q) F s4 → TJ G mX8_guardedOnes (sk_R 2 0 0) (sk_K G 0 0 (rI fun r9 M9 => Q r9 ∧ M9 = M) noX) cells slots 4 [some (.ref (G.2.2.1 140)), some (.int s4.1), some (.int s4.2)] [] M := by
  refine lp_sound (fun c hc9 s4 h => ?_)
  unfold w_X8_guardedOnes_L4 at h
  refine T.ild_2 (q := 5) dX8_guardedOnes_4 rfl ?_
  refine T.ald_0 (q := 6) dX8_guardedOnes_5 rfl ?_
  refine k_X8_81 rfl dX8_guardedOnes_6 (q := 9) rfl (by decide) hc0 hs0 (Nat.le_of_ble_eq_true rfl) (t_X8_vaults (P := fun r9 => r9 = (f_X8_vaults M)) rfl) ?_
  rintro _ _ ⟨rfl, h9⟩
  obtain rfl := h9.symm
  refine T.ic_ge (tgt := 42) (q := 12) dX8_guardedOnes_9 (by decide) rfl (fun h9 => ?_) (fun h9 => ?_)
  · replace h := s_f (fun q => q h9) h
    refine T.ild_1 (q := 43) dX8_guardedOnes_42 rfl ?_
    exact T.retI rfl dX8_guardedOnes_43 hc0 hs0 ⟨h, rfl⟩
  · replace h := s_t h9 h
    refine T.ild_1 (q := 13) dX8_guardedOnes_12 rfl ?_
    refine T.ald_0 (q := 14) dX8_guardedOnes_13 rfl ?_
    refine T.ild_2 (q := 15) dX8_guardedOnes_14 rfl ?_
    refine T.ald_0 (q := 16) dX8_guardedOnes_15 rfl ?_
    refine g_X8_13 rfl dX8_guardedOnes_16 (q := 19) rfl ?_
    refine T.iconst (q := 20) (5) dX8_guardedOnes_19 rfl (by decide) ?_
    refine T.ialdk (n := 2260) rfl rfl (by decide) dX8_guardedOnes_20 (q := 21) rfl (k9 := 5) (by decide) ?_
    refine k_X8_323 rfl dX8_guardedOnes_21 (q := 24) rfl (by decide) hc0 hs0 (Nat.le_of_ble_eq_true rfl) (t_X8_isGuarded  h) ?_
    rintro r21 _ ⟨h, h9⟩
    obtain rfl := h9.symm
    refine T.if_eq (tgt := 33) (q := 27) dX8_guardedOnes_24 (by decide) rfl (fun h24 => ?_) (fun h24 => ?_)
    · replace h := s_f (fun q => q h24) h
      refine T.iconst (q := 34) (0) dX8_guardedOnes_33 rfl (by decide) ?_
      refine T.ior (q := 35) dX8_guardedOnes_34 rfl ?_
      refine T.ist_1 (q := 36) dX8_guardedOnes_35 rfl (by decide) sk_ok_r ?_
      refine S.i1 h ?_
      intro y35 h
      refine T.inc_2 (q := 39) (1) dX8_guardedOnes_36 rfl (by decide) (by decide) sk_ok_i ?_
      refine T.goto (tgt := 4) dX8_guardedOnes_39 (by decide) ?_
      exact hc9 (y35, (s4.2 + (1 : Int32))) h
    · replace h := s_t h24 h
      refine T.iconst (q := 28) (1) dX8_guardedOnes_27 rfl (by decide) ?_
      refine T.ild_2 (q := 29) dX8_guardedOnes_28 rfl ?_
      refine T.ishl (q := 30) dX8_guardedOnes_29 rfl ?_
      refine T.goto (tgt := 34) dX8_guardedOnes_30 (by decide) ?_
      refine T.ior (q := 35) dX8_guardedOnes_34 rfl ?_
      refine T.ist_1 (q := 36) dX8_guardedOnes_35 rfl (by decide) sk_ok_r ?_
      refine S.i1 h ?_
      intro y35 h
      refine T.inc_2 (q := 39) (1) dX8_guardedOnes_36 rfl (by decide) (by decide) sk_ok_i ?_
      refine T.goto (tgt := 4) dX8_guardedOnes_39 (by decide) ?_
      exact hc9 (y35, (s4.2 + (1 : Int32))) h
theorem t_X8_guardedOnes {G : sk_G} {M : sk_M}   {Q : Int32 → Prop} (h : w_X8_guardedOnes  M Q) : Ctr G mX8_guardedOnes 2 0 0 [.ref (G.2.2.1 140)] M (rI fun r9 M9 => Q r9 ∧ M9 = M) noX := by
  unfold w_X8_guardedOnes at h
  refine Ctr.of 2 (by decide) (Nat.le_of_ble_eq_true rfl) ?_
  show TJ G mX8_guardedOnes (sk_R 2 0 0) (sk_K G 0 0 (rI fun r9 M9 => Q r9 ∧ M9 = M) noX) 0 0 0 [some (.ref (G.2.2.1 140)), none, none] [] M
  refine T.iconst (q := 1) (0) dX8_guardedOnes_0 rfl (by decide) ?_
  refine T.ist_1 (q := 2) dX8_guardedOnes_1 rfl (by decide) sk_ok_r ?_
  refine T.iconst (q := 3) (0) dX8_guardedOnes_2 rfl (by decide) ?_
  refine T.ist_2 (q := 4) dX8_guardedOnes_3 rfl (by decide) sk_ok_i ?_
  exact tl_X8_guardedOnes_L4  (by decide) (by decide) _ ((0 : Int32), (0 : Int32)) h
theorem tl_X8_allWorth_L4 {G : sk_G} {M : sk_M} {cells slots : Nat}  {Q : Int32 → Prop}  (hc0 : cells ≤ 0) (hs0 : slots ≤ 0) : ∀ (F : Nat) (s4 : Int32 × Int32), lp (w_X8_allWorth_L4 M Q) F s4 → TJ G mX8_allWorth (sk_R 1 0 0) (sk_K G 0 0 (rI fun r9 M9 => Q r9 ∧ M9 = M) noX) cells slots 4 [some (.ref (G.2.2.1 140)), some (.int s4.1), some (.int s4.2)] [] M := by
  refine lp_sound (fun c hc9 s4 h => ?_)
  unfold w_X8_allWorth_L4 at h
  refine T.ild_2 (q := 5) dX8_allWorth_4 rfl ?_
  refine T.ald_0 (q := 6) dX8_allWorth_5 rfl ?_
  refine k_X8_81 rfl dX8_allWorth_6 (q := 9) rfl (by decide) hc0 hs0 (Nat.le_of_ble_eq_true rfl) (t_X8_vaults (P := fun r9 => r9 = (f_X8_vaults M)) rfl) ?_
  rintro _ _ ⟨rfl, h9⟩
  obtain rfl := h9.symm
  refine T.ic_ge (tgt := 27) (q := 12) dX8_allWorth_9 (by decide) rfl (fun h9 => ?_) (fun h9 => ?_)
  · replace h := s_f (fun q => q h9) h
    refine T.ild_1 (q := 28) dX8_allWorth_27 rfl ?_
    exact T.retI rfl dX8_allWorth_28 hc0 hs0 ⟨h, rfl⟩
  · replace h := s_t h9 h
    refine T.ild_1 (q := 13) dX8_allWorth_12 rfl ?_
    refine T.ald_0 (q := 14) dX8_allWorth_13 rfl ?_
    refine T.ild_2 (q := 15) dX8_allWorth_14 rfl ?_
    refine T.iconst (q := 16) (2) dX8_allWorth_15 rfl (by decide) ?_
    refine k_X8_167 rfl dX8_allWorth_16 (q := 19) rfl (by decide) hc0 hs0 (Nat.le_of_ble_eq_true rfl) (t_X8_of  h) ?_
    rintro r16 _ ⟨h, h9⟩
    obtain rfl := h9.symm
    refine T.iadd (q := 20) dX8_allWorth_19 rfl ?_
    refine T.ist_1 (q := 21) dX8_allWorth_20 rfl (by decide) sk_ok_r ?_
    refine S.i1 h ?_
    intro y20 h
    refine T.inc_2 (q := 24) (1) dX8_allWorth_21 rfl (by decide) (by decide) sk_ok_i ?_
    refine T.goto (tgt := 4) dX8_allWorth_24 (by decide) ?_
    exact hc9 (y20, (s4.2 + (1 : Int32))) h
theorem t_X8_allWorth {G : sk_G} {M : sk_M}   {Q : Int32 → Prop} (h : w_X8_allWorth  M Q) : Ctr G mX8_allWorth 1 0 0 [.ref (G.2.2.1 140)] M (rI fun r9 M9 => Q r9 ∧ M9 = M) noX := by
  unfold w_X8_allWorth at h
  refine Ctr.of 2 (by decide) (Nat.le_of_ble_eq_true rfl) ?_
  show TJ G mX8_allWorth (sk_R 1 0 0) (sk_K G 0 0 (rI fun r9 M9 => Q r9 ∧ M9 = M) noX) 0 0 0 [some (.ref (G.2.2.1 140)), none, none] [] M
  refine T.iconst (q := 1) (0) dX8_allWorth_0 rfl (by decide) ?_
  refine T.ist_1 (q := 2) dX8_allWorth_1 rfl (by decide) sk_ok_r ?_
  refine T.iconst (q := 3) (0) dX8_allWorth_2 rfl (by decide) ?_
  refine T.ist_2 (q := 4) dX8_allWorth_3 rfl (by decide) sk_ok_i ?_
  exact tl_X8_allWorth_L4  (by decide) (by decide) _ ((0 : Int32), (0 : Int32)) h
theorem t_X8_count {G : sk_G} {M : sk_M} {a1 : Int32}  {Q : Int32 → sk_M → Prop} (h : w_X8_count a1 M Q) : Ctr G mX8_count 3 0 0 [.ref (G.2.2.1 140), .int a1] M (rI Q) noX := by
  unfold w_X8_count at h
  refine Ctr.of 0 (by decide) (Nat.le_of_ble_eq_true rfl) ?_
  show TJ G mX8_count (sk_R 3 0 0) (sk_K G 0 0 (rI Q) noX) 0 0 0 [some (.ref (G.2.2.1 140)), some (.int a1)] [] M
  refine T.ald_0 (q := 1) dX8_count_0 rfl ?_
  refine T.iconst (q := 2) (0) dX8_count_1 rfl (by decide) ?_
  refine p_X8_3 rfl dX8_count_2 (q := 5) rfl ?_
  refine S.mem h ?_
  intro M2 h
  refine T.ild_1 (q := 6) dX8_count_5 rfl ?_
  by_cases e4 : a1 = 4
  · replace h := s_t e4 h
    refine T.swIn (tgt := 56) (off := 50) dX8_count_6 (by rw [e4]; decide) (by rw [e4]; decide) (by rw [e4]; rfl) (by decide) ?_
    refine T.ald_0 (q := 57) dX8_count_56 rfl ?_
    refine g_X8_13 rfl dX8_count_57 (q := 60) rfl ?_
    refine T.iconst (q := 61) (4) dX8_count_60 rfl (by decide) ?_
    refine T.ialdk (n := 2260) rfl rfl (by decide) dX8_count_61 (q := 62) rfl (k9 := 4) (by decide) ?_
    refine T.iconst (q := 63) (1) dX8_count_62 rfl (by decide) ?_
    refine T.ic_ne (tgt := 77) (q := 66) dX8_count_63 (by decide) rfl (fun h63 => ?_) (fun h63 => ?_)
    · replace h := s_f h63 h
      refine T.iconst (q := 78) (-1) dX8_count_77 rfl (by decide) ?_
      exact T.retI rfl dX8_count_78 (by decide) (by decide) h
    · replace h := s_t h63 h
      refine T.ald_0 (q := 67) dX8_count_66 rfl ?_
      refine g_X8_13 rfl dX8_count_67 (q := 70) rfl ?_
      refine T.sipush (q := 73) (562) dX8_count_70 rfl (by decide) ?_
      refine T.ialdk (n := 2260) rfl rfl (by decide) dX8_count_73 (q := 74) rfl (k9 := 562) (by decide) ?_
      refine T.goto (tgt := 78) dX8_count_74 (by decide) ?_
      exact T.retI rfl dX8_count_78 (by decide) (by decide) h
  replace h := s_f e4 h
  by_cases e5 : a1 = 5
  · replace h := s_t e5 h
    refine T.swIn (tgt := 115) (off := 109) dX8_count_6 (by rw [e5]; decide) (by rw [e5]; decide) (by rw [e5]; rfl) (by decide) ?_
    refine T.ild_1 (q := 116) dX8_count_115 rfl ?_
    refine T.iconst (q := 117) (0) dX8_count_116 rfl (by decide) ?_
    refine T.bipush (q := 119) (6) dX8_count_117 rfl (by decide) ?_
    refine k_X8_85 rfl dX8_count_119 (q := 122) rfl (by decide) (by decide) (by decide) (Nat.le_of_ble_eq_true rfl) (t_X8_in (P := fun r9 => r9 = (f_X8_in a1 (0 : Int32) (6 : Int32))) rfl) ?_
    rintro _ _ ⟨rfl, h9⟩
    obtain rfl := h9.symm
    refine T.if_eq (tgt := 134) (q := 125) dX8_count_122 (by decide) rfl (fun h122 => ?_) (fun h122 => ?_)
    · replace h := s_f (fun q => q h122) h
      refine T.iconst (q := 135) (-1) dX8_count_134 rfl (by decide) ?_
      exact T.retI rfl dX8_count_135 (by decide) (by decide) h
    · replace h := s_t h122 h
      refine T.ald_0 (q := 126) dX8_count_125 rfl ?_
      refine g_X8_13 rfl dX8_count_126 (q := 129) rfl ?_
      refine T.ild_1 (q := 130) dX8_count_129 rfl ?_
      refine T.iald (n := 2260) rfl rfl (by decide) dX8_count_130 (q := 131) rfl h.1 ?_
      replace h := h.2
      refine T.goto (tgt := 135) dX8_count_131 (by decide) ?_
      exact T.retI rfl dX8_count_135 (by decide) (by decide) h
  replace h := s_f e5 h
  by_cases e6 : a1 = 6
  · replace h := s_t e6 h
    refine T.swIn (tgt := 115) (off := 109) dX8_count_6 (by rw [e6]; decide) (by rw [e6]; decide) (by rw [e6]; rfl) (by decide) ?_
    refine T.ild_1 (q := 116) dX8_count_115 rfl ?_
    refine T.iconst (q := 117) (0) dX8_count_116 rfl (by decide) ?_
    refine T.bipush (q := 119) (6) dX8_count_117 rfl (by decide) ?_
    refine k_X8_85 rfl dX8_count_119 (q := 122) rfl (by decide) (by decide) (by decide) (Nat.le_of_ble_eq_true rfl) (t_X8_in (P := fun r9 => r9 = (f_X8_in a1 (0 : Int32) (6 : Int32))) rfl) ?_
    rintro _ _ ⟨rfl, h9⟩
    obtain rfl := h9.symm
    refine T.if_eq (tgt := 134) (q := 125) dX8_count_122 (by decide) rfl (fun h122 => ?_) (fun h122 => ?_)
    · replace h := s_f (fun q => q h122) h
      refine T.iconst (q := 135) (-1) dX8_count_134 rfl (by decide) ?_
      exact T.retI rfl dX8_count_135 (by decide) (by decide) h
    · replace h := s_t h122 h
      refine T.ald_0 (q := 126) dX8_count_125 rfl ?_
      refine g_X8_13 rfl dX8_count_126 (q := 129) rfl ?_
      refine T.ild_1 (q := 130) dX8_count_129 rfl ?_
      refine T.iald (n := 2260) rfl rfl (by decide) dX8_count_130 (q := 131) rfl h.1 ?_
      replace h := h.2
      refine T.goto (tgt := 135) dX8_count_131 (by decide) ?_
      exact T.retI rfl dX8_count_135 (by decide) (by decide) h
  replace h := s_f e6 h
  by_cases e7 : a1 = 7
  · replace h := s_t e7 h
    refine T.swIn (tgt := 79) (off := 73) dX8_count_6 (by rw [e7]; decide) (by rw [e7]; decide) (by rw [e7]; rfl) (by decide) ?_
    refine T.ald_0 (q := 80) dX8_count_79 rfl ?_
    refine k_X8_443 rfl dX8_count_80 (q := 83) rfl (by decide) (by decide) (by decide) (Nat.le_of_ble_eq_true rfl) (t_X8_openedOnes  h) ?_
    rintro r80 _ ⟨h, h9⟩
    obtain rfl := h9.symm
    exact T.retI rfl dX8_count_83 (by decide) (by decide) h
  replace h := s_f e7 h
  by_cases e8 : a1 = 8
  · replace h := s_t e8 h
    refine T.swIn (tgt := 84) (off := 78) dX8_count_6 (by rw [e8]; decide) (by rw [e8]; decide) (by rw [e8]; rfl) (by decide) ?_
    refine T.ald_0 (q := 85) dX8_count_84 rfl ?_
    refine k_X8_446 rfl dX8_count_85 (q := 88) rfl (by decide) (by decide) (by decide) (Nat.le_of_ble_eq_true rfl) (t_X8_guardedOnes  h) ?_
    rintro r85 _ ⟨h, h9⟩
    obtain rfl := h9.symm
    exact T.retI rfl dX8_count_88 (by decide) (by decide) h
  replace h := s_f e8 h
  by_cases e9 : a1 = 9
  · replace h := s_t e9 h
    refine T.swIn (tgt := 89) (off := 83) dX8_count_6 (by rw [e9]; decide) (by rw [e9]; decide) (by rw [e9]; rfl) (by decide) ?_
    refine T.ald_0 (q := 90) dX8_count_89 rfl ?_
    refine g_X8_13 rfl dX8_count_90 (q := 93) rfl ?_
    refine T.bipush (q := 95) (8) dX8_count_93 rfl (by decide) ?_
    refine T.ialdk (n := 2260) rfl rfl (by decide) dX8_count_95 (q := 96) rfl (k9 := 8) (by decide) ?_
    exact T.retI rfl dX8_count_96 (by decide) (by decide) h
  replace h := s_f e9 h
  by_cases e10 : a1 = 10
  · replace h := s_t e10 h
    refine T.swIn (tgt := 97) (off := 91) dX8_count_6 (by rw [e10]; decide) (by rw [e10]; decide) (by rw [e10]; rfl) (by decide) ?_
    refine T.ald_0 (q := 98) dX8_count_97 rfl ?_
    refine g_X8_13 rfl dX8_count_98 (q := 101) rfl ?_
    refine T.bipush (q := 103) (7) dX8_count_101 rfl (by decide) ?_
    refine T.ialdk (n := 2260) rfl rfl (by decide) dX8_count_103 (q := 104) rfl (k9 := 7) (by decide) ?_
    exact T.retI rfl dX8_count_104 (by decide) (by decide) h
  replace h := s_f e10 h
  by_cases e11 : a1 = 11
  · replace h := s_t e11 h
    refine T.swIn (tgt := 105) (off := 99) dX8_count_6 (by rw [e11]; decide) (by rw [e11]; decide) (by rw [e11]; rfl) (by decide) ?_
    refine T.ald_0 (q := 106) dX8_count_105 rfl ?_
    refine k_X8_449 rfl dX8_count_106 (q := 109) rfl (by decide) (by decide) (by decide) (Nat.le_of_ble_eq_true rfl) (t_X8_allWorth  h) ?_
    rintro r106 _ ⟨h, h9⟩
    obtain rfl := h9.symm
    exact T.retI rfl dX8_count_109 (by decide) (by decide) h
  replace h := s_f e11 h
  by_cases e12 : a1 = 12
  · replace h := s_t e12 h
    refine T.swIn (tgt := 110) (off := 104) dX8_count_6 (by rw [e12]; decide) (by rw [e12]; decide) (by rw [e12]; rfl) (by decide) ?_
    refine T.ald_0 (q := 111) dX8_count_110 rfl ?_
    refine g_X8_78 rfl dX8_count_111 (q := 114) rfl ?_
    exact T.retI rfl dX8_count_114 (by decide) (by decide) h
  replace h := s_f e12 h
  refine T.swOut (tgt := 115) dX8_count_6 (sw_4_12 e4 e5 e6 e7 e8 e9 e10 e11 e12) (by decide) ?_
  refine T.ild_1 (q := 116) dX8_count_115 rfl ?_
  refine T.iconst (q := 117) (0) dX8_count_116 rfl (by decide) ?_
  refine T.bipush (q := 119) (6) dX8_count_117 rfl (by decide) ?_
  refine k_X8_85 rfl dX8_count_119 (q := 122) rfl (by decide) (by decide) (by decide) (Nat.le_of_ble_eq_true rfl) (t_X8_in (P := fun r9 => r9 = (f_X8_in a1 (0 : Int32) (6 : Int32))) rfl) ?_
  rintro _ _ ⟨rfl, h9⟩
  obtain rfl := h9.symm
  refine T.if_eq (tgt := 134) (q := 125) dX8_count_122 (by decide) rfl (fun h122 => ?_) (fun h122 => ?_)
  · replace h := s_f (fun q => q h122) h
    refine T.iconst (q := 135) (-1) dX8_count_134 rfl (by decide) ?_
    exact T.retI rfl dX8_count_135 (by decide) (by decide) h
  · replace h := s_t h122 h
    refine T.ald_0 (q := 126) dX8_count_125 rfl ?_
    refine g_X8_13 rfl dX8_count_126 (q := 129) rfl ?_
    refine T.ild_1 (q := 130) dX8_count_129 rfl ?_
    refine T.iald (n := 2260) rfl rfl (by decide) dX8_count_130 (q := 131) rfl h.1 ?_
    replace h := h.2
    refine T.goto (tgt := 135) dX8_count_131 (by decide) ?_
    exact T.retI rfl dX8_count_135 (by decide) (by decide) h
