/-! the reference, decompiled -/
theorem tl_X8_hears_L33 {G : sk_G} {cells slots : Nat} {a1 : Int32} {a2 : Int32} {a3 : Int32} {s15_7 : Int32} {r25 : Int32} {Q : Int32 → sk_M → Prop}  (hc0 : cells ≤ 0) (hs0 : slots ≤ 0) : ∀ (F : Nat) (s33 : Int32 × sk_M), lp (w_X8_hears_L33 a1 a2 a3 s15_7 r25 Q) F s33 → TJ G mX8_hears (sk_R 2 0 0) (sk_K G 0 0 (rI Q) noX) cells slots 33 [some (.ref (G.2.2.1 140)), some (.int a1), some (.int a2), some (.int a3), some (.int s15_7), some (.int r25), some (.int s33.1)] [] s33.2 := by
  refine lp_sound (fun c hc9 s33 h => ?_)
  unfold w_X8_hears_L33 at h
  refine T.ild_6 (q := 35) dX8_hears_33 rfl ?_
  refine T.sipush (q := 38) (216) dX8_hears_35 rfl (by decide) ?_
  refine T.ic_ge (tgt := 87) (q := 41) dX8_hears_38 (by decide) rfl (fun h38 => ?_) (fun h38 => ?_)
  · replace h := s_f (fun q => q h38) h
    refine T.ild_4 (q := 89) dX8_hears_87 rfl ?_
    exact T.retZ rfl dX8_hears_89 hc0 hs0 (nz01 h.1) h.2
  · replace h := s_t h38 h
    refine T.ild_4 (q := 43) dX8_hears_41 rfl ?_
    refine s_join (fun s73_43 : Int32 => TJ G mX8_hears (sk_R 2 0 0) (sk_K G 0 0 (rI Q) noX) cells slots 73 [some (.ref (G.2.2.1 140)), some (.int a1), some (.int a2), some (.int a3), some (.int s15_7), some (.int r25), some (.int s73_43)] [] s33.2) h (fun s73_43 h => ?_) (fun j73_43 hj73_43 h => ?_)
    · refine T.ald_0 (q := 74) dX8_hears_73 rfl ?_
      refine T.ild_1 (q := 75) dX8_hears_74 rfl ?_
      refine T.ild_2 (q := 76) dX8_hears_75 rfl ?_
      refine T.ild_6 (q := 78) dX8_hears_76 rfl ?_
      refine k_X8_360 rfl dX8_hears_78 (q := 81) rfl (by decide) hc0 hs0 (Nat.le_of_ble_eq_true rfl) (t_X8_isNot  h) ?_
      intro M78 h
      refine T.inc_6 (q := 84) (1) dX8_hears_81 rfl (by decide) (by decide) sk_ok_i ?_
      refine T.goto (tgt := 33) dX8_hears_84 (by decide) ?_
      exact hc9 ((s73_43 + (1 : Int32)), M78) h
    · refine T.if_eq (tgt := 55) (q := 46) dX8_hears_43 (by decide) rfl (fun h43 => ?_) (fun h43 => ?_)
      · replace h := s_f (fun q => q h43) h
        refine T.ild_6 (q := 57) dX8_hears_55 rfl ?_
        refine T.ild_3 (q := 58) dX8_hears_57 rfl ?_
        refine T.ic_eq (tgt := 73) (q := 61) dX8_hears_58 (by decide) rfl (fun h58 => ?_) (fun h58 => ?_)
        · replace h := s_f (fun q => q h58) h
          exact hj73_43 s33.1 h
        · replace h := s_t h58 h
          refine T.ald_0 (q := 62) dX8_hears_61 rfl ?_
          refine T.ild_3 (q := 63) dX8_hears_62 rfl ?_
          refine T.ild_6 (q := 65) dX8_hears_63 rfl ?_
          refine k_X8_317 rfl dX8_hears_65 (q := 68) rfl (by decide) hc0 hs0 (Nat.le_of_ble_eq_true rfl) (t_X8_soundOf  h) ?_
          rintro r65 _ ⟨h, h9⟩
          obtain rfl := h9.symm
          refine T.ild_5 (q := 70) dX8_hears_68 rfl ?_
          refine T.ic_eq (tgt := 81) (q := 73) dX8_hears_70 (by decide) rfl (fun h70 => ?_) (fun h70 => ?_)
          · replace h := s_f (fun q => q h70) h
            refine T.inc_6 (q := 84) (1) dX8_hears_81 rfl (by decide) (by decide) sk_ok_i ?_
            refine T.goto (tgt := 33) dX8_hears_84 (by decide) ?_
            exact hc9 ((s33.1 + (1 : Int32)), s33.2) h
          · replace h := s_t h70 h
            exact hj73_43 s33.1 h
      · replace h := s_t h43 h
        refine T.ild_6 (q := 48) dX8_hears_46 rfl ?_
        refine T.ild_3 (q := 49) dX8_hears_48 rfl ?_
        refine T.ic_eq (tgt := 81) (q := 52) dX8_hears_49 (by decide) rfl (fun h49 => ?_) (fun h49 => ?_)
        · replace h := s_f (fun q => q h49) h
          refine T.inc_6 (q := 84) (1) dX8_hears_81 rfl (by decide) (by decide) sk_ok_i ?_
          refine T.goto (tgt := 33) dX8_hears_84 (by decide) ?_
          exact hc9 ((s33.1 + (1 : Int32)), s33.2) h
        · replace h := s_t h49 h
          refine T.goto (tgt := 73) dX8_hears_52 (by decide) ?_
          exact hj73_43 s33.1 h
theorem t_X8_hears {G : sk_G} {M : sk_M} {a1 : Int32} {a2 : Int32} {a3 : Int32}  {Q : Int32 → sk_M → Prop} (h : w_X8_hears a1 a2 a3 M Q) : Ctr G mX8_hears 2 0 0 [.ref (G.2.2.1 140), .int a1, .int a2, .int a3] M (rI Q) noX := by
  unfold w_X8_hears at h
  refine Ctr.of 3 (by decide) (Nat.le_of_ble_eq_true rfl) ?_
  show TJ G mX8_hears (sk_R 2 0 0) (sk_K G 0 0 (rI Q) noX) 0 0 0 [some (.ref (G.2.2.1 140)), some (.int a1), some (.int a2), some (.int a3), none, none, none] [] M
  refine T.ild_3 (q := 1) dX8_hears_0 rfl ?_
  refine T.ald_0 (q := 2) dX8_hears_1 rfl ?_
  refine T.ild_2 (q := 3) dX8_hears_2 rfl ?_
  refine T.iconst (q := 4) (0) dX8_hears_3 rfl (by decide) ?_
  refine k_X8_167 rfl dX8_hears_4 (q := 7) rfl (by decide) (by decide) (by decide) (Nat.le_of_ble_eq_true rfl) (t_X8_of  h) ?_
  rintro r4 _ ⟨h, h9⟩
  obtain rfl := h9.symm
  refine s_dia (fun s15_7 : Int32 => TJ G mX8_hears (sk_R 2 0 0) (sk_K G 0 0 (rI Q) noX) 0 0 15 [some (.ref (G.2.2.1 140)), some (.int a1), some (.int a2), some (.int a3), none, none, none] [.int s15_7] M) h (fun s15_7 h => ?_) (fun k9 hJ9 h => ?_)
  · refine T.ist_4 (q := 17) dX8_hears_15 rfl (by decide) sk_ok_i ?_
    refine T.ald_0 (q := 18) dX8_hears_17 rfl ?_
    refine T.ild_3 (q := 19) dX8_hears_18 rfl ?_
    refine T.ald_0 (q := 20) dX8_hears_19 rfl ?_
    refine T.ild_2 (q := 21) dX8_hears_20 rfl ?_
    refine T.iconst (q := 22) (0) dX8_hears_21 rfl (by decide) ?_
    refine k_X8_167 rfl dX8_hears_22 (q := 25) rfl (by decide) (by decide) (by decide) (Nat.le_of_ble_eq_true rfl) (t_X8_of  h) ?_
    rintro r22 _ ⟨h, h9⟩
    obtain rfl := h9.symm
    refine k_X8_317 rfl dX8_hears_25 (q := 28) rfl (by decide) (by decide) (by decide) (Nat.le_of_ble_eq_true rfl) (t_X8_soundOf  h) ?_
    rintro r25 _ ⟨h, h9⟩
    obtain rfl := h9.symm
    refine T.ist_5 (q := 30) dX8_hears_28 rfl (by decide) sk_ok_i ?_
    refine T.iconst (q := 31) (0) dX8_hears_30 rfl (by decide) ?_
    refine T.ist_6 (q := 33) dX8_hears_31 rfl (by decide) sk_ok_i ?_
    exact tl_X8_hears_L33  (by decide) (by decide) _ ((0 : Int32), M) h
  · refine T.ic_ne (tgt := 14) (q := 10) dX8_hears_7 (by decide) rfl (fun h7 => ?_) (fun h7 => ?_)
    · replace h := s_fk h7 h
      refine T.iconst (q := 15) (0) dX8_hears_14 rfl (by decide) ?_
      exact hJ9 _ h
    · replace h := s_tk h7 h
      refine T.iconst (q := 11) (1) dX8_hears_10 rfl (by decide) ?_
      refine T.goto (tgt := 15) dX8_hears_11 (by decide) ?_
      exact hJ9 _ h
theorem t_X8_isAlone {G : sk_G} {M : sk_M} {a1 : Int32} {a2 : Int32} {a3 : Int32}  {Q : sk_M → Prop} (h : w_X8_isAlone a1 a2 a3 M Q) : Ctr G mX8_isAlone 1 0 0 [.ref (G.2.2.1 140), .int a1, .int a2, .int a3] M (rV Q) noX := by
  unfold w_X8_isAlone at h
  refine Ctr.of 0 (by decide) (Nat.le_of_ble_eq_true rfl) ?_
  show TJ G mX8_isAlone (sk_R 1 0 0) (sk_K G 0 0 (rV Q) noX) 0 0 0 [some (.ref (G.2.2.1 140)), some (.int a1), some (.int a2), some (.int a3)] [] M
  refine T.ald_0 (q := 1) dX8_isAlone_0 rfl ?_
  refine g_X8_29 rfl dX8_isAlone_1 (q := 4) rfl ?_
  refine T.ild_1 (q := 5) dX8_isAlone_4 rfl ?_
  refine T.ild_2 (q := 6) dX8_isAlone_5 rfl ?_
  refine k_X8_93 rfl dX8_isAlone_6 (q := 9) rfl (by decide) (by decide) (by decide) (Nat.le_of_ble_eq_true rfl) (t_X8_at (P := fun r9 => r9 = (f_X8_at a1 a2)) rfl) ?_
  rintro _ _ ⟨rfl, h9⟩
  obtain rfl := h9.symm
  refine T.ild_3 (q := 10) dX8_isAlone_9 rfl ?_
  refine T.bipush (q := 12) (64) dX8_isAlone_10 rfl (by decide) ?_
  refine T.idiv (q := 13) dX8_isAlone_12 rfl (by decide) ?_
  refine T.iadd (q := 14) dX8_isAlone_13 rfl ?_
  refine T.dup2 (q := 15) dX8_isAlone_14 rfl rfl rfl ?_
  refine T.lald (n := 144) rfl rfl (by decide) dX8_isAlone_15 (q := 16) rfl h.1 ?_
  replace h := h.2
  refine T.lconst (q := 17) (1) dX8_isAlone_16 rfl (by decide) ?_
  refine T.ild_3 (q := 18) dX8_isAlone_17 rfl ?_
  refine T.bipush (q := 20) (64) dX8_isAlone_18 rfl (by decide) ?_
  refine T.irem (q := 21) dX8_isAlone_20 rfl (by decide) ?_
  refine T.lshl (q := 22) dX8_isAlone_21 rfl ?_
  refine T.lor (q := 23) dX8_isAlone_22 rfl ?_
  refine T.last (n := 144) rfl rfl (by decide) dX8_isAlone_23 (q := 24) rfl h.1 ?_
  refine S.mem h.2 ?_
  intro M23 h
  exact T.retV rfl dX8_isAlone_24 (by decide) (by decide) h
theorem t_X8_turn {G : sk_G} {M : sk_M} {a1 : Int32} {a2 : Int32} {a3 : Int32}  {Q : Int32 → sk_M → Prop} (h : w_X8_turn a1 a2 a3 M Q) : Ctr G mX8_turn 6 0 0 [.ref (G.2.2.1 140), .int a1, .int a2, .int a3] M (rI Q) noX := by
  unfold w_X8_turn at h
  refine Ctr.of 2 (by decide) (Nat.le_of_ble_eq_true rfl) ?_
  show TJ G mX8_turn (sk_R 6 0 0) (sk_K G 0 0 (rI Q) noX) 0 0 0 [some (.ref (G.2.2.1 140)), some (.int a1), some (.int a2), some (.int a3), none, none] [] M
  refine T.ald_0 (q := 1) dX8_turn_0 rfl ?_
  refine T.iconst (q := 2) (0) dX8_turn_1 rfl (by decide) ?_
  refine p_X8_3 rfl dX8_turn_2 (q := 5) rfl ?_
  refine S.mem h ?_
  intro M2 h
  refine T.ald_0 (q := 6) dX8_turn_5 rfl ?_
  refine T.ald_0 (q := 7) dX8_turn_6 rfl ?_
  refine T.ild_1 (q := 8) dX8_turn_7 rfl ?_
  refine k_X8_342 rfl dX8_turn_8 (q := 11) rfl (by decide) (by decide) (by decide) (Nat.le_of_ble_eq_true rfl) (t_X8_noPerson (P := fun r9 => r9 = (f_X8_noPerson a1 M2)) rfl) ?_
  rintro _ _ ⟨rfl, h9⟩
  obtain rfl := h9.symm
  refine s_dia (fun s34_11 : Int32 => TJ G mX8_turn (sk_R 6 0 0) (sk_K G 0 0 (rI Q) noX) 0 0 34 [some (.ref (G.2.2.1 140)), some (.int a1), some (.int a2), some (.int a3), none, none] [.int s34_11, .ref (G.2.2.1 140)] M2) h (fun s34_11 h => ?_) (fun k9 hJ9 h => ?_)
  · refine T.iconst (q := 35) (1) dX8_turn_34 rfl (by decide) ?_
    refine k_X8_281 rfl dX8_turn_35 (q := 38) rfl (by decide) (by decide) (by decide) (Nat.le_of_ble_eq_true rfl) (t_X8_throwsIf  h) ?_
    intro r35 M35 h
    refine T.if_ne (tgt := 60) (q := 41) dX8_turn_38 (by decide) rfl (fun h38 => ?_) (fun h38 => ?_)
    · replace h := s_f h38 h
      refine T.iconst (q := 61) (0) dX8_turn_60 rfl (by decide) ?_
      exact T.retI rfl dX8_turn_61 (by decide) (by decide) h
    · replace h := s_t h38 h
      refine T.ald_0 (q := 42) dX8_turn_41 rfl ?_
      refine T.ald_0 (q := 43) dX8_turn_42 rfl ?_
      refine T.ild_2 (q := 44) dX8_turn_43 rfl ?_
      refine T.ald_0 (q := 45) dX8_turn_44 rfl ?_
      refine g_X8_13 rfl dX8_turn_45 (q := 48) rfl ?_
      refine T.iconst (q := 49) (5) dX8_turn_48 rfl (by decide) ?_
      refine T.ialdk (n := 2260) rfl rfl (by decide) dX8_turn_49 (q := 50) rfl (k9 := 5) (by decide) ?_
      refine k_X8_323 rfl dX8_turn_50 (q := 53) rfl (by decide) (by decide) (by decide) (Nat.le_of_ble_eq_true rfl) (t_X8_isGuarded  h) ?_
      rintro r50 _ ⟨h, h9⟩
      obtain rfl := h9.symm
      refine T.iconst (q := 54) (2) dX8_turn_53 rfl (by decide) ?_
      refine k_X8_281 rfl dX8_turn_54 (q := 57) rfl (by decide) (by decide) (by decide) (Nat.le_of_ble_eq_true rfl) (t_X8_throwsIf  h) ?_
      intro r54 M54 h
      refine T.if_eq (tgt := 62) (q := 60) dX8_turn_57 (by decide) rfl (fun h57 => ?_) (fun h57 => ?_)
      · replace h := s_f (fun q => q h57) h
        refine T.ald_0 (q := 63) dX8_turn_62 rfl ?_
        refine k_X8_363 rfl dX8_turn_63 (q := 66) rfl (by decide) (by decide) (by decide) (Nat.le_of_ble_eq_true rfl) (t_X8_remembers  h) ?_
        intro M63 h
        refine T.ald_0 (q := 67) dX8_turn_66 rfl ?_
        refine k_X8_314 rfl dX8_turn_67 (q := 70) rfl (by decide) (by decide) (by decide) (Nat.le_of_ble_eq_true rfl) (t_X8_laysClicks  h) ?_
        intro M67 h
        refine T.ald_0 (q := 71) dX8_turn_70 rfl ?_
        refine T.ild_3 (q := 72) dX8_turn_71 rfl ?_
        refine T.ald_0 (q := 73) dX8_turn_72 rfl ?_
        refine T.ild_2 (q := 74) dX8_turn_73 rfl ?_
        refine T.iconst (q := 75) (0) dX8_turn_74 rfl (by decide) ?_
        refine k_X8_167 rfl dX8_turn_75 (q := 78) rfl (by decide) (by decide) (by decide) (Nat.le_of_ble_eq_true rfl) (t_X8_of  h) ?_
        rintro r75 _ ⟨h, h9⟩
        obtain rfl := h9.symm
        refine k_X8_317 rfl dX8_turn_78 (q := 81) rfl (by decide) (by decide) (by decide) (Nat.le_of_ble_eq_true rfl) (t_X8_soundOf  h) ?_
        rintro r78 _ ⟨h, h9⟩
        obtain rfl := h9.symm
        refine T.ist_4 (q := 83) dX8_turn_81 rfl (by decide) sk_ok_i ?_
        refine T.ald_0 (q := 84) dX8_turn_83 rfl ?_
        refine T.ild_1 (q := 85) dX8_turn_84 rfl ?_
        refine T.ild_2 (q := 86) dX8_turn_85 rfl ?_
        refine T.ild_3 (q := 87) dX8_turn_86 rfl ?_
        refine k_X8_366 rfl dX8_turn_87 (q := 90) rfl (by decide) (by decide) (by decide) (Nat.le_of_ble_eq_true rfl) (t_X8_hears  h) ?_
        intro r87 M87 h
        refine T.ist_5 (q := 92) dX8_turn_90 rfl (by decide) sk_ok_i ?_
        refine T.ild_5 (q := 94) dX8_turn_92 rfl ?_
        refine s_join (fun s104_94 : sk_M => TJ G mX8_turn (sk_R 6 0 0) (sk_K G 0 0 (rI Q) noX) 0 0 104 [some (.ref (G.2.2.1 140)), some (.int a1), some (.int a2), some (.int a3), some (.int r78), some (.int r87)] [] s104_94) h (fun s104_94 h => ?_) (fun j104_94 hj104_94 h => ?_)
        · refine T.ild_5 (q := 106) dX8_turn_104 rfl ?_
          refine s_join (fun s116_106 : sk_M => TJ G mX8_turn (sk_R 6 0 0) (sk_K G 0 0 (rI Q) noX) 0 0 116 [some (.ref (G.2.2.1 140)), some (.int a1), some (.int a2), some (.int a3), some (.int r78), some (.int r87)] [] s116_106) h (fun s116_106 h => ?_) (fun j116_106 hj116_106 h => ?_)
          · refine T.ald_0 (q := 117) dX8_turn_116 rfl ?_
            refine T.ild_1 (q := 118) dX8_turn_117 rfl ?_
            refine T.ild_2 (q := 119) dX8_turn_118 rfl ?_
            refine T.ild_3 (q := 120) dX8_turn_119 rfl ?_
            refine T.ild_4 (q := 122) dX8_turn_120 rfl ?_
            refine T.ild_5 (q := 124) dX8_turn_122 rfl ?_
            refine k_X8_372 rfl dX8_turn_124 (q := 127) rfl (by decide) (by decide) (by decide) (Nat.le_of_ble_eq_true rfl) (t_X8_tells  h) ?_
            intro M124 h
            refine T.ild_4 (q := 129) dX8_turn_127 rfl ?_
            exact T.retI rfl dX8_turn_129 (by decide) (by decide) h
          · refine T.if_eq (tgt := 116) (q := 109) dX8_turn_106 (by decide) rfl (fun h106 => ?_) (fun h106 => ?_)
            · replace h := s_f (fun q => q h106) h
              exact hj116_106 s104_94 h
            · replace h := s_t h106 h
              refine T.ald_0 (q := 110) dX8_turn_109 rfl ?_
              refine T.ild_2 (q := 111) dX8_turn_110 rfl ?_
              refine T.iconst (q := 112) (3) dX8_turn_111 rfl (by decide) ?_
              refine T.iconst (q := 113) (1) dX8_turn_112 rfl (by decide) ?_
              refine k_X8_158 rfl dX8_turn_113 (q := 116) rfl (by decide) (by decide) (by decide) (Nat.le_of_ble_eq_true rfl) (t_X8_sets  h) ?_
              intro M113 h
              exact hj116_106 M113 h
        · refine T.if_eq (tgt := 104) (q := 97) dX8_turn_94 (by decide) rfl (fun h94 => ?_) (fun h94 => ?_)
          · replace h := s_f (fun q => q h94) h
            exact hj104_94 M87 h
          · replace h := s_t h94 h
            refine T.ald_0 (q := 98) dX8_turn_97 rfl ?_
            refine T.ild_1 (q := 99) dX8_turn_98 rfl ?_
            refine T.ild_2 (q := 100) dX8_turn_99 rfl ?_
            refine T.ild_3 (q := 101) dX8_turn_100 rfl ?_
            refine k_X8_369 rfl dX8_turn_101 (q := 104) rfl (by decide) (by decide) (by decide) (Nat.le_of_ble_eq_true rfl) (t_X8_isAlone  h) ?_
            intro M101 h
            exact hj104_94 M101 h
      · replace h := s_t h57 h
        refine T.iconst (q := 61) (0) dX8_turn_60 rfl (by decide) ?_
        exact T.retI rfl dX8_turn_61 (by decide) (by decide) h
  · refine T.if_ne (tgt := 29) (q := 14) dX8_turn_11 (by decide) rfl (fun h11 => ?_) (fun h11 => ?_)
    · replace h := s_tk (Or.inl h11) h
      refine T.iconst (q := 30) (1) dX8_turn_29 rfl (by decide) ?_
      refine T.goto (tgt := 34) dX8_turn_30 (by decide) ?_
      exact hJ9 _ h
    · refine T.ald_0 (q := 15) dX8_turn_14 rfl ?_
      refine T.ild_2 (q := 16) dX8_turn_15 rfl ?_
      refine k_X8_329 rfl dX8_turn_16 (q := 19) rfl (by decide) (by decide) (by decide) (Nat.le_of_ble_eq_true rfl) (t_X8_noVault (P := fun r9 => r9 = (f_X8_noVault a2 M2)) rfl) ?_
      rintro _ _ ⟨rfl, h9⟩
      obtain rfl := h9.symm
      refine T.if_ne (tgt := 29) (q := 22) dX8_turn_19 (by decide) rfl (fun h19 => ?_) (fun h19 => ?_)
      · replace h := s_tk (Or.inr (Or.inl h19)) h
        refine T.iconst (q := 30) (1) dX8_turn_29 rfl (by decide) ?_
        refine T.goto (tgt := 34) dX8_turn_30 (by decide) ?_
        exact hJ9 _ h
      · refine T.ild_3 (q := 23) dX8_turn_22 rfl ?_
        refine k_X8_311 rfl dX8_turn_23 (q := 26) rfl (by decide) (by decide) (by decide) (Nat.le_of_ble_eq_true rfl) (t_X8_noCode (P := fun r9 => r9 = (f_X8_noCode a3)) rfl) ?_
        rintro _ _ ⟨rfl, h9⟩
        obtain rfl := h9.symm
        refine T.if_eq (tgt := 33) (q := 29) dX8_turn_26 (by decide) rfl (fun h26 => ?_) (fun h26 => ?_)
        · replace h := s_fk (fun q => q.elim (fun q => q h11) (fun q => q.elim (fun q => q h19) (fun q => q h26))) h
          refine T.iconst (q := 34) (0) dX8_turn_33 rfl (by decide) ?_
          exact hJ9 _ h
        · replace h := s_tk (Or.inr (Or.inr h26)) h
          refine T.iconst (q := 30) (1) dX8_turn_29 rfl (by decide) ?_
          refine T.goto (tgt := 34) dX8_turn_30 (by decide) ?_
          exact hJ9 _ h
theorem tl_X8_tell_L69 {G : sk_G} {cells slots : Nat} {a1 : Int32} {a2 : Int32} {a3 : Int32} {Q : Int32 → sk_M → Prop} {k110 : sk_M → Prop}  (hc0 : cells ≤ 0) (hs0 : slots ≤ 0) (hk110 : ∀ s110 : sk_M, k110 s110 → TJ G mX8_tell (sk_R 2 0 0) (sk_K G 0 0 (rI Q) noX) cells slots 110 [some (.ref (G.2.2.1 140)), none, some (.int a2), some (.int a3), none] [] s110) : ∀ (F : Nat) (s69 : Int32 × sk_M), lp (w_X8_tell_L69 a1 a2 a3 k110) F s69 → TJ G mX8_tell (sk_R 2 0 0) (sk_K G 0 0 (rI Q) noX) cells slots 69 [some (.ref (G.2.2.1 140)), some (.int a1), some (.int a2), some (.int a3), some (.int s69.1)] [] s69.2 := by
  refine lp_sound (fun c hc9 s69 h => ?_)
  unfold w_X8_tell_L69 at h
  refine T.ild_4 (q := 71) dX8_tell_69 rfl ?_
  refine T.iconst (q := 72) (4) dX8_tell_71 rfl (by decide) ?_
  refine T.ic_ge (tgt := 110) (q := 75) dX8_tell_72 (by decide) rfl (fun h72 => ?_) (fun h72 => ?_)
  · replace h := s_f (fun q => q h72) h
    refine T.drop_1 ?_
    refine T.drop_4 ?_
    exact hk110 s69.2 h
  · replace h := s_t h72 h
    refine T.ald_0 (q := 76) dX8_tell_75 rfl ?_
    refine g_X8_29 rfl dX8_tell_76 (q := 79) rfl ?_
    refine T.ild_2 (q := 80) dX8_tell_79 rfl ?_
    refine T.ild_3 (q := 81) dX8_tell_80 rfl ?_
    refine k_X8_93 rfl dX8_tell_81 (q := 84) rfl (by decide) hc0 hs0 (Nat.le_of_ble_eq_true rfl) (t_X8_at (P := fun r9 => r9 = (f_X8_at a2 a3)) rfl) ?_
    rintro _ _ ⟨rfl, h9⟩
    obtain rfl := h9.symm
    refine T.ild_4 (q := 86) dX8_tell_84 rfl ?_
    refine T.iadd (q := 87) dX8_tell_86 rfl ?_
    refine T.dup2 (q := 88) dX8_tell_87 rfl rfl rfl ?_
    refine T.lald (n := 144) rfl rfl (by decide) dX8_tell_88 (q := 89) rfl h.1 ?_
    replace h := h.2
    refine T.ald_0 (q := 90) dX8_tell_89 rfl ?_
    refine g_X8_29 rfl dX8_tell_90 (q := 93) rfl ?_
    refine T.ild_1 (q := 94) dX8_tell_93 rfl ?_
    refine T.ild_3 (q := 95) dX8_tell_94 rfl ?_
    refine k_X8_93 rfl dX8_tell_95 (q := 98) rfl (by decide) hc0 hs0 (Nat.le_of_ble_eq_true rfl) (t_X8_at (P := fun r9 => r9 = (f_X8_at a1 a3)) rfl) ?_
    rintro _ _ ⟨rfl, h9⟩
    obtain rfl := h9.symm
    refine T.ild_4 (q := 100) dX8_tell_98 rfl ?_
    refine T.iadd (q := 101) dX8_tell_100 rfl ?_
    refine T.lald (n := 144) rfl rfl (by decide) dX8_tell_101 (q := 102) rfl h.1 ?_
    replace h := h.2
    refine T.land (q := 103) dX8_tell_102 rfl ?_
    refine T.last (n := 144) rfl rfl (by decide) dX8_tell_103 (q := 104) rfl h.1 ?_
    refine S.mem h.2 ?_
    intro M103 h
    refine T.inc_4 (q := 107) (1) dX8_tell_104 rfl (by decide) (by decide) sk_ok_i ?_
    refine T.goto (tgt := 69) dX8_tell_107 (by decide) ?_
    exact hc9 ((s69.1 + (1 : Int32)), M103) h
theorem t_X8_tell {G : sk_G} {M : sk_M} {a1 : Int32} {a2 : Int32} {a3 : Int32}  {Q : Int32 → sk_M → Prop} (h : w_X8_tell a1 a2 a3 M Q) : Ctr G mX8_tell 2 0 0 [.ref (G.2.2.1 140), .int a1, .int a2, .int a3] M (rI Q) noX := by
  unfold w_X8_tell at h
  refine Ctr.of 1 (by decide) (Nat.le_of_ble_eq_true rfl) ?_
  show TJ G mX8_tell (sk_R 2 0 0) (sk_K G 0 0 (rI Q) noX) 0 0 0 [some (.ref (G.2.2.1 140)), some (.int a1), some (.int a2), some (.int a3), none] [] M
  refine T.ald_0 (q := 1) dX8_tell_0 rfl ?_
  refine T.iconst (q := 2) (0) dX8_tell_1 rfl (by decide) ?_
  refine p_X8_3 rfl dX8_tell_2 (q := 5) rfl ?_
  refine S.mem h ?_
  intro M2 h
  refine T.ald_0 (q := 6) dX8_tell_5 rfl ?_
  refine T.ald_0 (q := 7) dX8_tell_6 rfl ?_
  refine T.ild_1 (q := 8) dX8_tell_7 rfl ?_
  refine k_X8_342 rfl dX8_tell_8 (q := 11) rfl (by decide) (by decide) (by decide) (Nat.le_of_ble_eq_true rfl) (t_X8_noPerson (P := fun r9 => r9 = (f_X8_noPerson a1 M2)) rfl) ?_
  rintro _ _ ⟨rfl, h9⟩
  obtain rfl := h9.symm
  refine s_dia (fun s35_11 : Int32 => TJ G mX8_tell (sk_R 2 0 0) (sk_K G 0 0 (rI Q) noX) 0 0 35 [some (.ref (G.2.2.1 140)), some (.int a1), some (.int a2), some (.int a3), none] [.int s35_11, .ref (G.2.2.1 140)] M2) h (fun s35_11 h => ?_) (fun k9 hJ9 h => ?_)
  · refine T.iconst (q := 36) (1) dX8_tell_35 rfl (by decide) ?_
    refine k_X8_281 rfl dX8_tell_36 (q := 39) rfl (by decide) (by decide) (by decide) (Nat.le_of_ble_eq_true rfl) (t_X8_throwsIf  h) ?_
    intro r36 M36 h
    refine T.if_ne (tgt := 60) (q := 42) dX8_tell_39 (by decide) rfl (fun h39 => ?_) (fun h39 => ?_)
    · replace h := s_f h39 h
      refine T.iconst (q := 61) (0) dX8_tell_60 rfl (by decide) ?_
      exact T.retI rfl dX8_tell_61 (by decide) (by decide) h
    · replace h := s_t h39 h
      refine T.ald_0 (q := 43) dX8_tell_42 rfl ?_
      refine T.ild_1 (q := 44) dX8_tell_43 rfl ?_
      refine T.ild_2 (q := 45) dX8_tell_44 rfl ?_
      refine s_dia (fun s53_45 : Int32 => TJ G mX8_tell (sk_R 2 0 0) (sk_K G 0 0 (rI Q) noX) 0 0 53 [some (.ref (G.2.2.1 140)), some (.int a1), some (.int a2), some (.int a3), none] [.int s53_45, .ref (G.2.2.1 140)] M36) h (fun s53_45 h => ?_) (fun k9 hJ9 h => ?_)
      · refine T.iconst (q := 54) (2) dX8_tell_53 rfl (by decide) ?_
        refine k_X8_281 rfl dX8_tell_54 (q := 57) rfl (by decide) (by decide) (by decide) (Nat.le_of_ble_eq_true rfl) (t_X8_throwsIf  h) ?_
        intro r54 M54 h
        refine T.if_eq (tgt := 62) (q := 60) dX8_tell_57 (by decide) rfl (fun h57 => ?_) (fun h57 => ?_)
        · replace h := s_f (fun q => q h57) h
          refine T.ald_0 (q := 63) dX8_tell_62 rfl ?_
          refine k_X8_363 rfl dX8_tell_63 (q := 66) rfl (by decide) (by decide) (by decide) (Nat.le_of_ble_eq_true rfl) (t_X8_remembers  h) ?_
          intro M63 h
          refine T.iconst (q := 67) (0) dX8_tell_66 rfl (by decide) ?_
          refine T.ist_4 (q := 69) dX8_tell_67 rfl (by decide) sk_ok_i ?_
          refine tl_X8_tell_L69  (by decide) (by decide) ?_ _ ((0 : Int32), M63) h
          intro s110 h
          refine T.ald_0 (q := 111) dX8_tell_110 rfl ?_
          refine T.ild_2 (q := 112) dX8_tell_111 rfl ?_
          refine T.ild_3 (q := 113) dX8_tell_112 rfl ?_
          refine k_X8_345 rfl dX8_tell_113 (q := 116) rfl (by decide) (by decide) (by decide) (Nat.le_of_ble_eq_true rfl) (t_X8_leftOf  h) ?_
          rintro r113 _ ⟨h, h9⟩
          obtain rfl := h9.symm
          exact T.retI rfl dX8_tell_116 (by decide) (by decide) h
        · replace h := s_t h57 h
          refine T.iconst (q := 61) (0) dX8_tell_60 rfl (by decide) ?_
          exact T.retI rfl dX8_tell_61 (by decide) (by decide) h
      · refine T.ic_ne (tgt := 52) (q := 48) dX8_tell_45 (by decide) rfl (fun h45 => ?_) (fun h45 => ?_)
        · replace h := s_fk h45 h
          refine T.iconst (q := 53) (0) dX8_tell_52 rfl (by decide) ?_
          exact hJ9 _ h
        · replace h := s_tk h45 h
          refine T.iconst (q := 49) (1) dX8_tell_48 rfl (by decide) ?_
          refine T.goto (tgt := 53) dX8_tell_49 (by decide) ?_
          exact hJ9 _ h
  · refine T.if_ne (tgt := 30) (q := 14) dX8_tell_11 (by decide) rfl (fun h11 => ?_) (fun h11 => ?_)
    · replace h := s_tk (Or.inl h11) h
      refine T.iconst (q := 31) (1) dX8_tell_30 rfl (by decide) ?_
      refine T.goto (tgt := 35) dX8_tell_31 (by decide) ?_
      exact hJ9 _ h
    · refine T.ald_0 (q := 15) dX8_tell_14 rfl ?_
      refine T.ild_2 (q := 16) dX8_tell_15 rfl ?_
      refine k_X8_342 rfl dX8_tell_16 (q := 19) rfl (by decide) (by decide) (by decide) (Nat.le_of_ble_eq_true rfl) (t_X8_noPerson (P := fun r9 => r9 = (f_X8_noPerson a2 M2)) rfl) ?_
      rintro _ _ ⟨rfl, h9⟩
      obtain rfl := h9.symm
      refine T.if_ne (tgt := 30) (q := 22) dX8_tell_19 (by decide) rfl (fun h19 => ?_) (fun h19 => ?_)
      · replace h := s_tk (Or.inr (Or.inl h19)) h
        refine T.iconst (q := 31) (1) dX8_tell_30 rfl (by decide) ?_
        refine T.goto (tgt := 35) dX8_tell_31 (by decide) ?_
        exact hJ9 _ h
      · refine T.ald_0 (q := 23) dX8_tell_22 rfl ?_
        refine T.ild_3 (q := 24) dX8_tell_23 rfl ?_
        refine k_X8_329 rfl dX8_tell_24 (q := 27) rfl (by decide) (by decide) (by decide) (Nat.le_of_ble_eq_true rfl) (t_X8_noVault (P := fun r9 => r9 = (f_X8_noVault a3 M2)) rfl) ?_
        rintro _ _ ⟨rfl, h9⟩
        obtain rfl := h9.symm
        refine T.if_eq (tgt := 34) (q := 30) dX8_tell_27 (by decide) rfl (fun h27 => ?_) (fun h27 => ?_)
        · replace h := s_fk (fun q => q.elim (fun q => q h11) (fun q => q.elim (fun q => q h19) (fun q => q h27))) h
          refine T.iconst (q := 35) (0) dX8_tell_34 rfl (by decide) ?_
          exact hJ9 _ h
        · replace h := s_tk (Or.inr (Or.inr h27)) h
          refine T.iconst (q := 31) (1) dX8_tell_30 rfl (by decide) ?_
          refine T.goto (tgt := 35) dX8_tell_31 (by decide) ?_
          exact hJ9 _ h
theorem t_X8_forget {G : sk_G} {M : sk_M} {a1 : Int32} {a2 : Int32}  {Q : Int32 → sk_M → Prop} (h : w_X8_forget a1 a2 M Q) : Ctr G mX8_forget 2 0 0 [.ref (G.2.2.1 140), .int a1, .int a2] M (rI Q) noX := by
  unfold w_X8_forget at h
  refine Ctr.of 1 (by decide) (Nat.le_of_ble_eq_true rfl) ?_
  show TJ G mX8_forget (sk_R 2 0 0) (sk_K G 0 0 (rI Q) noX) 0 0 0 [some (.ref (G.2.2.1 140)), some (.int a1), some (.int a2), none] [] M
  refine T.ald_0 (q := 1) dX8_forget_0 rfl ?_
  refine T.iconst (q := 2) (0) dX8_forget_1 rfl (by decide) ?_
  refine p_X8_3 rfl dX8_forget_2 (q := 5) rfl ?_
  refine S.mem h ?_
  intro M2 h
  refine T.ald_0 (q := 6) dX8_forget_5 rfl ?_
  refine T.ald_0 (q := 7) dX8_forget_6 rfl ?_
  refine T.ild_1 (q := 8) dX8_forget_7 rfl ?_
  refine k_X8_342 rfl dX8_forget_8 (q := 11) rfl (by decide) (by decide) (by decide) (Nat.le_of_ble_eq_true rfl) (t_X8_noPerson (P := fun r9 => r9 = (f_X8_noPerson a1 M2)) rfl) ?_
  rintro _ _ ⟨rfl, h9⟩
  obtain rfl := h9.symm
  refine s_dia (fun s27_11 : Int32 => TJ G mX8_forget (sk_R 2 0 0) (sk_K G 0 0 (rI Q) noX) 0 0 27 [some (.ref (G.2.2.1 140)), some (.int a1), some (.int a2), none] [.int s27_11, .ref (G.2.2.1 140)] M2) h (fun s27_11 h => ?_) (fun k9 hJ9 h => ?_)
  · refine T.iconst (q := 28) (1) dX8_forget_27 rfl (by decide) ?_
    refine k_X8_281 rfl dX8_forget_28 (q := 31) rfl (by decide) (by decide) (by decide) (Nat.le_of_ble_eq_true rfl) (t_X8_throwsIf  h) ?_
    intro r28 M28 h
    refine T.if_eq (tgt := 36) (q := 34) dX8_forget_31 (by decide) rfl (fun h31 => ?_) (fun h31 => ?_)
    · replace h := s_f (fun q => q h31) h
      refine T.ald_0 (q := 37) dX8_forget_36 rfl ?_
      refine k_X8_363 rfl dX8_forget_37 (q := 40) rfl (by decide) (by decide) (by decide) (Nat.le_of_ble_eq_true rfl) (t_X8_remembers  h) ?_
      intro M37 h
      refine T.ald_0 (q := 41) dX8_forget_40 rfl ?_
      refine T.ild_1 (q := 42) dX8_forget_41 rfl ?_
      refine T.ild_2 (q := 43) dX8_forget_42 rfl ?_
      refine k_X8_345 rfl dX8_forget_43 (q := 46) rfl (by decide) (by decide) (by decide) (Nat.le_of_ble_eq_true rfl) (t_X8_leftOf  h) ?_
      rintro r43 _ ⟨h, h9⟩
      obtain rfl := h9.symm
      refine T.ist_3 (q := 47) dX8_forget_46 rfl (by decide) sk_ok_i ?_
      refine T.ald_0 (q := 48) dX8_forget_47 rfl ?_
      refine T.ild_1 (q := 49) dX8_forget_48 rfl ?_
      refine T.ild_2 (q := 50) dX8_forget_49 rfl ?_
      refine k_X8_101 rfl dX8_forget_50 (q := 53) rfl (by decide) (by decide) (by decide) (Nat.le_of_ble_eq_true rfl) (t_X8_forgets  h) ?_
      intro M50 h
      refine T.ild_3 (q := 54) dX8_forget_53 rfl ?_
      exact T.retI rfl dX8_forget_54 (by decide) (by decide) h
    · replace h := s_t h31 h
      refine T.iconst (q := 35) (0) dX8_forget_34 rfl (by decide) ?_
      exact T.retI rfl dX8_forget_35 (by decide) (by decide) h
  · refine T.if_ne (tgt := 22) (q := 14) dX8_forget_11 (by decide) rfl (fun h11 => ?_) (fun h11 => ?_)
    · replace h := s_tk (Or.inl h11) h
      refine T.iconst (q := 23) (1) dX8_forget_22 rfl (by decide) ?_
      refine T.goto (tgt := 27) dX8_forget_23 (by decide) ?_
      exact hJ9 _ h
    · refine T.ald_0 (q := 15) dX8_forget_14 rfl ?_
      refine T.ild_2 (q := 16) dX8_forget_15 rfl ?_
      refine k_X8_329 rfl dX8_forget_16 (q := 19) rfl (by decide) (by decide) (by decide) (Nat.le_of_ble_eq_true rfl) (t_X8_noVault (P := fun r9 => r9 = (f_X8_noVault a2 M2)) rfl) ?_
      rintro _ _ ⟨rfl, h9⟩
      obtain rfl := h9.symm
      refine T.if_eq (tgt := 26) (q := 22) dX8_forget_19 (by decide) rfl (fun h19 => ?_) (fun h19 => ?_)
      · replace h := s_fk (fun q => q.elim (fun q => q h11) (fun q => q h19)) h
        refine T.iconst (q := 27) (0) dX8_forget_26 rfl (by decide) ?_
        exact hJ9 _ h
      · replace h := s_tk (Or.inr h19) h
        refine T.iconst (q := 23) (1) dX8_forget_22 rfl (by decide) ?_
        refine T.goto (tgt := 27) dX8_forget_23 (by decide) ?_
        exact hJ9 _ h
theorem t_X8_anew {G : sk_G} {M : sk_M} {a1 : Int32} {a2 : Int32}  {Q : sk_M → Prop} (h : w_X8_anew a1 a2 M Q) : Ctr G mX8_anew 3 0 0 [.ref (G.2.2.1 140), .int a1, .int a2] M (rV Q) noX := by
  unfold w_X8_anew at h
  refine Ctr.of 0 (by decide) (Nat.le_of_ble_eq_true rfl) ?_
  show TJ G mX8_anew (sk_R 3 0 0) (sk_K G 0 0 (rV Q) noX) 0 0 0 [some (.ref (G.2.2.1 140)), some (.int a1), some (.int a2)] [] M
  refine T.ald_0 (q := 1) dX8_anew_0 rfl ?_
  refine T.ild_1 (q := 2) dX8_anew_1 rfl ?_
  refine T.iconst (q := 3) (0) dX8_anew_2 rfl (by decide) ?_
  refine T.ild_2 (q := 4) dX8_anew_3 rfl ?_
  refine k_X8_158 rfl dX8_anew_4 (q := 7) rfl (by decide) (by decide) (by decide) (Nat.le_of_ble_eq_true rfl) (t_X8_sets  h) ?_
  intro M4 h
  refine T.ald_0 (q := 8) dX8_anew_7 rfl ?_
  refine T.ild_1 (q := 9) dX8_anew_8 rfl ?_
  refine T.iconst (q := 10) (3) dX8_anew_9 rfl (by decide) ?_
  refine T.iconst (q := 11) (0) dX8_anew_10 rfl (by decide) ?_
  refine k_X8_158 rfl dX8_anew_11 (q := 14) rfl (by decide) (by decide) (by decide) (Nat.le_of_ble_eq_true rfl) (t_X8_sets  h) ?_
  intro M11 h
  refine T.ald_0 (q := 15) dX8_anew_14 rfl ?_
  refine T.ild_1 (q := 16) dX8_anew_15 rfl ?_
  refine k_X8_174 rfl dX8_anew_16 (q := 19) rfl (by decide) (by decide) (by decide) (Nat.le_of_ble_eq_true rfl) (t_X8_allForget  h) ?_
  intro M16 h
  refine T.ald_0 (q := 20) dX8_anew_19 rfl ?_
  refine g_X8_13 rfl dX8_anew_20 (q := 23) rfl ?_
  refine T.bipush (q := 25) (7) dX8_anew_23 rfl (by decide) ?_
  refine T.dup2 (q := 26) dX8_anew_25 rfl rfl rfl ?_
  refine T.ialdk (n := 2260) rfl rfl (by decide) dX8_anew_26 (q := 27) rfl (k9 := 7) (by decide) ?_
  refine T.iconst (q := 28) (1) dX8_anew_27 rfl (by decide) ?_
  refine T.iadd (q := 29) dX8_anew_28 rfl ?_
  refine T.iastk (n := 2260) rfl rfl (by decide) dX8_anew_29 (q := 30) rfl (k9 := 7) (by decide) ?_
  refine S.mem h ?_
  intro M29 h
  exact T.retV rfl dX8_anew_30 (by decide) (by decide) h
theorem t_X8_change {G : sk_G} {M : sk_M} {a1 : Int32} {a2 : Int32}  {Q : Int32 → sk_M → Prop} (h : w_X8_change a1 a2 M Q) : Ctr G mX8_change 4 0 0 [.ref (G.2.2.1 140), .int a1, .int a2] M (rI Q) noX := by
  unfold w_X8_change at h
  refine Ctr.of 1 (by decide) (Nat.le_of_ble_eq_true rfl) ?_
  show TJ G mX8_change (sk_R 4 0 0) (sk_K G 0 0 (rI Q) noX) 0 0 0 [some (.ref (G.2.2.1 140)), some (.int a1), some (.int a2), none] [] M
  refine T.ald_0 (q := 1) dX8_change_0 rfl ?_
  refine T.iconst (q := 2) (0) dX8_change_1 rfl (by decide) ?_
  refine p_X8_3 rfl dX8_change_2 (q := 5) rfl ?_
  refine S.mem h ?_
  intro M2 h
  refine T.ald_0 (q := 6) dX8_change_5 rfl ?_
  refine T.ald_0 (q := 7) dX8_change_6 rfl ?_
  refine T.ild_1 (q := 8) dX8_change_7 rfl ?_
  refine k_X8_329 rfl dX8_change_8 (q := 11) rfl (by decide) (by decide) (by decide) (Nat.le_of_ble_eq_true rfl) (t_X8_noVault (P := fun r9 => r9 = (f_X8_noVault a1 M2)) rfl) ?_
  rintro _ _ ⟨rfl, h9⟩
  obtain rfl := h9.symm
  refine s_dia (fun s26_11 : Int32 => TJ G mX8_change (sk_R 4 0 0) (sk_K G 0 0 (rI Q) noX) 0 0 26 [some (.ref (G.2.2.1 140)), some (.int a1), some (.int a2), none] [.int s26_11, .ref (G.2.2.1 140)] M2) h (fun s26_11 h => ?_) (fun k9 hJ9 h => ?_)
  · refine T.iconst (q := 27) (1) dX8_change_26 rfl (by decide) ?_
    refine k_X8_281 rfl dX8_change_27 (q := 30) rfl (by decide) (by decide) (by decide) (Nat.le_of_ble_eq_true rfl) (t_X8_throwsIf  h) ?_
    intro r27 M27 h
    refine T.if_eq (tgt := 35) (q := 33) dX8_change_30 (by decide) rfl (fun h30 => ?_) (fun h30 => ?_)
    · replace h := s_f (fun q => q h30) h
      refine T.ald_0 (q := 36) dX8_change_35 rfl ?_
      refine k_X8_363 rfl dX8_change_36 (q := 39) rfl (by decide) (by decide) (by decide) (Nat.le_of_ble_eq_true rfl) (t_X8_remembers  h) ?_
      intro M36 h
      refine T.ald_0 (q := 40) dX8_change_39 rfl ?_
      refine T.ild_1 (q := 41) dX8_change_40 rfl ?_
      refine T.iconst (q := 42) (0) dX8_change_41 rfl (by decide) ?_
      refine k_X8_167 rfl dX8_change_42 (q := 45) rfl (by decide) (by decide) (by decide) (Nat.le_of_ble_eq_true rfl) (t_X8_of  h) ?_
      rintro r42 _ ⟨h, h9⟩
      obtain rfl := h9.symm
      refine T.ist_3 (q := 46) dX8_change_45 rfl (by decide) sk_ok_i ?_
      refine T.ald_0 (q := 47) dX8_change_46 rfl ?_
      refine T.ild_1 (q := 48) dX8_change_47 rfl ?_
      refine T.ild_2 (q := 49) dX8_change_48 rfl ?_
      refine k_X8_376 rfl dX8_change_49 (q := 52) rfl (by decide) (by decide) (by decide) (Nat.le_of_ble_eq_true rfl) (t_X8_anew  h) ?_
      intro M49 h
      refine T.ild_3 (q := 53) dX8_change_52 rfl ?_
      exact T.retI rfl dX8_change_53 (by decide) (by decide) h
    · replace h := s_t h30 h
      refine T.iconst (q := 34) (0) dX8_change_33 rfl (by decide) ?_
      exact T.retI rfl dX8_change_34 (by decide) (by decide) h
  · refine T.if_ne (tgt := 21) (q := 14) dX8_change_11 (by decide) rfl (fun h11 => ?_) (fun h11 => ?_)
    · replace h := s_tk (Or.inl h11) h
      refine T.iconst (q := 22) (1) dX8_change_21 rfl (by decide) ?_
      refine T.goto (tgt := 26) dX8_change_22 (by decide) ?_
      exact hJ9 _ h
    · refine T.ild_2 (q := 15) dX8_change_14 rfl ?_
      refine k_X8_311 rfl dX8_change_15 (q := 18) rfl (by decide) (by decide) (by decide) (Nat.le_of_ble_eq_true rfl) (t_X8_noCode (P := fun r9 => r9 = (f_X8_noCode a2)) rfl) ?_
      rintro _ _ ⟨rfl, h9⟩
      obtain rfl := h9.symm
      refine T.if_eq (tgt := 25) (q := 21) dX8_change_18 (by decide) rfl (fun h18 => ?_) (fun h18 => ?_)
      · replace h := s_fk (fun q => q.elim (fun q => q h11) (fun q => q h18)) h
        refine T.iconst (q := 26) (0) dX8_change_25 rfl (by decide) ?_
        exact hJ9 _ h
      · replace h := s_tk (Or.inr h18) h
        refine T.iconst (q := 22) (1) dX8_change_21 rfl (by decide) ?_
        refine T.goto (tgt := 26) dX8_change_22 (by decide) ?_
        exact hJ9 _ h
theorem t_X8_guard {G : sk_G} {M : sk_M} {a1 : Int32} {a2 : Int32} {a3 : Int32}  {Q : Int32 → sk_M → Prop} (h : w_X8_guard a1 a2 a3 M Q) : Ctr G mX8_guard 2 0 0 [.ref (G.2.2.1 140), .int a1, .int a2, .int a3] M (rI Q) noX := by
  unfold w_X8_guard at h
  refine Ctr.of 1 (by decide) (Nat.le_of_ble_eq_true rfl) ?_
  show TJ G mX8_guard (sk_R 2 0 0) (sk_K G 0 0 (rI Q) noX) 0 0 0 [some (.ref (G.2.2.1 140)), some (.int a1), some (.int a2), some (.int a3), none] [] M
  refine T.ald_0 (q := 1) dX8_guard_0 rfl ?_
  refine T.iconst (q := 2) (0) dX8_guard_1 rfl (by decide) ?_
  refine p_X8_3 rfl dX8_guard_2 (q := 5) rfl ?_
  refine S.mem h ?_
  intro M2 h
  refine T.ald_0 (q := 6) dX8_guard_5 rfl ?_
  refine T.ald_0 (q := 7) dX8_guard_6 rfl ?_
  refine T.ild_1 (q := 8) dX8_guard_7 rfl ?_
  refine k_X8_329 rfl dX8_guard_8 (q := 11) rfl (by decide) (by decide) (by decide) (Nat.le_of_ble_eq_true rfl) (t_X8_noVault (P := fun r9 => r9 = (f_X8_noVault a1 M2)) rfl) ?_
  rintro _ _ ⟨rfl, h9⟩
  obtain rfl := h9.symm
  refine T.iconst (q := 12) (1) dX8_guard_11 rfl (by decide) ?_
  refine k_X8_281 rfl dX8_guard_12 (q := 15) rfl (by decide) (by decide) (by decide) (Nat.le_of_ble_eq_true rfl) (t_X8_throwsIf  h) ?_
  intro r12 M12 h
  refine T.if_ne (tgt := 41) (q := 18) dX8_guard_15 (by decide) rfl (fun h15 => ?_) (fun h15 => ?_)
  · replace h := s_f h15 h
    refine T.iconst (q := 42) (0) dX8_guard_41 rfl (by decide) ?_
    exact T.retZ rfl dX8_guard_42 (by decide) (by decide) rfl h
  · replace h := s_t h15 h
    refine T.ald_0 (q := 19) dX8_guard_18 rfl ?_
    refine T.ild_2 (q := 20) dX8_guard_19 rfl ?_
    refine T.iconst (q := 21) (0) dX8_guard_20 rfl (by decide) ?_
    refine T.bipush (q := 23) (6) dX8_guard_21 rfl (by decide) ?_
    refine k_X8_85 rfl dX8_guard_23 (q := 26) rfl (by decide) (by decide) (by decide) (Nat.le_of_ble_eq_true rfl) (t_X8_in (P := fun r9 => r9 = (f_X8_in a2 (0 : Int32) (6 : Int32))) rfl) ?_
    rintro _ _ ⟨rfl, h9⟩
    obtain rfl := h9.symm
    refine s_dia (fun s34_26 : Int32 => TJ G mX8_guard (sk_R 2 0 0) (sk_K G 0 0 (rI Q) noX) 0 0 34 [some (.ref (G.2.2.1 140)), some (.int a1), some (.int a2), some (.int a3), none] [.int s34_26, .ref (G.2.2.1 140)] M12) h (fun s34_26 h => ?_) (fun k9 hJ9 h => ?_)
    · refine T.iconst (q := 35) (2) dX8_guard_34 rfl (by decide) ?_
      refine k_X8_281 rfl dX8_guard_35 (q := 38) rfl (by decide) (by decide) (by decide) (Nat.le_of_ble_eq_true rfl) (t_X8_throwsIf  h) ?_
      intro r35 M35 h
      refine T.if_eq (tgt := 43) (q := 41) dX8_guard_38 (by decide) rfl (fun h38 => ?_) (fun h38 => ?_)
      · replace h := s_f (fun q => q h38) h
        refine T.ald_0 (q := 44) dX8_guard_43 rfl ?_
        refine k_X8_363 rfl dX8_guard_44 (q := 47) rfl (by decide) (by decide) (by decide) (Nat.le_of_ble_eq_true rfl) (t_X8_remembers  h) ?_
        intro M44 h
        refine T.ald_0 (q := 48) dX8_guard_47 rfl ?_
        refine T.ild_1 (q := 49) dX8_guard_48 rfl ?_
        refine T.iconst (q := 50) (1) dX8_guard_49 rfl (by decide) ?_
        refine k_X8_167 rfl dX8_guard_50 (q := 53) rfl (by decide) (by decide) (by decide) (Nat.le_of_ble_eq_true rfl) (t_X8_of  h) ?_
        rintro r50 _ ⟨h, h9⟩
        obtain rfl := h9.symm
        refine T.ild_2 (q := 54) dX8_guard_53 rfl ?_
        refine k_X8_320 rfl dX8_guard_54 (q := 57) rfl (by decide) (by decide) (by decide) (Nat.le_of_ble_eq_true rfl) (t_X8_has (P := fun r9 => r9 = (f_X8_has r50 a2)) rfl) ?_
        rintro _ _ ⟨rfl, h9⟩
        obtain rfl := h9.symm
        refine T.ist_4 (q := 59) dX8_guard_57 rfl (by decide) sk_ok_i ?_
        refine S.i4 h ?_
        intro y57 h
        refine T.ald_0 (q := 60) dX8_guard_59 rfl ?_
        refine T.ild_1 (q := 61) dX8_guard_60 rfl ?_
        refine T.iconst (q := 62) (1) dX8_guard_61 rfl (by decide) ?_
        refine T.ald_0 (q := 63) dX8_guard_62 rfl ?_
        refine T.ild_1 (q := 64) dX8_guard_63 rfl ?_
        refine T.iconst (q := 65) (1) dX8_guard_64 rfl (by decide) ?_
        refine k_X8_167 rfl dX8_guard_65 (q := 68) rfl (by decide) (by decide) (by decide) (Nat.le_of_ble_eq_true rfl) (t_X8_of  h) ?_
        rintro r65 _ ⟨h, h9⟩
        obtain rfl := h9.symm
        refine T.iconst (q := 69) (1) dX8_guard_68 rfl (by decide) ?_
        refine T.ild_2 (q := 70) dX8_guard_69 rfl ?_
        refine T.ishl (q := 71) dX8_guard_70 rfl ?_
        refine T.iconst (q := 72) (-1) dX8_guard_71 rfl (by decide) ?_
        refine T.ixor (q := 73) dX8_guard_72 rfl ?_
        refine T.iand (q := 74) dX8_guard_73 rfl ?_
        refine T.ild_3 (q := 75) dX8_guard_74 rfl ?_
        refine s_dia (fun s85_75 : Int32 => TJ G mX8_guard (sk_R 2 0 0) (sk_K G 0 0 (rI Q) noX) 0 0 85 [some (.ref (G.2.2.1 140)), some (.int a1), some (.int a2), some (.int a3), some (.int y57)] [.int s85_75, .int (r65 &&& (((1 : Int32) <<< (a2 &&& 31)) ^^^ (-1 : Int32))), .int (1 : Int32), .int a1, .ref (G.2.2.1 140)] M44) h (fun s85_75 h => ?_) (fun k9 hJ9 h => ?_)
        · refine T.ior (q := 86) dX8_guard_85 rfl ?_
          refine k_X8_158 rfl dX8_guard_86 (q := 89) rfl (by decide) (by decide) (by decide) (Nat.le_of_ble_eq_true rfl) (t_X8_sets  h) ?_
          intro M86 h
          refine T.ild_4 (q := 91) dX8_guard_89 rfl ?_
          refine T.ild_3 (q := 92) dX8_guard_91 rfl ?_
          refine T.ic_eq (tgt := 99) (q := 95) dX8_guard_92 (by decide) rfl (fun h92 => ?_) (fun h92 => ?_)
          · replace h := s_f (fun q => q h92) h
            refine T.iconst (q := 100) (0) dX8_guard_99 rfl (by decide) ?_
            exact T.retZ rfl dX8_guard_100 (by decide) (by decide) rfl h
          · replace h := s_t h92 h
            refine T.iconst (q := 96) (1) dX8_guard_95 rfl (by decide) ?_
            refine T.goto (tgt := 100) dX8_guard_96 (by decide) ?_
            exact T.retZ rfl dX8_guard_100 (by decide) (by decide) rfl h
        · refine T.if_eq (tgt := 84) (q := 78) dX8_guard_75 (by decide) rfl (fun h75 => ?_) (fun h75 => ?_)
          · replace h := s_fk (fun q => q h75) h
            refine T.iconst (q := 85) (0) dX8_guard_84 rfl (by decide) ?_
            exact hJ9 _ h
          · replace h := s_tk h75 h
            refine T.iconst (q := 79) (1) dX8_guard_78 rfl (by decide) ?_
            refine T.ild_2 (q := 80) dX8_guard_79 rfl ?_
            refine T.ishl (q := 81) dX8_guard_80 rfl ?_
            refine T.goto (tgt := 85) dX8_guard_81 (by decide) ?_
            exact hJ9 _ h
      · replace h := s_t h38 h
        refine T.iconst (q := 42) (0) dX8_guard_41 rfl (by decide) ?_
        exact T.retZ rfl dX8_guard_42 (by decide) (by decide) rfl h
    · refine T.if_ne (tgt := 33) (q := 29) dX8_guard_26 (by decide) rfl (fun h26 => ?_) (fun h26 => ?_)
      · replace h := s_fk h26 h
        refine T.iconst (q := 34) (0) dX8_guard_33 rfl (by decide) ?_
        exact hJ9 _ h
      · replace h := s_tk h26 h
        refine T.iconst (q := 30) (1) dX8_guard_29 rfl (by decide) ?_
        refine T.goto (tgt := 34) dX8_guard_30 (by decide) ?_
        exact hJ9 _ h
theorem tl_X8_oneDay_L2 {G : sk_G} {cells slots : Nat}  {Q : sk_M → Prop} {k44 : sk_M → Prop}  (hc0 : cells ≤ 0) (hs0 : slots ≤ 0) (hk44 : ∀ s44 : sk_M, k44 s44 → TJ G mX8_oneDay (sk_R 4 0 0) (sk_K G 0 0 (rV Q) noX) cells slots 44 [some (.ref (G.2.2.1 140)), none] [] s44) : ∀ (F : Nat) (s2 : Int32 × sk_M), lp (w_X8_oneDay_L2  k44) F s2 → TJ G mX8_oneDay (sk_R 4 0 0) (sk_K G 0 0 (rV Q) noX) cells slots 2 [some (.ref (G.2.2.1 140)), some (.int s2.1)] [] s2.2 := by
  refine lp_sound (fun c hc9 s2 h => ?_)
  unfold w_X8_oneDay_L2 at h
  refine T.ild_1 (q := 3) dX8_oneDay_2 rfl ?_
  refine T.ald_0 (q := 4) dX8_oneDay_3 rfl ?_
  refine k_X8_81 rfl dX8_oneDay_4 (q := 7) rfl (by decide) hc0 hs0 (Nat.le_of_ble_eq_true rfl) (t_X8_vaults (P := fun r9 => r9 = (f_X8_vaults s2.2)) rfl) ?_
  rintro _ _ ⟨rfl, h9⟩
  obtain rfl := h9.symm
  refine T.ic_ge (tgt := 44) (q := 10) dX8_oneDay_7 (by decide) rfl (fun h7 => ?_) (fun h7 => ?_)
  · replace h := s_f (fun q => q h7) h
    refine T.drop_1 ?_
    exact hk44 s2.2 h
  · replace h := s_t h7 h
    refine T.ald_0 (q := 11) dX8_oneDay_10 rfl ?_
    refine T.bipush (q := 13) (100) dX8_oneDay_11 rfl (by decide) ?_
    refine k_X8_379 rfl dX8_oneDay_13 (q := 16) rfl (by decide) hc0 hs0 (Nat.le_of_ble_eq_true rfl) (t_X8_draw  h) ?_
    intro r13 M13 h
    refine T.ald_0 (q := 17) dX8_oneDay_16 rfl ?_
    refine g_X8_13 rfl dX8_oneDay_17 (q := 20) rfl ?_
    refine T.bipush (q := 22) (6) dX8_oneDay_20 rfl (by decide) ?_
    refine T.ialdk (n := 2260) rfl rfl (by decide) dX8_oneDay_22 (q := 23) rfl (k9 := 6) (by decide) ?_
    refine T.ic_ge (tgt := 38) (q := 26) dX8_oneDay_23 (by decide) rfl (fun h23 => ?_) (fun h23 => ?_)
    · replace h := s_f (fun q => q h23) h
      refine T.inc_1 (q := 41) (1) dX8_oneDay_38 rfl (by decide) (by decide) sk_ok_r ?_
      refine T.goto (tgt := 2) dX8_oneDay_41 (by decide) ?_
      exact hc9 ((s2.1 + (1 : Int32)), M13) h
    · replace h := s_t h23 h
      refine T.ald_0 (q := 27) dX8_oneDay_26 rfl ?_
      refine T.ild_1 (q := 28) dX8_oneDay_27 rfl ?_
      refine T.ald_0 (q := 29) dX8_oneDay_28 rfl ?_
      refine T.sipush (q := 32) (216) dX8_oneDay_29 rfl (by decide) ?_
      refine k_X8_379 rfl dX8_oneDay_32 (q := 35) rfl (by decide) hc0 hs0 (Nat.le_of_ble_eq_true rfl) (t_X8_draw  h) ?_
      intro r32 M32 h
      refine k_X8_376 rfl dX8_oneDay_35 (q := 38) rfl (by decide) hc0 hs0 (Nat.le_of_ble_eq_true rfl) (t_X8_anew  h) ?_
      intro M35 h
      refine T.inc_1 (q := 41) (1) dX8_oneDay_38 rfl (by decide) (by decide) sk_ok_r ?_
      refine T.goto (tgt := 2) dX8_oneDay_41 (by decide) ?_
      exact hc9 ((s2.1 + (1 : Int32)), M35) h
theorem t_X8_oneDay {G : sk_G} {M : sk_M}   {Q : sk_M → Prop} (h : w_X8_oneDay  M Q) : Ctr G mX8_oneDay 4 0 0 [.ref (G.2.2.1 140)] M (rV Q) noX := by
  unfold w_X8_oneDay at h
  refine Ctr.of 1 (by decide) (Nat.le_of_ble_eq_true rfl) ?_
  show TJ G mX8_oneDay (sk_R 4 0 0) (sk_K G 0 0 (rV Q) noX) 0 0 0 [some (.ref (G.2.2.1 140)), none] [] M
  refine T.iconst (q := 1) (0) dX8_oneDay_0 rfl (by decide) ?_
  refine T.ist_1 (q := 2) dX8_oneDay_1 rfl (by decide) sk_ok_r ?_
  refine tl_X8_oneDay_L2  (by decide) (by decide) ?_ _ ((0 : Int32), M) h
  intro s44 h
  refine T.ald_0 (q := 45) dX8_oneDay_44 rfl ?_
  refine g_X8_13 rfl dX8_oneDay_45 (q := 48) rfl ?_
  refine T.iconst (q := 49) (5) dX8_oneDay_48 rfl (by decide) ?_
  refine T.sipush (q := 52) (9999) dX8_oneDay_49 rfl (by decide) ?_
  refine T.ald_0 (q := 53) dX8_oneDay_52 rfl ?_
  refine g_X8_13 rfl dX8_oneDay_53 (q := 56) rfl ?_
  refine T.iconst (q := 57) (5) dX8_oneDay_56 rfl (by decide) ?_
  refine T.ialdk (n := 2260) rfl rfl (by decide) dX8_oneDay_57 (q := 58) rfl (k9 := 5) (by decide) ?_
  refine T.iconst (q := 59) (1) dX8_oneDay_58 rfl (by decide) ?_
  refine T.iadd (q := 60) dX8_oneDay_59 rfl ?_
  refine k_X8_290 rfl dX8_oneDay_60 (q := 63) rfl (by decide) (by decide) (by decide) (Nat.le_of_ble_eq_true rfl) ?_
  refine T.iastk (n := 2260) rfl rfl (by decide) dX8_oneDay_63 (q := 64) rfl (k9 := 5) (by decide) ?_
  refine S.mem h ?_
  intro M63 h
  exact T.retV rfl dX8_oneDay_64 (by decide) (by decide) h
theorem tl_X8_days_L44 {G : sk_G} {cells slots : Nat} {a1 : Int32} {y41 : Int32} {Q : Int32 → sk_M → Prop} {k59 : sk_M → Prop}  (hc0 : cells ≤ 0) (hs0 : slots ≤ 0) (hk59 : ∀ s59 : sk_M, k59 s59 → TJ G mX8_days (sk_R 5 0 0) (sk_K G 0 0 (rI Q) noX) cells slots 59 [some (.ref (G.2.2.1 140)), none, some (.int y41), none] [] s59) : ∀ (F : Nat) (s44 : Int32 × sk_M), lp (w_X8_days_L44 a1 k59) F s44 → TJ G mX8_days (sk_R 5 0 0) (sk_K G 0 0 (rI Q) noX) cells slots 44 [some (.ref (G.2.2.1 140)), some (.int a1), some (.int y41), some (.int s44.1)] [] s44.2 := by
  refine lp_sound (fun c hc9 s44 h => ?_)
  unfold w_X8_days_L44 at h
  refine T.ild_3 (q := 45) dX8_days_44 rfl ?_
  refine T.ild_1 (q := 46) dX8_days_45 rfl ?_
  refine T.ic_ge (tgt := 59) (q := 49) dX8_days_46 (by decide) rfl (fun h46 => ?_) (fun h46 => ?_)
  · replace h := s_f (fun q => q h46) h
    refine T.drop_1 ?_
    refine T.drop_3 ?_
    exact hk59 s44.2 h
  · replace h := s_t h46 h
    refine T.ald_0 (q := 50) dX8_days_49 rfl ?_
    refine k_X8_382 rfl dX8_days_50 (q := 53) rfl (by decide) hc0 hs0 (Nat.le_of_ble_eq_true rfl) (t_X8_oneDay  h) ?_
    intro M50 h
    refine T.inc_3 (q := 56) (1) dX8_days_53 rfl (by decide) (by decide) sk_ok_i ?_
    refine T.goto (tgt := 44) dX8_days_56 (by decide) ?_
    exact hc9 ((s44.1 + (1 : Int32)), M50) h
theorem t_X8_days {G : sk_G} {M : sk_M} {a1 : Int32}  {Q : Int32 → sk_M → Prop} (h : w_X8_days a1 M Q) : Ctr G mX8_days 5 0 0 [.ref (G.2.2.1 140), .int a1] M (rI Q) noX := by
  unfold w_X8_days at h
  refine Ctr.of 2 (by decide) (Nat.le_of_ble_eq_true rfl) ?_
  show TJ G mX8_days (sk_R 5 0 0) (sk_K G 0 0 (rI Q) noX) 0 0 0 [some (.ref (G.2.2.1 140)), some (.int a1), none, none] [] M
  refine T.ald_0 (q := 1) dX8_days_0 rfl ?_
  refine T.iconst (q := 2) (0) dX8_days_1 rfl (by decide) ?_
  refine p_X8_3 rfl dX8_days_2 (q := 5) rfl ?_
  refine S.mem h ?_
  intro M2 h
  refine T.ald_0 (q := 6) dX8_days_5 rfl ?_
  refine T.ild_1 (q := 7) dX8_days_6 rfl ?_
  refine T.iconst (q := 8) (1) dX8_days_7 rfl (by decide) ?_
  refine T.bipush (q := 10) (60) dX8_days_8 rfl (by decide) ?_
  refine k_X8_85 rfl dX8_days_10 (q := 13) rfl (by decide) (by decide) (by decide) (Nat.le_of_ble_eq_true rfl) (t_X8_in (P := fun r9 => r9 = (f_X8_in a1 (1 : Int32) (60 : Int32))) rfl) ?_
  rintro _ _ ⟨rfl, h9⟩
  obtain rfl := h9.symm
  refine s_dia (fun s21_13 : Int32 => TJ G mX8_days (sk_R 5 0 0) (sk_K G 0 0 (rI Q) noX) 0 0 21 [some (.ref (G.2.2.1 140)), some (.int a1), none, none] [.int s21_13, .ref (G.2.2.1 140)] M2) h (fun s21_13 h => ?_) (fun k9 hJ9 h => ?_)
  · refine T.iconst (q := 22) (1) dX8_days_21 rfl (by decide) ?_
    refine k_X8_281 rfl dX8_days_22 (q := 25) rfl (by decide) (by decide) (by decide) (Nat.le_of_ble_eq_true rfl) (t_X8_throwsIf  h) ?_
    intro r22 M22 h
    refine T.if_eq (tgt := 30) (q := 28) dX8_days_25 (by decide) rfl (fun h25 => ?_) (fun h25 => ?_)
    · replace h := s_f (fun q => q h25) h
      refine T.ald_0 (q := 31) dX8_days_30 rfl ?_
      refine k_X8_363 rfl dX8_days_31 (q := 34) rfl (by decide) (by decide) (by decide) (Nat.le_of_ble_eq_true rfl) (t_X8_remembers  h) ?_
      intro M31 h
      refine T.ald_0 (q := 35) dX8_days_34 rfl ?_
      refine g_X8_13 rfl dX8_days_35 (q := 38) rfl ?_
      refine T.bipush (q := 40) (7) dX8_days_38 rfl (by decide) ?_
      refine T.ialdk (n := 2260) rfl rfl (by decide) dX8_days_40 (q := 41) rfl (k9 := 7) (by decide) ?_
      refine T.ist_2 (q := 42) dX8_days_41 rfl (by decide) sk_ok_i ?_
      refine S.i2 h ?_
      intro y41 h
      refine T.iconst (q := 43) (0) dX8_days_42 rfl (by decide) ?_
      refine T.ist_3 (q := 44) dX8_days_43 rfl (by decide) sk_ok_i ?_
      refine tl_X8_days_L44  (by decide) (by decide) ?_ _ ((0 : Int32), M31) h
      intro s59 h
      refine T.ald_0 (q := 60) dX8_days_59 rfl ?_
      refine g_X8_13 rfl dX8_days_60 (q := 63) rfl ?_
      refine T.bipush (q := 65) (7) dX8_days_63 rfl (by decide) ?_
      refine T.ialdk (n := 2260) rfl rfl (by decide) dX8_days_65 (q := 66) rfl (k9 := 7) (by decide) ?_
      refine T.ild_2 (q := 67) dX8_days_66 rfl ?_
      refine T.isub (q := 68) dX8_days_67 rfl ?_
      exact T.retI rfl dX8_days_68 (by decide) (by decide) h
    · replace h := s_t h25 h
      refine T.iconst (q := 29) (0) dX8_days_28 rfl (by decide) ?_
      exact T.retI rfl dX8_days_29 (by decide) (by decide) h
  · refine T.if_ne (tgt := 20) (q := 16) dX8_days_13 (by decide) rfl (fun h13 => ?_) (fun h13 => ?_)
    · replace h := s_fk h13 h
      refine T.iconst (q := 21) (0) dX8_days_20 rfl (by decide) ?_
      exact hJ9 _ h
    · replace h := s_tk h13 h
      refine T.iconst (q := 17) (1) dX8_days_16 rfl (by decide) ?_
      refine T.goto (tgt := 21) dX8_days_17 (by decide) ?_
      exact hJ9 _ h
theorem tl_X8_partsOf_L36 {G : sk_G} {cells slots : Nat} {a1 : Int32} {a2 : Int32} {a3 : Int32} {a4 : Int32} {Q : Int32 → sk_M → Prop} {k129 : (Int32 × Int32 × sk_M) → Prop}  (hc0 : cells ≤ 0) (hs0 : slots ≤ 0) (hk129 : ∀ s129 : Int32 × Int32 × sk_M, k129 s129 → TJ G mX8_partsOf (sk_R 2 0 0) (sk_K G 0 0 (rI Q) noX) cells slots 129 [some (.ref (G.2.2.1 140)), none, none, some (.int a3), some (.int a4), none, some (.int s129.1), some (.int s129.2.1), none, none] [] s129.2.2) : ∀ (F : Nat) (s36 : Int32 × Int32 × Int32 × sk_M), lp (w_X8_partsOf_L36 a1 a2 a3 k129) F s36 → TJ G mX8_partsOf (sk_R 2 0 0) (sk_K G 0 0 (rI Q) noX) cells slots 36 [some (.ref (G.2.2.1 140)), some (.int a1), some (.int a2), some (.int a3), some (.int a4), none, some (.int s36.1), some (.int s36.2.1), some (.int s36.2.2.1), none] [] s36.2.2.2 := by
  refine lp_sound (fun c hc9 s36 h => ?_)
  unfold w_X8_partsOf_L36 at h
  refine T.ild_8 (q := 38) dX8_partsOf_36 rfl ?_
  refine T.sipush (q := 41) (216) dX8_partsOf_38 rfl (by decide) ?_
  refine T.ic_ge (tgt := 129) (q := 44) dX8_partsOf_41 (by decide) rfl (fun h41 => ?_) (fun h41 => ?_)
  · replace h := s_f (fun q => q h41) h
    refine T.drop_1 ?_
    refine T.drop_2 ?_
    refine T.drop_8 ?_
    exact hk129 (s36.1, s36.2.1, s36.2.2.2) h
  · replace h := s_t h41 h
    refine T.ild_8 (q := 46) dX8_partsOf_44 rfl ?_
    refine T.ild_3 (q := 47) dX8_partsOf_46 rfl ?_
    refine T.ic_eq (tgt := 123) (q := 50) dX8_partsOf_47 (by decide) rfl (fun h47 => ?_) (fun h47 => ?_)
    · replace h := s_f (fun q => q h47) h
      refine T.inc_8 (q := 126) (1) dX8_partsOf_123 rfl (by decide) (by decide) sk_ok_i ?_
      refine T.goto (tgt := 36) dX8_partsOf_126 (by decide) ?_
      exact hc9 (s36.1, s36.2.1, (s36.2.2.1 + (1 : Int32)), s36.2.2.2) h
    · replace h := s_t h47 h
      refine T.ald_0 (q := 51) dX8_partsOf_50 rfl ?_
      refine T.ild_1 (q := 52) dX8_partsOf_51 rfl ?_
      refine T.ild_2 (q := 53) dX8_partsOf_52 rfl ?_
      refine T.ild_8 (q := 55) dX8_partsOf_53 rfl ?_
      refine k_X8_348 rfl dX8_partsOf_55 (q := 58) rfl (by decide) hc0 hs0 (Nat.le_of_ble_eq_true rfl) (t_X8_canBe  h) ?_
      rintro r55 _ ⟨h, h9⟩
      obtain rfl := h9.symm
      refine T.if_ne (tgt := 64) (q := 61) dX8_partsOf_58 (by decide) rfl (fun h58 => ?_) (fun h58 => ?_)
      · replace h := s_f h58 h
        refine T.sipush (q := 67) (3564) dX8_partsOf_64 rfl (by decide) ?_
        refine T.ald_0 (q := 68) dX8_partsOf_67 rfl ?_
        refine T.ild_3 (q := 69) dX8_partsOf_68 rfl ?_
        refine T.ild_8 (q := 71) dX8_partsOf_69 rfl ?_
        refine k_X8_317 rfl dX8_partsOf_71 (q := 74) rfl (by decide) hc0 hs0 (Nat.le_of_ble_eq_true rfl) (t_X8_soundOf  h) ?_
        rintro r71 _ ⟨h, h9⟩
        obtain rfl := h9.symm
        refine T.iadd (q := 75) dX8_partsOf_74 rfl ?_
        refine T.ist_9 (q := 77) dX8_partsOf_75 rfl (by decide) sk_ok_i ?_
        refine S.i9 h ?_
        intro y75 h
        refine T.ald_0 (q := 78) dX8_partsOf_77 rfl ?_
        refine g_X8_61 rfl dX8_partsOf_78 (q := 81) rfl ?_
        refine T.ild_9 (q := 83) dX8_partsOf_81 rfl ?_
        refine T.dup2 (q := 84) dX8_partsOf_83 rfl rfl rfl ?_
        refine T.iald (n := 7129) rfl rfl (by decide) dX8_partsOf_84 (q := 85) rfl h.1 ?_
        replace h := h.2
        refine T.iconst (q := 86) (1) dX8_partsOf_85 rfl (by decide) ?_
        refine T.iadd (q := 87) dX8_partsOf_86 rfl ?_
        refine T.iast (n := 7129) rfl rfl (by decide) dX8_partsOf_87 (q := 88) rfl h.1 ?_
        refine S.mem h.2 ?_
        intro M87 h
        refine T.ild_6 (q := 90) dX8_partsOf_88 rfl ?_
        refine T.ald_0 (q := 91) dX8_partsOf_90 rfl ?_
        refine g_X8_61 rfl dX8_partsOf_91 (q := 94) rfl ?_
        refine T.ild_9 (q := 96) dX8_partsOf_94 rfl ?_
        refine T.iald (n := 7129) rfl rfl (by decide) dX8_partsOf_96 (q := 97) rfl h.1 ?_
        replace h := h.2
        refine T.iconst (q := 98) (1) dX8_partsOf_97 rfl (by decide) ?_
        refine s_dia (fun s106_98 : Int32 => TJ G mX8_partsOf (sk_R 2 0 0) (sk_K G 0 0 (rI Q) noX) cells slots 106 [some (.ref (G.2.2.1 140)), some (.int a1), some (.int a2), some (.int a3), some (.int a4), none, some (.int s36.1), some (.int s36.2.1), some (.int s36.2.2.1), some (.int y75)] [.int s106_98, .int s36.1] M87) h (fun s106_98 h => ?_) (fun k9 hJ9 h => ?_)
        · refine T.iadd (q := 107) dX8_partsOf_106 rfl ?_
          refine T.ist_6 (q := 109) dX8_partsOf_107 rfl (by decide) sk_ok_n ?_
          refine S.i6 h ?_
          intro y107 h
          refine T.ild_7 (q := 111) dX8_partsOf_109 rfl ?_
          refine T.ald_0 (q := 112) dX8_partsOf_111 rfl ?_
          refine g_X8_61 rfl dX8_partsOf_112 (q := 115) rfl ?_
          refine T.ild_9 (q := 117) dX8_partsOf_115 rfl ?_
          refine T.iald (n := 7129) rfl rfl (by decide) dX8_partsOf_117 (q := 118) rfl h.1 ?_
          replace h := h.2
          refine k_X8_326 rfl dX8_partsOf_118 (q := 121) rfl (by decide) hc0 hs0 (Nat.le_of_ble_eq_true rfl) ?_
          refine T.ist_7 (q := 123) dX8_partsOf_121 rfl (by decide) sk_ok_i ?_
          refine S.i7 h ?_
          intro y121 h
          refine T.inc_8 (q := 126) (1) dX8_partsOf_123 rfl (by decide) (by decide) sk_ok_i ?_
          refine T.goto (tgt := 36) dX8_partsOf_126 (by decide) ?_
          refine T.drop_9 ?_
          exact hc9 (y107, y121, (s36.2.2.1 + (1 : Int32)), M87) h
        · refine T.ic_ne (tgt := 105) (q := 101) dX8_partsOf_98 (by decide) rfl (fun h98 => ?_) (fun h98 => ?_)
          · replace h := s_fk h98 h
            refine T.iconst (q := 106) (0) dX8_partsOf_105 rfl (by decide) ?_
            exact hJ9 _ h
          · replace h := s_tk h98 h
            refine T.iconst (q := 102) (1) dX8_partsOf_101 rfl (by decide) ?_
            refine T.goto (tgt := 106) dX8_partsOf_102 (by decide) ?_
            exact hJ9 _ h
      · replace h := s_t h58 h
        refine T.goto (tgt := 123) dX8_partsOf_61 (by decide) ?_
        refine T.inc_8 (q := 126) (1) dX8_partsOf_123 rfl (by decide) (by decide) sk_ok_i ?_
        refine T.goto (tgt := 36) dX8_partsOf_126 (by decide) ?_
        exact hc9 (s36.1, s36.2.1, (s36.2.2.1 + (1 : Int32)), s36.2.2.2) h
theorem tl_X8_partsOf_L132 {G : sk_G} {cells slots : Nat} {a3 : Int32} {a4 : Int32} {s129 : Int32 × Int32 × sk_M} {Q : Int32 → sk_M → Prop} {k163 : sk_M → Prop}  (hc0 : cells ≤ 0) (hs0 : slots ≤ 0) (hk163 : ∀ s163 : sk_M, k163 s163 → TJ G mX8_partsOf (sk_R 2 0 0) (sk_K G 0 0 (rI Q) noX) cells slots 163 [none, none, none, none, some (.int a4), none, some (.int s129.1), some (.int s129.2.1), none, none] [] s163) : ∀ (F : Nat) (s132 : Int32 × sk_M), lp (w_X8_partsOf_L132 a3 k163) F s132 → TJ G mX8_partsOf (sk_R 2 0 0) (sk_K G 0 0 (rI Q) noX) cells slots 132 [some (.ref (G.2.2.1 140)), none, none, some (.int a3), some (.int a4), none, some (.int s129.1), some (.int s129.2.1), some (.int s132.1), none] [] s132.2 := by
  refine lp_sound (fun c hc9 s132 h => ?_)
  unfold w_X8_partsOf_L132 at h
  refine T.ild_8 (q := 134) dX8_partsOf_132 rfl ?_
  refine T.sipush (q := 137) (216) dX8_partsOf_134 rfl (by decide) ?_
  refine T.ic_ge (tgt := 163) (q := 140) dX8_partsOf_137 (by decide) rfl (fun h137 => ?_) (fun h137 => ?_)
  · replace h := s_f (fun q => q h137) h
    refine T.drop_0 ?_
    refine T.drop_3 ?_
    refine T.drop_8 ?_
    exact hk163 s132.2 h
  · replace h := s_t h137 h
    refine T.ald_0 (q := 141) dX8_partsOf_140 rfl ?_
    refine g_X8_61 rfl dX8_partsOf_141 (q := 144) rfl ?_
    refine T.sipush (q := 147) (3564) dX8_partsOf_144 rfl (by decide) ?_
    refine T.ald_0 (q := 148) dX8_partsOf_147 rfl ?_
    refine T.ild_3 (q := 149) dX8_partsOf_148 rfl ?_
    refine T.ild_8 (q := 151) dX8_partsOf_149 rfl ?_
    refine k_X8_317 rfl dX8_partsOf_151 (q := 154) rfl (by decide) hc0 hs0 (Nat.le_of_ble_eq_true rfl) (t_X8_soundOf  h) ?_
    rintro r151 _ ⟨h, h9⟩
    obtain rfl := h9.symm
    refine T.iadd (q := 155) dX8_partsOf_154 rfl ?_
    refine T.iconst (q := 156) (0) dX8_partsOf_155 rfl (by decide) ?_
    refine T.iast (n := 7129) rfl rfl (by decide) dX8_partsOf_156 (q := 157) rfl h.1 ?_
    refine S.mem h.2 ?_
    intro M156 h
    refine T.inc_8 (q := 160) (1) dX8_partsOf_157 rfl (by decide) (by decide) sk_ok_i ?_
    refine T.goto (tgt := 132) dX8_partsOf_160 (by decide) ?_
    exact hc9 ((s132.1 + (1 : Int32)), M156) h
theorem t_X8_partsOf {G : sk_G} {M : sk_M} {a1 : Int32} {a2 : Int32} {a3 : Int32} {a4 : Int32}  {Q : Int32 → sk_M → Prop} (h : w_X8_partsOf a1 a2 a3 a4 M Q) : Ctr G mX8_partsOf 2 0 0 [.ref (G.2.2.1 140), .int a1, .int a2, .int a3, .int a4] M (rI Q) noX := by
  unfold w_X8_partsOf at h
  refine Ctr.of 5 (by decide) (Nat.le_of_ble_eq_true rfl) ?_
  show TJ G mX8_partsOf (sk_R 2 0 0) (sk_K G 0 0 (rI Q) noX) 0 0 0 [some (.ref (G.2.2.1 140)), some (.int a1), some (.int a2), some (.int a3), some (.int a4), none, none, none, none, none] [] M
  refine T.ald_0 (q := 1) dX8_partsOf_0 rfl ?_
  refine T.ild_1 (q := 2) dX8_partsOf_1 rfl ?_
  refine T.ild_2 (q := 3) dX8_partsOf_2 rfl ?_
  refine T.ild_3 (q := 4) dX8_partsOf_3 rfl ?_
  refine k_X8_348 rfl dX8_partsOf_4 (q := 7) rfl (by decide) (by decide) (by decide) (Nat.le_of_ble_eq_true rfl) (t_X8_canBe  h) ?_
  rintro r4 _ ⟨h, h9⟩
  obtain rfl := h9.symm
  refine T.ist_5 (q := 9) dX8_partsOf_7 rfl (by decide) sk_ok_i ?_
  refine T.ild_5 (q := 11) dX8_partsOf_9 rfl ?_
  refine s_dia (fun s19_11 : Int32 => TJ G mX8_partsOf (sk_R 2 0 0) (sk_K G 0 0 (rI Q) noX) 0 0 19 [some (.ref (G.2.2.1 140)), some (.int a1), some (.int a2), some (.int a3), some (.int a4), some (.int r4), none, none, none, none] [.int s19_11] M) h (fun s19_11 h => ?_) (fun k9 hJ9 h => ?_)
  · refine T.ist_6 (q := 21) dX8_partsOf_19 rfl (by decide) sk_ok_i ?_
    refine T.ild_5 (q := 23) dX8_partsOf_21 rfl ?_
    refine s_dia (fun s31_23 : Int32 => TJ G mX8_partsOf (sk_R 2 0 0) (sk_K G 0 0 (rI Q) noX) 0 0 31 [some (.ref (G.2.2.1 140)), some (.int a1), some (.int a2), some (.int a3), some (.int a4), some (.int r4), some (.int s19_11), none, none, none] [.int s31_23] M) h (fun s31_23 h => ?_) (fun k9 hJ9 h => ?_)
    · refine T.ist_7 (q := 33) dX8_partsOf_31 rfl (by decide) sk_ok_i ?_
      refine T.iconst (q := 34) (0) dX8_partsOf_33 rfl (by decide) ?_
      refine T.ist_8 (q := 36) dX8_partsOf_34 rfl (by decide) sk_ok_i ?_
      refine T.drop_5 ?_
      refine tl_X8_partsOf_L36  (by decide) (by decide) ?_ _ (s19_11, s31_23, (0 : Int32), M) h
      intro s129 h
      refine T.iconst (q := 130) (0) dX8_partsOf_129 rfl (by decide) ?_
      refine T.ist_8 (q := 132) dX8_partsOf_130 rfl (by decide) sk_ok_i ?_
      refine tl_X8_partsOf_L132  (by decide) (by decide) ?_ _ ((0 : Int32), s129.2.2) h
      intro s163 h
      refine T.ild_4 (q := 165) dX8_partsOf_163 rfl ?_
      refine T.if_eq (tgt := 173) (q := 168) dX8_partsOf_165 (by decide) rfl (fun h165 => ?_) (fun h165 => ?_)
      · replace h := s_f (fun q => q h165) h
        refine T.ild_6 (q := 175) dX8_partsOf_173 rfl ?_
        exact T.retI rfl dX8_partsOf_175 (by decide) (by decide) h
      · replace h := s_t h165 h
        refine T.ild_7 (q := 170) dX8_partsOf_168 rfl ?_
        refine T.goto (tgt := 175) dX8_partsOf_170 (by decide) ?_
        exact T.retI rfl dX8_partsOf_175 (by decide) (by decide) h
    · refine T.if_eq (tgt := 30) (q := 26) dX8_partsOf_23 (by decide) rfl (fun h23 => ?_) (fun h23 => ?_)
      · replace h := s_fk (fun q => q h23) h
        refine T.iconst (q := 31) (0) dX8_partsOf_30 rfl (by decide) ?_
        exact hJ9 _ h
      · replace h := s_tk h23 h
        refine T.iconst (q := 27) (1) dX8_partsOf_26 rfl (by decide) ?_
        refine T.goto (tgt := 31) dX8_partsOf_27 (by decide) ?_
        exact hJ9 _ h
  · refine T.if_eq (tgt := 18) (q := 14) dX8_partsOf_11 (by decide) rfl (fun h11 => ?_) (fun h11 => ?_)
    · replace h := s_fk (fun q => q h11) h
      refine T.iconst (q := 19) (0) dX8_partsOf_18 rfl (by decide) ?_
      exact hJ9 _ h
    · replace h := s_tk h11 h
      refine T.iconst (q := 15) (1) dX8_partsOf_14 rfl (by decide) ?_
      refine T.goto (tgt := 19) dX8_partsOf_15 (by decide) ?_
      exact hJ9 _ h
theorem t_X8_parts {G : sk_G} {M : sk_M} {a1 : Int32} {a2 : Int32} {a3 : Int32} {a4 : Int32}  {Q : Int32 → sk_M → Prop} (h : w_X8_parts a1 a2 a3 a4 M Q) : Ctr G mX8_parts 6 0 0 [.ref (G.2.2.1 140), .int a1, .int a2, .int a3, .int a4] M (rI Q) noX := by
  unfold w_X8_parts at h
  refine Ctr.of 0 (by decide) (Nat.le_of_ble_eq_true rfl) ?_
  show TJ G mX8_parts (sk_R 6 0 0) (sk_K G 0 0 (rI Q) noX) 0 0 0 [some (.ref (G.2.2.1 140)), some (.int a1), some (.int a2), some (.int a3), some (.int a4)] [] M
  refine T.ald_0 (q := 1) dX8_parts_0 rfl ?_
  refine T.iconst (q := 2) (0) dX8_parts_1 rfl (by decide) ?_
  refine p_X8_3 rfl dX8_parts_2 (q := 5) rfl ?_
  refine S.mem h ?_
  intro M2 h
  refine T.ald_0 (q := 6) dX8_parts_5 rfl ?_
  refine T.ald_0 (q := 7) dX8_parts_6 rfl ?_
  refine T.ild_1 (q := 8) dX8_parts_7 rfl ?_
  refine k_X8_342 rfl dX8_parts_8 (q := 11) rfl (by decide) (by decide) (by decide) (Nat.le_of_ble_eq_true rfl) (t_X8_noPerson (P := fun r9 => r9 = (f_X8_noPerson a1 M2)) rfl) ?_
  rintro _ _ ⟨rfl, h9⟩
  obtain rfl := h9.symm
  refine s_dia (fun s34_11 : Int32 => TJ G mX8_parts (sk_R 6 0 0) (sk_K G 0 0 (rI Q) noX) 0 0 34 [some (.ref (G.2.2.1 140)), some (.int a1), some (.int a2), some (.int a3), some (.int a4)] [.int s34_11, .ref (G.2.2.1 140)] M2) h (fun s34_11 h => ?_) (fun k9 hJ9 h => ?_)
  · refine T.iconst (q := 35) (1) dX8_parts_34 rfl (by decide) ?_
    refine k_X8_281 rfl dX8_parts_35 (q := 38) rfl (by decide) (by decide) (by decide) (Nat.le_of_ble_eq_true rfl) (t_X8_throwsIf  h) ?_
    intro r35 M35 h
    refine T.if_eq (tgt := 43) (q := 41) dX8_parts_38 (by decide) rfl (fun h38 => ?_) (fun h38 => ?_)
    · replace h := s_f (fun q => q h38) h
      refine T.ald_0 (q := 44) dX8_parts_43 rfl ?_
      refine k_X8_314 rfl dX8_parts_44 (q := 47) rfl (by decide) (by decide) (by decide) (Nat.le_of_ble_eq_true rfl) (t_X8_laysClicks  h) ?_
      intro M44 h
      refine T.ald_0 (q := 48) dX8_parts_47 rfl ?_
      refine T.ild_1 (q := 49) dX8_parts_48 rfl ?_
      refine T.ild_2 (q := 50) dX8_parts_49 rfl ?_
      refine T.ild_3 (q := 51) dX8_parts_50 rfl ?_
      refine T.ild_4 (q := 53) dX8_parts_51 rfl ?_
      refine k_X8_385 rfl dX8_parts_53 (q := 56) rfl (by decide) (by decide) (by decide) (Nat.le_of_ble_eq_true rfl) (t_X8_partsOf  h) ?_
      intro r53 M53 h
      exact T.retI rfl dX8_parts_56 (by decide) (by decide) h
    · replace h := s_t h38 h
      refine T.iconst (q := 42) (0) dX8_parts_41 rfl (by decide) ?_
      exact T.retI rfl dX8_parts_42 (by decide) (by decide) h
  · refine T.if_ne (tgt := 29) (q := 14) dX8_parts_11 (by decide) rfl (fun h11 => ?_) (fun h11 => ?_)
    · replace h := s_tk (Or.inl h11) h
      refine T.iconst (q := 30) (1) dX8_parts_29 rfl (by decide) ?_
      refine T.goto (tgt := 34) dX8_parts_30 (by decide) ?_
      exact hJ9 _ h
    · refine T.ald_0 (q := 15) dX8_parts_14 rfl ?_
      refine T.ild_2 (q := 16) dX8_parts_15 rfl ?_
      refine k_X8_329 rfl dX8_parts_16 (q := 19) rfl (by decide) (by decide) (by decide) (Nat.le_of_ble_eq_true rfl) (t_X8_noVault (P := fun r9 => r9 = (f_X8_noVault a2 M2)) rfl) ?_
      rintro _ _ ⟨rfl, h9⟩
      obtain rfl := h9.symm
      refine T.if_ne (tgt := 29) (q := 22) dX8_parts_19 (by decide) rfl (fun h19 => ?_) (fun h19 => ?_)
      · replace h := s_tk (Or.inr (Or.inl h19)) h
        refine T.iconst (q := 30) (1) dX8_parts_29 rfl (by decide) ?_
        refine T.goto (tgt := 34) dX8_parts_30 (by decide) ?_
        exact hJ9 _ h
      · refine T.ild_3 (q := 23) dX8_parts_22 rfl ?_
        refine k_X8_311 rfl dX8_parts_23 (q := 26) rfl (by decide) (by decide) (by decide) (Nat.le_of_ble_eq_true rfl) (t_X8_noCode (P := fun r9 => r9 = (f_X8_noCode a3)) rfl) ?_
        rintro _ _ ⟨rfl, h9⟩
        obtain rfl := h9.symm
        refine T.if_eq (tgt := 33) (q := 29) dX8_parts_26 (by decide) rfl (fun h26 => ?_) (fun h26 => ?_)
        · replace h := s_fk (fun q => q.elim (fun q => q h11) (fun q => q.elim (fun q => q h19) (fun q => q h26))) h
          refine T.iconst (q := 34) (0) dX8_parts_33 rfl (by decide) ?_
          exact hJ9 _ h
        · replace h := s_tk (Or.inr (Or.inr h26)) h
          refine T.iconst (q := 30) (1) dX8_parts_29 rfl (by decide) ?_
          refine T.goto (tgt := 34) dX8_parts_30 (by decide) ?_
          exact hJ9 _ h
theorem tl_X8_nextOf_L10 {G : sk_G} {cells slots : Nat} {a1 : Int32} {a2 : Int32} {Q : Int32 → sk_M → Prop}  (hc0 : cells ≤ 0) (hs0 : slots ≤ 0) : ∀ (F : Nat) (s10 : Int32 × Int32 × Int32 × sk_M), lp (w_X8_nextOf_L10 a1 a2 Q) F s10 → TJ G mX8_nextOf (sk_R 3 0 0) (sk_K G 0 0 (rI Q) noX) cells slots 10 [some (.ref (G.2.2.1 140)), some (.int a1), some (.int a2), some (.int s10.1), some (.int s10.2.1), some (.int s10.2.2.1), none] [] s10.2.2.2 := by
  refine lp_sound (fun c hc9 s10 h => ?_)
  unfold w_X8_nextOf_L10 at h
  refine T.ild_5 (q := 12) dX8_nextOf_10 rfl ?_
  refine T.sipush (q := 15) (216) dX8_nextOf_12 rfl (by decide) ?_
  refine T.ic_ge (tgt := 71) (q := 18) dX8_nextOf_15 (by decide) rfl (fun h15 => ?_) (fun h15 => ?_)
  · replace h := s_f (fun q => q h15) h
    refine T.ild_3 (q := 72) dX8_nextOf_71 rfl ?_
    exact T.retI rfl dX8_nextOf_72 hc0 hs0 h
  · replace h := s_t h15 h
    refine T.iconst (q := 19) (2) dX8_nextOf_18 rfl (by decide) ?_
    refine T.ald_0 (q := 20) dX8_nextOf_19 rfl ?_
    refine T.ild_1 (q := 21) dX8_nextOf_20 rfl ?_
    refine T.ild_2 (q := 22) dX8_nextOf_21 rfl ?_
    refine T.ild_5 (q := 24) dX8_nextOf_22 rfl ?_
    refine T.iconst (q := 25) (1) dX8_nextOf_24 rfl (by decide) ?_
    refine k_X8_385 rfl dX8_nextOf_25 (q := 28) rfl (by decide) hc0 hs0 (Nat.le_of_ble_eq_true rfl) (t_X8_partsOf  h) ?_
    intro r25 M25 h
    refine T.imul (q := 29) dX8_nextOf_28 rfl ?_
    refine T.ald_0 (q := 30) dX8_nextOf_29 rfl ?_
    refine T.ild_1 (q := 31) dX8_nextOf_30 rfl ?_
    refine T.ild_2 (q := 32) dX8_nextOf_31 rfl ?_
    refine T.ild_5 (q := 34) dX8_nextOf_32 rfl ?_
    refine k_X8_348 rfl dX8_nextOf_34 (q := 37) rfl (by decide) hc0 hs0 (Nat.le_of_ble_eq_true rfl) (t_X8_canBe  h) ?_
    rintro r34 _ ⟨h, h9⟩
    obtain rfl := h9.symm
    refine s_dia (fun s45_37 : Int32 => TJ G mX8_nextOf (sk_R 3 0 0) (sk_K G 0 0 (rI Q) noX) cells slots 45 [some (.ref (G.2.2.1 140)), some (.int a1), some (.int a2), some (.int s10.1), some (.int s10.2.1), some (.int s10.2.2.1), none] [.int s45_37, .int ((2 : Int32) * r25)] M25) h (fun s45_37 h => ?_) (fun k9 hJ9 h => ?_)
    · refine T.iadd (q := 46) dX8_nextOf_45 rfl ?_
      refine T.ist_6 (q := 48) dX8_nextOf_46 rfl (by decide) sk_ok_i ?_
      refine S.i6 h ?_
      intro y46 h
      refine T.ild_6 (q := 50) dX8_nextOf_48 rfl ?_
      refine T.ild_4 (q := 52) dX8_nextOf_50 rfl ?_
      refine T.ic_lt (tgt := 58) (q := 55) dX8_nextOf_52 (by decide) rfl (fun h52 => ?_) (fun h52 => ?_)
      · replace h := s_f (fun q => q h52) h
        refine T.ild_5 (q := 60) dX8_nextOf_58 rfl ?_
        refine T.ist_3 (q := 61) dX8_nextOf_60 rfl (by decide) sk_ok_i ?_
        refine T.ild_6 (q := 63) dX8_nextOf_61 rfl ?_
        refine T.ist_4 (q := 65) dX8_nextOf_63 rfl (by decide) sk_ok_i ?_
        refine T.inc_5 (q := 68) (1) dX8_nextOf_65 rfl (by decide) (by decide) sk_ok_i ?_
        refine T.goto (tgt := 10) dX8_nextOf_68 (by decide) ?_
        refine T.drop_6 ?_
        exact hc9 (s10.2.2.1, y46, (s10.2.2.1 + (1 : Int32)), M25) h
      · replace h := s_t h52 h
        refine T.goto (tgt := 65) dX8_nextOf_55 (by decide) ?_
        refine T.inc_5 (q := 68) (1) dX8_nextOf_65 rfl (by decide) (by decide) sk_ok_i ?_
        refine T.goto (tgt := 10) dX8_nextOf_68 (by decide) ?_
        refine T.drop_6 ?_
        exact hc9 (s10.1, s10.2.1, (s10.2.2.1 + (1 : Int32)), M25) h
    · refine T.if_eq (tgt := 44) (q := 40) dX8_nextOf_37 (by decide) rfl (fun h37 => ?_) (fun h37 => ?_)
      · replace h := s_fk (fun q => q h37) h
        refine T.iconst (q := 45) (1) dX8_nextOf_44 rfl (by decide) ?_
        exact hJ9 _ h
      · replace h := s_tk h37 h
        refine T.iconst (q := 41) (0) dX8_nextOf_40 rfl (by decide) ?_
        refine T.goto (tgt := 45) dX8_nextOf_41 (by decide) ?_
        exact hJ9 _ h
theorem t_X8_nextOf {G : sk_G} {M : sk_M} {a1 : Int32} {a2 : Int32}  {Q : Int32 → sk_M → Prop} (h : w_X8_nextOf a1 a2 M Q) : Ctr G mX8_nextOf 3 0 0 [.ref (G.2.2.1 140), .int a1, .int a2] M (rI Q) noX := by
  unfold w_X8_nextOf at h
  refine Ctr.of 4 (by decide) (Nat.le_of_ble_eq_true rfl) ?_
  show TJ G mX8_nextOf (sk_R 3 0 0) (sk_K G 0 0 (rI Q) noX) 0 0 0 [some (.ref (G.2.2.1 140)), some (.int a1), some (.int a2), none, none, none, none] [] M
  refine T.iconst (q := 1) (-1) dX8_nextOf_0 rfl (by decide) ?_
  refine T.ist_3 (q := 2) dX8_nextOf_1 rfl (by decide) sk_ok_i ?_
  refine T.ldcw (q := 5) (1000000) dX8_nextOf_2 rfl w_X8_c389 ?_
  refine T.ist_4 (q := 7) dX8_nextOf_5 rfl (by decide) sk_ok_i ?_
  refine T.iconst (q := 8) (0) dX8_nextOf_7 rfl (by decide) ?_
  refine T.ist_5 (q := 10) dX8_nextOf_8 rfl (by decide) sk_ok_i ?_
  exact tl_X8_nextOf_L10  (by decide) (by decide) _ ((-1 : Int32), (1000000 : Int32), (0 : Int32), M) h
theorem t_X8_next {G : sk_G} {M : sk_M} {a1 : Int32} {a2 : Int32}  {Q : Int32 → sk_M → Prop} (h : w_X8_next a1 a2 M Q) : Ctr G mX8_next 6 0 0 [.ref (G.2.2.1 140), .int a1, .int a2] M (rI Q) noX := by
  unfold w_X8_next at h
  refine Ctr.of 0 (by decide) (Nat.le_of_ble_eq_true rfl) ?_
  show TJ G mX8_next (sk_R 6 0 0) (sk_K G 0 0 (rI Q) noX) 0 0 0 [some (.ref (G.2.2.1 140)), some (.int a1), some (.int a2)] [] M
  refine T.ald_0 (q := 1) dX8_next_0 rfl ?_
  refine T.iconst (q := 2) (0) dX8_next_1 rfl (by decide) ?_
  refine p_X8_3 rfl dX8_next_2 (q := 5) rfl ?_
  refine S.mem h ?_
  intro M2 h
  refine T.ald_0 (q := 6) dX8_next_5 rfl ?_
  refine T.ald_0 (q := 7) dX8_next_6 rfl ?_
  refine T.ild_1 (q := 8) dX8_next_7 rfl ?_
  refine k_X8_342 rfl dX8_next_8 (q := 11) rfl (by decide) (by decide) (by decide) (Nat.le_of_ble_eq_true rfl) (t_X8_noPerson (P := fun r9 => r9 = (f_X8_noPerson a1 M2)) rfl) ?_
  rintro _ _ ⟨rfl, h9⟩
  obtain rfl := h9.symm
  refine s_dia (fun s27_11 : Int32 => TJ G mX8_next (sk_R 6 0 0) (sk_K G 0 0 (rI Q) noX) 0 0 27 [some (.ref (G.2.2.1 140)), some (.int a1), some (.int a2)] [.int s27_11, .ref (G.2.2.1 140)] M2) h (fun s27_11 h => ?_) (fun k9 hJ9 h => ?_)
  · refine T.iconst (q := 28) (1) dX8_next_27 rfl (by decide) ?_
    refine k_X8_281 rfl dX8_next_28 (q := 31) rfl (by decide) (by decide) (by decide) (Nat.le_of_ble_eq_true rfl) (t_X8_throwsIf  h) ?_
    intro r28 M28 h
    refine T.if_eq (tgt := 36) (q := 34) dX8_next_31 (by decide) rfl (fun h31 => ?_) (fun h31 => ?_)
    · replace h := s_f (fun q => q h31) h
      refine T.ald_0 (q := 37) dX8_next_36 rfl ?_
      refine k_X8_314 rfl dX8_next_37 (q := 40) rfl (by decide) (by decide) (by decide) (Nat.le_of_ble_eq_true rfl) (t_X8_laysClicks  h) ?_
      intro M37 h
      refine T.ald_0 (q := 41) dX8_next_40 rfl ?_
      refine T.ild_1 (q := 42) dX8_next_41 rfl ?_
      refine T.ild_2 (q := 43) dX8_next_42 rfl ?_
      refine k_X8_390 rfl dX8_next_43 (q := 46) rfl (by decide) (by decide) (by decide) (Nat.le_of_ble_eq_true rfl) (t_X8_nextOf  h) ?_
      intro r43 M43 h
      exact T.retI rfl dX8_next_46 (by decide) (by decide) h
    · replace h := s_t h31 h
      refine T.iconst (q := 35) (0) dX8_next_34 rfl (by decide) ?_
      exact T.retI rfl dX8_next_35 (by decide) (by decide) h
  · refine T.if_ne (tgt := 22) (q := 14) dX8_next_11 (by decide) rfl (fun h11 => ?_) (fun h11 => ?_)
    · replace h := s_tk (Or.inl h11) h
      refine T.iconst (q := 23) (1) dX8_next_22 rfl (by decide) ?_
      refine T.goto (tgt := 27) dX8_next_23 (by decide) ?_
      exact hJ9 _ h
    · refine T.ald_0 (q := 15) dX8_next_14 rfl ?_
      refine T.ild_2 (q := 16) dX8_next_15 rfl ?_
      refine k_X8_329 rfl dX8_next_16 (q := 19) rfl (by decide) (by decide) (by decide) (Nat.le_of_ble_eq_true rfl) (t_X8_noVault (P := fun r9 => r9 = (f_X8_noVault a2 M2)) rfl) ?_
      rintro _ _ ⟨rfl, h9⟩
      obtain rfl := h9.symm
      refine T.if_eq (tgt := 26) (q := 22) dX8_next_19 (by decide) rfl (fun h19 => ?_) (fun h19 => ?_)
      · replace h := s_fk (fun q => q.elim (fun q => q h11) (fun q => q h19)) h
        refine T.iconst (q := 27) (0) dX8_next_26 rfl (by decide) ?_
        exact hJ9 _ h
      · replace h := s_tk (Or.inr h19) h
        refine T.iconst (q := 23) (1) dX8_next_22 rfl (by decide) ?_
        refine T.goto (tgt := 27) dX8_next_23 (by decide) ?_
        exact hJ9 _ h
theorem tl_X8_outright_L42 {G : sk_G} {cells slots : Nat} {a1 : Int32} {a2 : Int32} {Q : Int32 → sk_M → Prop}  (hc0 : cells ≤ 0) (hs0 : slots ≤ 0) : ∀ (F : Nat) (s42 : Int32 × sk_M), lp (w_X8_outright_L42 a1 a2 Q) F s42 → TJ G mX8_outright (sk_R 6 0 0) (sk_K G 0 0 (rI Q) noX) cells slots 42 [some (.ref (G.2.2.1 140)), some (.int a1), some (.int a2), some (.int s42.1)] [] s42.2 := by
  refine lp_sound (fun c hc9 s42 h => ?_)
  unfold w_X8_outright_L42 at h
  refine T.ild_3 (q := 43) dX8_outright_42 rfl ?_
  refine T.sipush (q := 46) (216) dX8_outright_43 rfl (by decide) ?_
  refine T.ic_ge (tgt := 69) (q := 49) dX8_outright_46 (by decide) rfl (fun h46 => ?_) (fun h46 => ?_)
  · replace h := s_f (fun q => q h46) h
    refine T.iconst (q := 70) (-1) dX8_outright_69 rfl (by decide) ?_
    exact T.retI rfl dX8_outright_70 hc0 hs0 h
  · replace h := s_t h46 h
    refine T.ald_0 (q := 50) dX8_outright_49 rfl ?_
    refine T.ild_1 (q := 51) dX8_outright_50 rfl ?_
    refine T.ild_2 (q := 52) dX8_outright_51 rfl ?_
    refine T.ild_3 (q := 53) dX8_outright_52 rfl ?_
    refine T.iconst (q := 54) (1) dX8_outright_53 rfl (by decide) ?_
    refine k_X8_385 rfl dX8_outright_54 (q := 57) rfl (by decide) hc0 hs0 (Nat.le_of_ble_eq_true rfl) (t_X8_partsOf  h) ?_
    intro r54 M54 h
    refine T.iconst (q := 58) (1) dX8_outright_57 rfl (by decide) ?_
    refine T.ic_gt (tgt := 63) (q := 61) dX8_outright_58 (by decide) rfl (fun h58 => ?_) (fun h58 => ?_)
    · replace h := s_f (fun q => q h58) h
      refine T.inc_3 (q := 66) (1) dX8_outright_63 rfl (by decide) (by decide) sk_ok_i ?_
      refine T.goto (tgt := 42) dX8_outright_66 (by decide) ?_
      exact hc9 ((s42.1 + (1 : Int32)), M54) h
    · replace h := s_t h58 h
      refine T.ild_3 (q := 62) dX8_outright_61 rfl ?_
      exact T.retI rfl dX8_outright_62 hc0 hs0 h
theorem t_X8_outright {G : sk_G} {M : sk_M} {a1 : Int32} {a2 : Int32}  {Q : Int32 → sk_M → Prop} (h : w_X8_outright a1 a2 M Q) : Ctr G mX8_outright 6 0 0 [.ref (G.2.2.1 140), .int a1, .int a2] M (rI Q) noX := by
  unfold w_X8_outright at h
  refine Ctr.of 1 (by decide) (Nat.le_of_ble_eq_true rfl) ?_
  show TJ G mX8_outright (sk_R 6 0 0) (sk_K G 0 0 (rI Q) noX) 0 0 0 [some (.ref (G.2.2.1 140)), some (.int a1), some (.int a2), none] [] M
  refine T.ald_0 (q := 1) dX8_outright_0 rfl ?_
  refine T.iconst (q := 2) (0) dX8_outright_1 rfl (by decide) ?_
  refine p_X8_3 rfl dX8_outright_2 (q := 5) rfl ?_
  refine S.mem h ?_
  intro M2 h
  refine T.ald_0 (q := 6) dX8_outright_5 rfl ?_
  refine T.ald_0 (q := 7) dX8_outright_6 rfl ?_
  refine T.ild_1 (q := 8) dX8_outright_7 rfl ?_
  refine k_X8_342 rfl dX8_outright_8 (q := 11) rfl (by decide) (by decide) (by decide) (Nat.le_of_ble_eq_true rfl) (t_X8_noPerson (P := fun r9 => r9 = (f_X8_noPerson a1 M2)) rfl) ?_
  rintro _ _ ⟨rfl, h9⟩
  obtain rfl := h9.symm
  refine s_dia (fun s27_11 : Int32 => TJ G mX8_outright (sk_R 6 0 0) (sk_K G 0 0 (rI Q) noX) 0 0 27 [some (.ref (G.2.2.1 140)), some (.int a1), some (.int a2), none] [.int s27_11, .ref (G.2.2.1 140)] M2) h (fun s27_11 h => ?_) (fun k9 hJ9 h => ?_)
  · refine T.iconst (q := 28) (1) dX8_outright_27 rfl (by decide) ?_
    refine k_X8_281 rfl dX8_outright_28 (q := 31) rfl (by decide) (by decide) (by decide) (Nat.le_of_ble_eq_true rfl) (t_X8_throwsIf  h) ?_
    intro r28 M28 h
    refine T.if_eq (tgt := 36) (q := 34) dX8_outright_31 (by decide) rfl (fun h31 => ?_) (fun h31 => ?_)
    · replace h := s_f (fun q => q h31) h
      refine T.ald_0 (q := 37) dX8_outright_36 rfl ?_
      refine k_X8_314 rfl dX8_outright_37 (q := 40) rfl (by decide) (by decide) (by decide) (Nat.le_of_ble_eq_true rfl) (t_X8_laysClicks  h) ?_
      intro M37 h
      refine T.iconst (q := 41) (0) dX8_outright_40 rfl (by decide) ?_
      refine T.ist_3 (q := 42) dX8_outright_41 rfl (by decide) sk_ok_i ?_
      exact tl_X8_outright_L42  (by decide) (by decide) _ ((0 : Int32), M37) h
    · replace h := s_t h31 h
      refine T.iconst (q := 35) (0) dX8_outright_34 rfl (by decide) ?_
      exact T.retI rfl dX8_outright_35 (by decide) (by decide) h
  · refine T.if_ne (tgt := 22) (q := 14) dX8_outright_11 (by decide) rfl (fun h11 => ?_) (fun h11 => ?_)
    · replace h := s_tk (Or.inl h11) h
      refine T.iconst (q := 23) (1) dX8_outright_22 rfl (by decide) ?_
      refine T.goto (tgt := 27) dX8_outright_23 (by decide) ?_
      exact hJ9 _ h
    · refine T.ald_0 (q := 15) dX8_outright_14 rfl ?_
      refine T.ild_2 (q := 16) dX8_outright_15 rfl ?_
      refine k_X8_329 rfl dX8_outright_16 (q := 19) rfl (by decide) (by decide) (by decide) (Nat.le_of_ble_eq_true rfl) (t_X8_noVault (P := fun r9 => r9 = (f_X8_noVault a2 M2)) rfl) ?_
      rintro _ _ ⟨rfl, h9⟩
      obtain rfl := h9.symm
      refine T.if_eq (tgt := 26) (q := 22) dX8_outright_19 (by decide) rfl (fun h19 => ?_) (fun h19 => ?_)
      · replace h := s_fk (fun q => q.elim (fun q => q h11) (fun q => q h19)) h
        refine T.iconst (q := 27) (0) dX8_outright_26 rfl (by decide) ?_
        exact hJ9 _ h
      · replace h := s_tk (Or.inr h19) h
        refine T.iconst (q := 23) (1) dX8_outright_22 rfl (by decide) ?_
        refine T.goto (tgt := 27) dX8_outright_23 (by decide) ?_
        exact hJ9 _ h
theorem tl_X8_worstBy_L41 {G : sk_G} {M : sk_M} {cells slots : Nat} {a1 : Int32} {a2 : Int32} {s5 : Int32 × Int32} {Q : Int32 → Prop} {k114 : Int32 → Prop}  (hc0 : cells ≤ 0) (hs0 : slots ≤ 0) (hk114 : ∀ s114 : Int32, k114 s114 → TJ G mX8_worstBy (sk_R 2 0 0) (sk_K G 0 0 (rI fun r9 M9 => Q r9 ∧ M9 = M) noX) cells slots 114 [some (.ref (G.2.2.1 140)), some (.int a1), some (.int a2), some (.int s5.1), some (.int s5.2), some (.int s114), none] [] M) : ∀ (F : Nat) (s41 : Int32 × Int32), lp (w_X8_worstBy_L41 a1 a2 s5 M k114) F s41 → TJ G mX8_worstBy (sk_R 2 0 0) (sk_K G 0 0 (rI fun r9 M9 => Q r9 ∧ M9 = M) noX) cells slots 41 [some (.ref (G.2.2.1 140)), some (.int a1), some (.int a2), some (.int s5.1), some (.int s5.2), some (.int s41.1), some (.int s41.2)] [] M := by
  refine lp_sound (fun c hc9 s41 h => ?_)
  unfold w_X8_worstBy_L41 at h
  refine T.ild_6 (q := 43) dX8_worstBy_41 rfl ?_
  refine T.bipush (q := 45) (6) dX8_worstBy_43 rfl (by decide) ?_
  refine T.ic_ge (tgt := 114) (q := 48) dX8_worstBy_45 (by decide) rfl (fun h45 => ?_) (fun h45 => ?_)
  · replace h := s_f (fun q => q h45) h
    refine T.drop_6 ?_
    exact hk114 s41.1 h
  · replace h := s_t h45 h
    refine T.ild_5 (q := 50) dX8_worstBy_48 rfl ?_
    refine T.ild_1 (q := 51) dX8_worstBy_50 rfl ?_
    refine T.ild_6 (q := 53) dX8_worstBy_51 rfl ?_
    refine k_X8_320 rfl dX8_worstBy_53 (q := 56) rfl (by decide) hc0 hs0 (Nat.le_of_ble_eq_true rfl) (t_X8_has (P := fun r9 => r9 = (f_X8_has a1 s41.2)) rfl) ?_
    rintro _ _ ⟨rfl, h9⟩
    obtain rfl := h9.symm
    refine T.if_eq (tgt := 104) (q := 59) dX8_worstBy_56 (by decide) rfl (fun h56 => ?_) (fun h56 => ?_)
    · replace h := s_f (fun q => q h56) h
      refine T.iconst (q := 105) (0) dX8_worstBy_104 rfl (by decide) ?_
      refine T.ior (q := 106) dX8_worstBy_105 rfl ?_
      refine T.ist_5 (q := 108) dX8_worstBy_106 rfl (by decide) sk_ok_i ?_
      refine S.i5 h ?_
      intro y106 h
      refine T.inc_6 (q := 111) (1) dX8_worstBy_108 rfl (by decide) (by decide) sk_ok_i ?_
      refine T.goto (tgt := 41) dX8_worstBy_111 (by decide) ?_
      exact hc9 (y106, (s41.2 + (1 : Int32))) h
    · replace h := s_t h56 h
      refine T.ald_0 (q := 60) dX8_worstBy_59 rfl ?_
      refine g_X8_64 rfl dX8_worstBy_60 (q := 63) rfl ?_
      refine T.ild_6 (q := 65) dX8_worstBy_63 rfl ?_
      refine T.iald (n := 6) rfl rfl (by decide) dX8_worstBy_65 (q := 66) rfl h.1 ?_
      replace h := h.2
      refine T.ild_2 (q := 67) dX8_worstBy_66 rfl ?_
      refine T.ic_eq (tgt := 104) (q := 70) dX8_worstBy_67 (by decide) rfl (fun h67 => ?_) (fun h67 => ?_)
      · replace h := s_f (fun q => q h67) h
        refine T.iconst (q := 105) (0) dX8_worstBy_104 rfl (by decide) ?_
        refine T.ior (q := 106) dX8_worstBy_105 rfl ?_
        refine T.ist_5 (q := 108) dX8_worstBy_106 rfl (by decide) sk_ok_i ?_
        refine S.i5 h ?_
        intro y106 h
        refine T.inc_6 (q := 111) (1) dX8_worstBy_108 rfl (by decide) (by decide) sk_ok_i ?_
        refine T.goto (tgt := 41) dX8_worstBy_111 (by decide) ?_
        exact hc9 (y106, (s41.2 + (1 : Int32))) h
      · replace h := s_t h67 h
        refine T.ald_0 (q := 71) dX8_worstBy_70 rfl ?_
        refine T.ild_2 (q := 72) dX8_worstBy_71 rfl ?_
        refine T.ald_0 (q := 73) dX8_worstBy_72 rfl ?_
        refine g_X8_64 rfl dX8_worstBy_73 (q := 76) rfl ?_
        refine T.ild_6 (q := 78) dX8_worstBy_76 rfl ?_
        refine T.iald (n := 6) rfl rfl (by decide) dX8_worstBy_78 (q := 79) rfl h.1 ?_
        replace h := h.2
        refine k_X8_317 rfl dX8_worstBy_79 (q := 82) rfl (by decide) hc0 hs0 (Nat.le_of_ble_eq_true rfl) (t_X8_soundOf  h) ?_
        rintro r79 _ ⟨h, h9⟩
        obtain rfl := h9.symm
        refine T.ald_0 (q := 83) dX8_worstBy_82 rfl ?_
        refine T.ild_2 (q := 84) dX8_worstBy_83 rfl ?_
        refine T.ald_0 (q := 85) dX8_worstBy_84 rfl ?_
        refine g_X8_64 rfl dX8_worstBy_85 (q := 88) rfl ?_
        refine T.ild_4 (q := 90) dX8_worstBy_88 rfl ?_
        refine T.iald (n := 6) rfl rfl (by decide) dX8_worstBy_90 (q := 91) rfl h.1 ?_
        replace h := h.2
        refine k_X8_317 rfl dX8_worstBy_91 (q := 94) rfl (by decide) hc0 hs0 (Nat.le_of_ble_eq_true rfl) (t_X8_soundOf  h) ?_
        rintro r91 _ ⟨h, h9⟩
        obtain rfl := h9.symm
        refine T.ic_ne (tgt := 104) (q := 97) dX8_worstBy_94 (by decide) rfl (fun h94 => ?_) (fun h94 => ?_)
        · replace h := s_f h94 h
          refine T.iconst (q := 105) (0) dX8_worstBy_104 rfl (by decide) ?_
          refine T.ior (q := 106) dX8_worstBy_105 rfl ?_
          refine T.ist_5 (q := 108) dX8_worstBy_106 rfl (by decide) sk_ok_i ?_
          refine S.i5 h ?_
          intro y106 h
          refine T.inc_6 (q := 111) (1) dX8_worstBy_108 rfl (by decide) (by decide) sk_ok_i ?_
          refine T.goto (tgt := 41) dX8_worstBy_111 (by decide) ?_
          exact hc9 (y106, (s41.2 + (1 : Int32))) h
        · replace h := s_t h94 h
          refine T.iconst (q := 98) (1) dX8_worstBy_97 rfl (by decide) ?_
          refine T.ild_6 (q := 100) dX8_worstBy_98 rfl ?_
          refine T.ishl (q := 101) dX8_worstBy_100 rfl ?_
          refine T.goto (tgt := 105) dX8_worstBy_101 (by decide) ?_
          refine T.ior (q := 106) dX8_worstBy_105 rfl ?_
          refine T.ist_5 (q := 108) dX8_worstBy_106 rfl (by decide) sk_ok_i ?_
          refine S.i5 h ?_
          intro y106 h
          refine T.inc_6 (q := 111) (1) dX8_worstBy_108 rfl (by decide) (by decide) sk_ok_i ?_
          refine T.goto (tgt := 41) dX8_worstBy_111 (by decide) ?_
          exact hc9 (y106, (s41.2 + (1 : Int32))) h
theorem tl_X8_worstBy_L5 {G : sk_G} {M : sk_M} {cells slots : Nat} {a1 : Int32} {a2 : Int32} {Q : Int32 → Prop}  (hc0 : cells ≤ 0) (hs0 : slots ≤ 0) : ∀ (F : Nat) (s5 : Int32 × Int32), lp (w_X8_worstBy_L5 a1 a2 M Q) F s5 → TJ G mX8_worstBy (sk_R 2 0 0) (sk_K G 0 0 (rI fun r9 M9 => Q r9 ∧ M9 = M) noX) cells slots 5 [some (.ref (G.2.2.1 140)), some (.int a1), some (.int a2), some (.int s5.1), some (.int s5.2), none, none] [] M := by
  refine lp_sound (fun c hc9 s5 h => ?_)
  unfold w_X8_worstBy_L5 at h
  refine T.ild_4 (q := 7) dX8_worstBy_5 rfl ?_
  refine T.bipush (q := 9) (6) dX8_worstBy_7 rfl (by decide) ?_
  refine T.ic_ge (tgt := 144) (q := 12) dX8_worstBy_9 (by decide) rfl (fun h9 => ?_) (fun h9 => ?_)
  · replace h := s_f (fun q => q h9) h
    refine T.ild_3 (q := 145) dX8_worstBy_144 rfl ?_
    exact T.retI rfl dX8_worstBy_145 hc0 hs0 ⟨h, rfl⟩
  · replace h := s_t h9 h
    refine T.ild_1 (q := 13) dX8_worstBy_12 rfl ?_
    refine T.ild_4 (q := 15) dX8_worstBy_13 rfl ?_
    refine k_X8_320 rfl dX8_worstBy_15 (q := 18) rfl (by decide) hc0 hs0 (Nat.le_of_ble_eq_true rfl) (t_X8_has (P := fun r9 => r9 = (f_X8_has a1 s5.2)) rfl) ?_
    rintro _ _ ⟨rfl, h9⟩
    obtain rfl := h9.symm
    refine T.if_eq (tgt := 138) (q := 21) dX8_worstBy_18 (by decide) rfl (fun h18 => ?_) (fun h18 => ?_)
    · replace h := s_f (fun q => q h18) h
      refine T.inc_4 (q := 141) (1) dX8_worstBy_138 rfl (by decide) (by decide) sk_ok_i ?_
      refine T.goto (tgt := 5) dX8_worstBy_141 (by decide) ?_
      exact hc9 (s5.1, (s5.2 + (1 : Int32))) h
    · replace h := s_t h18 h
      refine T.ald_0 (q := 22) dX8_worstBy_21 rfl ?_
      refine g_X8_64 rfl dX8_worstBy_22 (q := 25) rfl ?_
      refine T.ild_4 (q := 27) dX8_worstBy_25 rfl ?_
      refine T.iald (n := 6) rfl rfl (by decide) dX8_worstBy_27 (q := 28) rfl h.1 ?_
      replace h := h.2
      refine T.ild_2 (q := 29) dX8_worstBy_28 rfl ?_
      refine T.ic_ne (tgt := 35) (q := 32) dX8_worstBy_29 (by decide) rfl (fun h29 => ?_) (fun h29 => ?_)
      · replace h := s_f h29 h
        refine T.iconst (q := 36) (0) dX8_worstBy_35 rfl (by decide) ?_
        refine T.ist_5 (q := 38) dX8_worstBy_36 rfl (by decide) sk_ok_i ?_
        refine T.iconst (q := 39) (0) dX8_worstBy_38 rfl (by decide) ?_
        refine T.ist_6 (q := 41) dX8_worstBy_39 rfl (by decide) sk_ok_i ?_
        refine tl_X8_worstBy_L41  hc0 hs0 ?_ _ ((0 : Int32), (0 : Int32)) h
        intro s114 h
        refine T.ild_3 (q := 115) dX8_worstBy_114 rfl ?_
        refine T.ild_5 (q := 117) dX8_worstBy_115 rfl ?_
        refine T.ild_1 (q := 118) dX8_worstBy_117 rfl ?_
        refine T.ic_ne (tgt := 127) (q := 121) dX8_worstBy_118 (by decide) rfl (fun h118 => ?_) (fun h118 => ?_)
        · replace h := s_f h118 h
          refine T.ald_0 (q := 128) dX8_worstBy_127 rfl ?_
          refine g_X8_67 rfl dX8_worstBy_128 (q := 131) rfl ?_
          refine T.ild_5 (q := 133) dX8_worstBy_131 rfl ?_
          refine T.iald (n := 64) rfl rfl (by decide) dX8_worstBy_133 (q := 134) rfl h.1 ?_
          replace h := h.2
          refine k_X8_326 rfl dX8_worstBy_134 (q := 137) rfl (by decide) hc0 hs0 (Nat.le_of_ble_eq_true rfl) ?_
          refine T.ist_3 (q := 138) dX8_worstBy_137 rfl (by decide) sk_ok_i ?_
          refine S.i3 h ?_
          intro y137 h
          refine T.inc_4 (q := 141) (1) dX8_worstBy_138 rfl (by decide) (by decide) sk_ok_i ?_
          refine T.goto (tgt := 5) dX8_worstBy_141 (by decide) ?_
          refine T.drop_5 ?_
          exact hc9 (y137, (s5.2 + (1 : Int32))) h
        · replace h := s_t h118 h
          refine T.ldcw (q := 124) (1000000) dX8_worstBy_121 rfl w_X8_c389 ?_
          refine T.goto (tgt := 134) dX8_worstBy_124 (by decide) ?_
          refine k_X8_326 rfl dX8_worstBy_134 (q := 137) rfl (by decide) hc0 hs0 (Nat.le_of_ble_eq_true rfl) ?_
          refine T.ist_3 (q := 138) dX8_worstBy_137 rfl (by decide) sk_ok_i ?_
          refine S.i3 h ?_
          intro y137 h
          refine T.inc_4 (q := 141) (1) dX8_worstBy_138 rfl (by decide) (by decide) sk_ok_i ?_
          refine T.goto (tgt := 5) dX8_worstBy_141 (by decide) ?_
          refine T.drop_5 ?_
          exact hc9 (y137, (s5.2 + (1 : Int32))) h
      · replace h := s_t h29 h
        refine T.goto (tgt := 138) dX8_worstBy_32 (by decide) ?_
        refine T.inc_4 (q := 141) (1) dX8_worstBy_138 rfl (by decide) (by decide) sk_ok_i ?_
        refine T.goto (tgt := 5) dX8_worstBy_141 (by decide) ?_
        exact hc9 (s5.1, (s5.2 + (1 : Int32))) h
theorem t_X8_worstBy {G : sk_G} {M : sk_M} {a1 : Int32} {a2 : Int32}  {Q : Int32 → Prop} (h : w_X8_worstBy a1 a2 M Q) : Ctr G mX8_worstBy 2 0 0 [.ref (G.2.2.1 140), .int a1, .int a2] M (rI fun r9 M9 => Q r9 ∧ M9 = M) noX := by
  unfold w_X8_worstBy at h
  refine Ctr.of 4 (by decide) (Nat.le_of_ble_eq_true rfl) ?_
  show TJ G mX8_worstBy (sk_R 2 0 0) (sk_K G 0 0 (rI fun r9 M9 => Q r9 ∧ M9 = M) noX) 0 0 0 [some (.ref (G.2.2.1 140)), some (.int a1), some (.int a2), none, none, none, none] [] M
  refine T.iconst (q := 1) (0) dX8_worstBy_0 rfl (by decide) ?_
  refine T.ist_3 (q := 2) dX8_worstBy_1 rfl (by decide) sk_ok_i ?_
  refine T.iconst (q := 3) (0) dX8_worstBy_2 rfl (by decide) ?_
  refine T.ist_4 (q := 5) dX8_worstBy_3 rfl (by decide) sk_ok_i ?_
  exact tl_X8_worstBy_L5  (by decide) (by decide) _ ((0 : Int32), (0 : Int32)) h
theorem tl_X8_worst_L62 {G : sk_G} {cells slots : Nat} {a1 : Int32} {a2 : Int32} {r39 : Int32} {Q : Int32 → sk_M → Prop} {k102 : sk_M → Prop}  (hc0 : cells ≤ 0) (hs0 : slots ≤ 0) (hk102 : ∀ s102 : sk_M, k102 s102 → TJ G mX8_worst (sk_R 6 0 0) (sk_K G 0 0 (rI Q) noX) cells slots 102 [some (.ref (G.2.2.1 140)), none, none, some (.int r39), none, none, none] [] s102) : ∀ (F : Nat) (s62 : Int32 × Int32 × sk_M), lp (w_X8_worst_L62 a1 a2 k102) F s62 → TJ G mX8_worst (sk_R 6 0 0) (sk_K G 0 0 (rI Q) noX) cells slots 62 [some (.ref (G.2.2.1 140)), some (.int a1), some (.int a2), some (.int r39), some (.int s62.1), some (.int s62.2.1), none] [] s62.2.2 := by
  refine lp_sound (fun c hc9 s62 h => ?_)
  unfold w_X8_worst_L62 at h
  refine T.ild_5 (q := 64) dX8_worst_62 rfl ?_
  refine T.sipush (q := 67) (216) dX8_worst_64 rfl (by decide) ?_
  refine T.ic_ge (tgt := 102) (q := 70) dX8_worst_67 (by decide) rfl (fun h67 => ?_) (fun h67 => ?_)
  · replace h := s_f (fun q => q h67) h
    refine T.drop_1 ?_
    refine T.drop_2 ?_
    refine T.drop_4 ?_
    refine T.drop_5 ?_
    exact hk102 s62.2.2 h
  · replace h := s_t h67 h
    refine T.ald_0 (q := 71) dX8_worst_70 rfl ?_
    refine T.ild_1 (q := 72) dX8_worst_71 rfl ?_
    refine T.ild_2 (q := 73) dX8_worst_72 rfl ?_
    refine T.ild_5 (q := 75) dX8_worst_73 rfl ?_
    refine k_X8_348 rfl dX8_worst_75 (q := 78) rfl (by decide) hc0 hs0 (Nat.le_of_ble_eq_true rfl) (t_X8_canBe  h) ?_
    rintro r75 _ ⟨h, h9⟩
    obtain rfl := h9.symm
    refine T.if_ne (tgt := 84) (q := 81) dX8_worst_78 (by decide) rfl (fun h78 => ?_) (fun h78 => ?_)
    · replace h := s_f h78 h
      refine T.ald_0 (q := 85) dX8_worst_84 rfl ?_
      refine g_X8_64 rfl dX8_worst_85 (q := 88) rfl ?_
      refine T.ild_4 (q := 90) dX8_worst_88 rfl ?_
      refine T.ild_5 (q := 92) dX8_worst_90 rfl ?_
      refine T.iast (n := 6) rfl rfl (by decide) dX8_worst_92 (q := 93) rfl h.1 ?_
      refine S.mem h.2 ?_
      intro M92 h
      refine T.inc_4 (q := 96) (1) dX8_worst_93 rfl (by decide) (by decide) sk_ok_i ?_
      refine T.inc_5 (q := 99) (1) dX8_worst_96 rfl (by decide) (by decide) sk_ok_i ?_
      refine T.goto (tgt := 62) dX8_worst_99 (by decide) ?_
      exact hc9 ((s62.1 + (1 : Int32)), (s62.2.1 + (1 : Int32)), M92) h
    · replace h := s_t h78 h
      refine T.goto (tgt := 96) dX8_worst_81 (by decide) ?_
      refine T.inc_5 (q := 99) (1) dX8_worst_96 rfl (by decide) (by decide) sk_ok_i ?_
      refine T.goto (tgt := 62) dX8_worst_99 (by decide) ?_
      exact hc9 (s62.1, (s62.2.1 + (1 : Int32)), s62.2.2) h
theorem tl_X8_worst_L126 {G : sk_G} {cells slots : Nat} {r39 : Int32} {s105 : Int32 × sk_M} {Q : Int32 → sk_M → Prop} {k167 : sk_M → Prop}  (hc0 : cells ≤ 0) (hs0 : slots ≤ 0) (hk167 : ∀ s167 : sk_M, k167 s167 → TJ G mX8_worst (sk_R 6 0 0) (sk_K G 0 0 (rI Q) noX) cells slots 167 [some (.ref (G.2.2.1 140)), none, none, some (.int r39), none, some (.int s105.1), none] [] s167) : ∀ (F : Nat) (s126 : Int32 × sk_M), lp (w_X8_worst_L126 s105 k167) F s126 → TJ G mX8_worst (sk_R 6 0 0) (sk_K G 0 0 (rI Q) noX) cells slots 126 [some (.ref (G.2.2.1 140)), none, none, some (.int r39), none, some (.int s105.1), some (.int s126.1)] [] s126.2 := by
  refine lp_sound (fun c hc9 s126 h => ?_)
  unfold w_X8_worst_L126 at h
  refine T.ild_6 (q := 128) dX8_worst_126 rfl ?_
  refine T.sipush (q := 131) (216) dX8_worst_128 rfl (by decide) ?_
  refine T.ic_ge (tgt := 167) (q := 134) dX8_worst_131 (by decide) rfl (fun h131 => ?_) (fun h131 => ?_)
  · replace h := s_f (fun q => q h131) h
    refine T.drop_6 ?_
    exact hk167 s126.2 h
  · replace h := s_t h131 h
    refine T.ald_0 (q := 135) dX8_worst_134 rfl ?_
    refine g_X8_67 rfl dX8_worst_135 (q := 138) rfl ?_
    refine T.ild_5 (q := 140) dX8_worst_138 rfl ?_
    refine T.ald_0 (q := 141) dX8_worst_140 rfl ?_
    refine g_X8_67 rfl dX8_worst_141 (q := 144) rfl ?_
    refine T.ild_5 (q := 146) dX8_worst_144 rfl ?_
    refine T.iald (n := 64) rfl rfl (by decide) dX8_worst_146 (q := 147) rfl h.1 ?_
    replace h := h.2
    refine T.iconst (q := 148) (1) dX8_worst_147 rfl (by decide) ?_
    refine T.ald_0 (q := 149) dX8_worst_148 rfl ?_
    refine T.ild_5 (q := 151) dX8_worst_149 rfl ?_
    refine T.ild_6 (q := 153) dX8_worst_151 rfl ?_
    refine k_X8_393 rfl dX8_worst_153 (q := 156) rfl (by decide) hc0 hs0 (Nat.le_of_ble_eq_true rfl) (t_X8_worstBy  h) ?_
    rintro r153 _ ⟨h, h9⟩
    obtain rfl := h9.symm
    refine T.iadd (q := 157) dX8_worst_156 rfl ?_
    refine k_X8_290 rfl dX8_worst_157 (q := 160) rfl (by decide) hc0 hs0 (Nat.le_of_ble_eq_true rfl) ?_
    refine T.iast (n := 64) rfl rfl (by decide) dX8_worst_160 (q := 161) rfl h.1 ?_
    refine S.mem h.2 ?_
    intro M160 h
    refine T.inc_6 (q := 164) (1) dX8_worst_161 rfl (by decide) (by decide) sk_ok_i ?_
    refine T.goto (tgt := 126) dX8_worst_164 (by decide) ?_
    exact hc9 ((s126.1 + (1 : Int32)), M160) h
theorem tl_X8_worst_L105 {G : sk_G} {cells slots : Nat} {r39 : Int32} {Q : Int32 → sk_M → Prop} {k173 : sk_M → Prop}  (hc0 : cells ≤ 0) (hs0 : slots ≤ 0) (hk173 : ∀ s173 : sk_M, k173 s173 → TJ G mX8_worst (sk_R 6 0 0) (sk_K G 0 0 (rI Q) noX) cells slots 173 [some (.ref (G.2.2.1 140)), none, none, some (.int r39), none, none, none] [] s173) : ∀ (F : Nat) (s105 : Int32 × sk_M), lp (w_X8_worst_L105 r39 k173) F s105 → TJ G mX8_worst (sk_R 6 0 0) (sk_K G 0 0 (rI Q) noX) cells slots 105 [some (.ref (G.2.2.1 140)), none, none, some (.int r39), none, some (.int s105.1), none] [] s105.2 := by
  refine lp_sound (fun c hc9 s105 h => ?_)
  unfold w_X8_worst_L105 at h
  refine T.ild_5 (q := 107) dX8_worst_105 rfl ?_
  refine T.iconst (q := 108) (1) dX8_worst_107 rfl (by decide) ?_
  refine T.ild_3 (q := 109) dX8_worst_108 rfl ?_
  refine T.ishl (q := 110) dX8_worst_109 rfl ?_
  refine T.ic_ge (tgt := 173) (q := 113) dX8_worst_110 (by decide) rfl (fun h110 => ?_) (fun h110 => ?_)
  · replace h := s_f (fun q => q h110) h
    refine T.drop_5 ?_
    exact hk173 s105.2 h
  · replace h := s_t h110 h
    refine T.ald_0 (q := 114) dX8_worst_113 rfl ?_
    refine g_X8_67 rfl dX8_worst_114 (q := 117) rfl ?_
    refine T.ild_5 (q := 119) dX8_worst_117 rfl ?_
    refine T.ldcw (q := 122) (1000000) dX8_worst_119 rfl w_X8_c389 ?_
    refine T.iast (n := 64) rfl rfl (by decide) dX8_worst_122 (q := 123) rfl h.1 ?_
    refine S.mem h.2 ?_
    intro M122 h
    refine T.iconst (q := 124) (0) dX8_worst_123 rfl (by decide) ?_
    refine T.ist_6 (q := 126) dX8_worst_124 rfl (by decide) sk_ok_i ?_
    refine tl_X8_worst_L126  hc0 hs0 ?_ _ ((0 : Int32), M122) h
    intro s167 h
    refine T.inc_5 (q := 170) (1) dX8_worst_167 rfl (by decide) (by decide) sk_ok_n ?_
    refine T.goto (tgt := 105) dX8_worst_170 (by decide) ?_
    exact hc9 ((s105.1 + (1 : Int32)), s167) h
theorem t_X8_worst {G : sk_G} {M : sk_M} {a1 : Int32} {a2 : Int32}  {Q : Int32 → sk_M → Prop} (h : w_X8_worst a1 a2 M Q) : Ctr G mX8_worst 6 0 0 [.ref (G.2.2.1 140), .int a1, .int a2] M (rI Q) noX := by
  unfold w_X8_worst at h
  refine Ctr.of 4 (by decide) (Nat.le_of_ble_eq_true rfl) ?_
  show TJ G mX8_worst (sk_R 6 0 0) (sk_K G 0 0 (rI Q) noX) 0 0 0 [some (.ref (G.2.2.1 140)), some (.int a1), some (.int a2), none, none, none, none] [] M
  refine T.ald_0 (q := 1) dX8_worst_0 rfl ?_
  refine T.iconst (q := 2) (0) dX8_worst_1 rfl (by decide) ?_
  refine p_X8_3 rfl dX8_worst_2 (q := 5) rfl ?_
  refine S.mem h ?_
  intro M2 h
  refine T.ald_0 (q := 6) dX8_worst_5 rfl ?_
  refine T.ald_0 (q := 7) dX8_worst_6 rfl ?_
  refine T.ild_1 (q := 8) dX8_worst_7 rfl ?_
  refine k_X8_342 rfl dX8_worst_8 (q := 11) rfl (by decide) (by decide) (by decide) (Nat.le_of_ble_eq_true rfl) (t_X8_noPerson (P := fun r9 => r9 = (f_X8_noPerson a1 M2)) rfl) ?_
  rintro _ _ ⟨rfl, h9⟩
  obtain rfl := h9.symm
  refine s_dia (fun s27_11 : Int32 => TJ G mX8_worst (sk_R 6 0 0) (sk_K G 0 0 (rI Q) noX) 0 0 27 [some (.ref (G.2.2.1 140)), some (.int a1), some (.int a2), none, none, none, none] [.int s27_11, .ref (G.2.2.1 140)] M2) h (fun s27_11 h => ?_) (fun k9 hJ9 h => ?_)
  · refine T.iconst (q := 28) (1) dX8_worst_27 rfl (by decide) ?_
    refine k_X8_281 rfl dX8_worst_28 (q := 31) rfl (by decide) (by decide) (by decide) (Nat.le_of_ble_eq_true rfl) (t_X8_throwsIf  h) ?_
    intro r28 M28 h
    refine T.if_eq (tgt := 36) (q := 34) dX8_worst_31 (by decide) rfl (fun h31 => ?_) (fun h31 => ?_)
    · replace h := s_f (fun q => q h31) h
      refine T.ald_0 (q := 37) dX8_worst_36 rfl ?_
      refine T.ild_1 (q := 38) dX8_worst_37 rfl ?_
      refine T.ild_2 (q := 39) dX8_worst_38 rfl ?_
      refine k_X8_345 rfl dX8_worst_39 (q := 42) rfl (by decide) (by decide) (by decide) (Nat.le_of_ble_eq_true rfl) (t_X8_leftOf  h) ?_
      rintro r39 _ ⟨h, h9⟩
      obtain rfl := h9.symm
      refine T.ist_3 (q := 43) dX8_worst_42 rfl (by decide) sk_ok_i ?_
      refine T.ild_3 (q := 44) dX8_worst_43 rfl ?_
      refine T.bipush (q := 46) (6) dX8_worst_44 rfl (by decide) ?_
      refine T.ic_le (tgt := 52) (q := 49) dX8_worst_46 (by decide) rfl (fun h46 => ?_) (fun h46 => ?_)
      · replace h := s_f (fun q => q h46) h
        refine T.ald_0 (q := 53) dX8_worst_52 rfl ?_
        refine k_X8_314 rfl dX8_worst_53 (q := 56) rfl (by decide) (by decide) (by decide) (Nat.le_of_ble_eq_true rfl) (t_X8_laysClicks  h) ?_
        intro M53 h
        refine T.iconst (q := 57) (0) dX8_worst_56 rfl (by decide) ?_
        refine T.ist_4 (q := 59) dX8_worst_57 rfl (by decide) sk_ok_i ?_
        refine T.iconst (q := 60) (0) dX8_worst_59 rfl (by decide) ?_
        refine T.ist_5 (q := 62) dX8_worst_60 rfl (by decide) sk_ok_i ?_
        refine tl_X8_worst_L62  (by decide) (by decide) ?_ _ ((0 : Int32), (0 : Int32), M53) h
        intro s102 h
        refine T.iconst (q := 103) (1) dX8_worst_102 rfl (by decide) ?_
        refine T.ist_5 (q := 105) dX8_worst_103 rfl (by decide) sk_ok_n ?_
        refine tl_X8_worst_L105  (by decide) (by decide) ?_ _ ((1 : Int32), s102) h
        intro s173 h
        refine T.ald_0 (q := 174) dX8_worst_173 rfl ?_
        refine g_X8_67 rfl dX8_worst_174 (q := 177) rfl ?_
        refine T.iconst (q := 178) (1) dX8_worst_177 rfl (by decide) ?_
        refine T.ild_3 (q := 179) dX8_worst_178 rfl ?_
        refine T.ishl (q := 180) dX8_worst_179 rfl ?_
        refine T.iconst (q := 181) (1) dX8_worst_180 rfl (by decide) ?_
        refine T.isub (q := 182) dX8_worst_181 rfl ?_
        refine T.iald (n := 64) rfl rfl (by decide) dX8_worst_182 (q := 183) rfl h.1 ?_
        replace h := h.2
        exact T.retI rfl dX8_worst_183 (by decide) (by decide) h
      · replace h := s_t h46 h
        refine T.bipush (q := 51) (-3) dX8_worst_49 rfl (by decide) ?_
        exact T.retI rfl dX8_worst_51 (by decide) (by decide) h
    · replace h := s_t h31 h
      refine T.iconst (q := 35) (0) dX8_worst_34 rfl (by decide) ?_
      exact T.retI rfl dX8_worst_35 (by decide) (by decide) h
  · refine T.if_ne (tgt := 22) (q := 14) dX8_worst_11 (by decide) rfl (fun h11 => ?_) (fun h11 => ?_)
    · replace h := s_tk (Or.inl h11) h
      refine T.iconst (q := 23) (1) dX8_worst_22 rfl (by decide) ?_
      refine T.goto (tgt := 27) dX8_worst_23 (by decide) ?_
      exact hJ9 _ h
    · refine T.ald_0 (q := 15) dX8_worst_14 rfl ?_
      refine T.ild_2 (q := 16) dX8_worst_15 rfl ?_
      refine k_X8_329 rfl dX8_worst_16 (q := 19) rfl (by decide) (by decide) (by decide) (Nat.le_of_ble_eq_true rfl) (t_X8_noVault (P := fun r9 => r9 = (f_X8_noVault a2 M2)) rfl) ?_
      rintro _ _ ⟨rfl, h9⟩
      obtain rfl := h9.symm
      refine T.if_eq (tgt := 26) (q := 22) dX8_worst_19 (by decide) rfl (fun h19 => ?_) (fun h19 => ?_)
      · replace h := s_fk (fun q => q.elim (fun q => q h11) (fun q => q h19)) h
        refine T.iconst (q := 27) (0) dX8_worst_26 rfl (by decide) ?_
        exact hJ9 _ h
      · replace h := s_tk (Or.inr h19) h
        refine T.iconst (q := 23) (1) dX8_worst_22 rfl (by decide) ?_
        refine T.goto (tgt := 27) dX8_worst_23 (by decide) ?_
        exact hJ9 _ h
theorem tl_X8_sharedBy_L5 {G : sk_G} {M : sk_M} {cells slots : Nat} {a1 : Int32} {a2 : Int32} {Q : Int32 → Prop}  (hc0 : cells ≤ 0) (hs0 : slots ≤ 0) : ∀ (F : Nat) (s5 : Int32 × Int32), lp (w_X8_sharedBy_L5 a1 a2 M Q) F s5 → TJ G mX8_sharedBy (sk_R 2 0 0) (sk_K G 0 0 (rI fun r9 M9 => Q r9 ∧ M9 = M) noX) cells slots 5 [some (.ref (G.2.2.1 140)), some (.int a1), some (.int a2), some (.int s5.1), some (.int s5.2)] [] M := by
  refine lp_sound (fun c hc9 s5 h => ?_)
  unfold w_X8_sharedBy_L5 at h
  refine T.ild_4 (q := 7) dX8_sharedBy_5 rfl ?_
  refine T.sipush (q := 10) (216) dX8_sharedBy_7 rfl (by decide) ?_
  refine T.ic_ge (tgt := 49) (q := 13) dX8_sharedBy_10 (by decide) rfl (fun h10 => ?_) (fun h10 => ?_)
  · replace h := s_f (fun q => q h10) h
    refine T.ild_3 (q := 50) dX8_sharedBy_49 rfl ?_
    exact T.retI rfl dX8_sharedBy_50 hc0 hs0 ⟨h, rfl⟩
  · replace h := s_t h10 h
    refine T.ild_3 (q := 14) dX8_sharedBy_13 rfl ?_
    refine T.ild_4 (q := 16) dX8_sharedBy_14 rfl ?_
    refine T.ild_1 (q := 17) dX8_sharedBy_16 rfl ?_
    refine T.ic_eq (tgt := 40) (q := 20) dX8_sharedBy_17 (by decide) rfl (fun h17 => ?_) (fun h17 => ?_)
    · replace h := s_f (fun q => q h17) h
      refine T.iconst (q := 41) (0) dX8_sharedBy_40 rfl (by decide) ?_
      refine T.iadd (q := 42) dX8_sharedBy_41 rfl ?_
      refine T.ist_3 (q := 43) dX8_sharedBy_42 rfl (by decide) sk_ok_i ?_
      refine S.i3 h ?_
      intro y42 h
      refine T.inc_4 (q := 46) (1) dX8_sharedBy_43 rfl (by decide) (by decide) sk_ok_i ?_
      refine T.goto (tgt := 5) dX8_sharedBy_46 (by decide) ?_
      exact hc9 (y42, (s5.2 + (1 : Int32))) h
    · replace h := s_t h17 h
      refine T.ald_0 (q := 21) dX8_sharedBy_20 rfl ?_
      refine T.ild_1 (q := 22) dX8_sharedBy_21 rfl ?_
      refine T.ild_4 (q := 24) dX8_sharedBy_22 rfl ?_
      refine k_X8_317 rfl dX8_sharedBy_24 (q := 27) rfl (by decide) hc0 hs0 (Nat.le_of_ble_eq_true rfl) (t_X8_soundOf  h) ?_
      rintro r24 _ ⟨h, h9⟩
      obtain rfl := h9.symm
      refine T.ald_0 (q := 28) dX8_sharedBy_27 rfl ?_
      refine T.ild_1 (q := 29) dX8_sharedBy_28 rfl ?_
      refine T.ild_2 (q := 30) dX8_sharedBy_29 rfl ?_
      refine k_X8_317 rfl dX8_sharedBy_30 (q := 33) rfl (by decide) hc0 hs0 (Nat.le_of_ble_eq_true rfl) (t_X8_soundOf  h) ?_
      rintro r30 _ ⟨h, h9⟩
      obtain rfl := h9.symm
      refine T.ic_ne (tgt := 40) (q := 36) dX8_sharedBy_33 (by decide) rfl (fun h33 => ?_) (fun h33 => ?_)
      · replace h := s_f h33 h
        refine T.iconst (q := 41) (0) dX8_sharedBy_40 rfl (by decide) ?_
        refine T.iadd (q := 42) dX8_sharedBy_41 rfl ?_
        refine T.ist_3 (q := 43) dX8_sharedBy_42 rfl (by decide) sk_ok_i ?_
        refine S.i3 h ?_
        intro y42 h
        refine T.inc_4 (q := 46) (1) dX8_sharedBy_43 rfl (by decide) (by decide) sk_ok_i ?_
        refine T.goto (tgt := 5) dX8_sharedBy_46 (by decide) ?_
        exact hc9 (y42, (s5.2 + (1 : Int32))) h
      · replace h := s_t h33 h
        refine T.iconst (q := 37) (1) dX8_sharedBy_36 rfl (by decide) ?_
        refine T.goto (tgt := 41) dX8_sharedBy_37 (by decide) ?_
        refine T.iadd (q := 42) dX8_sharedBy_41 rfl ?_
        refine T.ist_3 (q := 43) dX8_sharedBy_42 rfl (by decide) sk_ok_i ?_
        refine S.i3 h ?_
        intro y42 h
        refine T.inc_4 (q := 46) (1) dX8_sharedBy_43 rfl (by decide) (by decide) sk_ok_i ?_
        refine T.goto (tgt := 5) dX8_sharedBy_46 (by decide) ?_
        exact hc9 (y42, (s5.2 + (1 : Int32))) h
theorem t_X8_sharedBy {G : sk_G} {M : sk_M} {a1 : Int32} {a2 : Int32}  {Q : Int32 → Prop} (h : w_X8_sharedBy a1 a2 M Q) : Ctr G mX8_sharedBy 2 0 0 [.ref (G.2.2.1 140), .int a1, .int a2] M (rI fun r9 M9 => Q r9 ∧ M9 = M) noX := by
  unfold w_X8_sharedBy at h
  refine Ctr.of 2 (by decide) (Nat.le_of_ble_eq_true rfl) ?_
  show TJ G mX8_sharedBy (sk_R 2 0 0) (sk_K G 0 0 (rI fun r9 M9 => Q r9 ∧ M9 = M) noX) 0 0 0 [some (.ref (G.2.2.1 140)), some (.int a1), some (.int a2), none, none] [] M
  refine T.iconst (q := 1) (0) dX8_sharedBy_0 rfl (by decide) ?_
  refine T.ist_3 (q := 2) dX8_sharedBy_1 rfl (by decide) sk_ok_i ?_
  refine T.iconst (q := 3) (0) dX8_sharedBy_2 rfl (by decide) ?_
  refine T.ist_4 (q := 5) dX8_sharedBy_3 rfl (by decide) sk_ok_i ?_
  exact tl_X8_sharedBy_L5  (by decide) (by decide) _ ((0 : Int32), (0 : Int32)) h
theorem tl_X8_quietest_L30 {G : sk_G} {cells slots : Nat} {a1 : Int32} {M20 : sk_M} {Q : Int32 → sk_M → Prop}  (hc0 : cells ≤ 0) (hs0 : slots ≤ 0) : ∀ (F : Nat) (s30 : Int32 × Int32 × Int32), lp (w_X8_quietest_L30 a1 M20 Q) F s30 → TJ G mX8_quietest (sk_R 6 0 0) (sk_K G 0 0 (rI Q) noX) cells slots 30 [some (.ref (G.2.2.1 140)), some (.int a1), some (.int s30.1), some (.int s30.2.1), some (.int s30.2.2), none] [] M20 := by
  refine lp_sound (fun c hc9 s30 h => ?_)
  unfold w_X8_quietest_L30 at h
  refine T.ild_4 (q := 32) dX8_quietest_30 rfl ?_
  refine T.sipush (q := 35) (216) dX8_quietest_32 rfl (by decide) ?_
  refine T.ic_ge (tgt := 78) (q := 38) dX8_quietest_35 (by decide) rfl (fun h35 => ?_) (fun h35 => ?_)
  · replace h := s_f (fun q => q h35) h
    refine T.ild_2 (q := 79) dX8_quietest_78 rfl ?_
    exact T.retI rfl dX8_quietest_79 hc0 hs0 h
  · replace h := s_t h35 h
    refine T.ild_4 (q := 40) dX8_quietest_38 rfl ?_
    refine T.ild_1 (q := 41) dX8_quietest_40 rfl ?_
    refine s_join (fun s55_41 : Int32 => TJ G mX8_quietest (sk_R 6 0 0) (sk_K G 0 0 (rI Q) noX) cells slots 55 [some (.ref (G.2.2.1 140)), some (.int a1), some (.int s30.1), some (.int s30.2.1), some (.int s30.2.2), none] [.int s55_41] M20) h (fun s55_41 h => ?_) (fun j55_41 hj55_41 h => ?_)
    · refine T.ist_5 (q := 57) dX8_quietest_55 rfl (by decide) sk_ok_i ?_
      refine T.ild_5 (q := 59) dX8_quietest_57 rfl ?_
      refine T.ild_3 (q := 60) dX8_quietest_59 rfl ?_
      refine T.ic_gt (tgt := 66) (q := 63) dX8_quietest_60 (by decide) rfl (fun h60 => ?_) (fun h60 => ?_)
      · replace h := s_f (fun q => q h60) h
        refine T.ild_4 (q := 68) dX8_quietest_66 rfl ?_
        refine T.ist_2 (q := 69) dX8_quietest_68 rfl (by decide) sk_ok_i ?_
        refine T.ild_5 (q := 71) dX8_quietest_69 rfl ?_
        refine T.ist_3 (q := 72) dX8_quietest_71 rfl (by decide) sk_ok_i ?_
        refine T.inc_4 (q := 75) (1) dX8_quietest_72 rfl (by decide) (by decide) sk_ok_i ?_
        refine T.goto (tgt := 30) dX8_quietest_75 (by decide) ?_
        refine T.drop_5 ?_
        exact hc9 (s30.2.2, s55_41, (s30.2.2 + (1 : Int32))) h
      · replace h := s_t h60 h
        refine T.goto (tgt := 72) dX8_quietest_63 (by decide) ?_
        refine T.inc_4 (q := 75) (1) dX8_quietest_72 rfl (by decide) (by decide) sk_ok_i ?_
        refine T.goto (tgt := 30) dX8_quietest_75 (by decide) ?_
        refine T.drop_5 ?_
        exact hc9 (s30.1, s30.2.1, (s30.2.2 + (1 : Int32))) h
    · refine T.ic_ne (tgt := 48) (q := 44) dX8_quietest_41 (by decide) rfl (fun h41 => ?_) (fun h41 => ?_)
      · replace h := s_f h41 h
        refine T.ald_0 (q := 49) dX8_quietest_48 rfl ?_
        refine T.ild_1 (q := 50) dX8_quietest_49 rfl ?_
        refine T.ild_4 (q := 52) dX8_quietest_50 rfl ?_
        refine k_X8_396 rfl dX8_quietest_52 (q := 55) rfl (by decide) hc0 hs0 (Nat.le_of_ble_eq_true rfl) (t_X8_sharedBy  h) ?_
        rintro r52 _ ⟨h, h9⟩
        obtain rfl := h9.symm
        exact hj55_41 r52 h
      · replace h := s_t h41 h
        refine T.iconst (q := 45) (0) dX8_quietest_44 rfl (by decide) ?_
        refine T.goto (tgt := 55) dX8_quietest_45 (by decide) ?_
        exact hj55_41 (0 : Int32) h
theorem t_X8_quietest {G : sk_G} {M : sk_M} {a1 : Int32}  {Q : Int32 → sk_M → Prop} (h : w_X8_quietest a1 M Q) : Ctr G mX8_quietest 6 0 0 [.ref (G.2.2.1 140), .int a1] M (rI Q) noX := by
  unfold w_X8_quietest at h
  refine Ctr.of 4 (by decide) (Nat.le_of_ble_eq_true rfl) ?_
  show TJ G mX8_quietest (sk_R 6 0 0) (sk_K G 0 0 (rI Q) noX) 0 0 0 [some (.ref (G.2.2.1 140)), some (.int a1), none, none, none, none] [] M
  refine T.ald_0 (q := 1) dX8_quietest_0 rfl ?_
  refine T.iconst (q := 2) (0) dX8_quietest_1 rfl (by decide) ?_
  refine p_X8_3 rfl dX8_quietest_2 (q := 5) rfl ?_
  refine S.mem h ?_
  intro M2 h
  refine T.ald_0 (q := 6) dX8_quietest_5 rfl ?_
  refine T.ild_1 (q := 7) dX8_quietest_6 rfl ?_
  refine k_X8_311 rfl dX8_quietest_7 (q := 10) rfl (by decide) (by decide) (by decide) (Nat.le_of_ble_eq_true rfl) (t_X8_noCode (P := fun r9 => r9 = (f_X8_noCode a1)) rfl) ?_
  rintro _ _ ⟨rfl, h9⟩
  obtain rfl := h9.symm
  refine T.iconst (q := 11) (1) dX8_quietest_10 rfl (by decide) ?_
  refine k_X8_281 rfl dX8_quietest_11 (q := 14) rfl (by decide) (by decide) (by decide) (Nat.le_of_ble_eq_true rfl) (t_X8_throwsIf  h) ?_
  intro r11 M11 h
  refine T.if_eq (tgt := 19) (q := 17) dX8_quietest_14 (by decide) rfl (fun h14 => ?_) (fun h14 => ?_)
  · replace h := s_f (fun q => q h14) h
    refine T.ald_0 (q := 20) dX8_quietest_19 rfl ?_
    refine k_X8_314 rfl dX8_quietest_20 (q := 23) rfl (by decide) (by decide) (by decide) (Nat.le_of_ble_eq_true rfl) (t_X8_laysClicks  h) ?_
    intro M20 h
    refine T.iconst (q := 24) (-1) dX8_quietest_23 rfl (by decide) ?_
    refine T.ist_2 (q := 25) dX8_quietest_24 rfl (by decide) sk_ok_i ?_
    refine T.iconst (q := 26) (0) dX8_quietest_25 rfl (by decide) ?_
    refine T.ist_3 (q := 27) dX8_quietest_26 rfl (by decide) sk_ok_i ?_
    refine T.iconst (q := 28) (0) dX8_quietest_27 rfl (by decide) ?_
    refine T.ist_4 (q := 30) dX8_quietest_28 rfl (by decide) sk_ok_i ?_
    exact tl_X8_quietest_L30  (by decide) (by decide) _ ((-1 : Int32), (0 : Int32), (0 : Int32)) h
  · replace h := s_t h14 h
    refine T.iconst (q := 18) (0) dX8_quietest_17 rfl (by decide) ?_
    exact T.retI rfl dX8_quietest_18 (by decide) (by decide) h
theorem tl_X8_rangeOf_L11 {G : sk_G} {M : sk_M} {cells slots : Nat} {a1 : Int32} {Q : Int32 → Prop}  (hc0 : cells ≤ 0) (hs0 : slots ≤ 0) : ∀ (F : Nat) (s11 : Int32 × Int32 × Int32), lp (w_X8_rangeOf_L11 a1 M Q) F s11 → TJ G mX8_rangeOf (sk_R 2 0 0) (sk_K G 0 0 (rI fun r9 M9 => Q r9 ∧ M9 = M) noX) cells slots 11 [some (.ref (G.2.2.1 140)), some (.int a1), some (.int s11.1), some (.int s11.2.1), some (.int s11.2.2)] [] M := by
  refine lp_sound (fun c hc9 s11 h => ?_)
  unfold w_X8_rangeOf_L11 at h
  refine T.ild_4 (q := 13) dX8_rangeOf_11 rfl ?_
  refine T.sipush (q := 16) (216) dX8_rangeOf_13 rfl (by decide) ?_
  refine T.ic_ge (tgt := 49) (q := 19) dX8_rangeOf_16 (by decide) rfl (fun h16 => ?_) (fun h16 => ?_)
  · replace h := s_f (fun q => q h16) h
    refine T.ild_2 (q := 50) dX8_rangeOf_49 rfl ?_
    refine T.ild_3 (q := 51) dX8_rangeOf_50 rfl ?_
    refine T.isub (q := 52) dX8_rangeOf_51 rfl ?_
    exact T.retI rfl dX8_rangeOf_52 hc0 hs0 ⟨h, rfl⟩
  · replace h := s_t h16 h
    refine T.ild_2 (q := 20) dX8_rangeOf_19 rfl ?_
    refine T.ald_0 (q := 21) dX8_rangeOf_20 rfl ?_
    refine T.ild_1 (q := 22) dX8_rangeOf_21 rfl ?_
    refine T.ild_4 (q := 24) dX8_rangeOf_22 rfl ?_
    refine k_X8_317 rfl dX8_rangeOf_24 (q := 27) rfl (by decide) hc0 hs0 (Nat.le_of_ble_eq_true rfl) (t_X8_soundOf  h) ?_
    rintro r24 _ ⟨h, h9⟩
    obtain rfl := h9.symm
    refine k_X8_326 rfl dX8_rangeOf_27 (q := 30) rfl (by decide) hc0 hs0 (Nat.le_of_ble_eq_true rfl) ?_
    refine T.ist_2 (q := 31) dX8_rangeOf_30 rfl (by decide) sk_ok_i ?_
    refine S.i2 h ?_
    intro y30 h
    refine T.ild_3 (q := 32) dX8_rangeOf_31 rfl ?_
    refine T.ald_0 (q := 33) dX8_rangeOf_32 rfl ?_
    refine T.ild_1 (q := 34) dX8_rangeOf_33 rfl ?_
    refine T.ild_4 (q := 36) dX8_rangeOf_34 rfl ?_
    refine k_X8_317 rfl dX8_rangeOf_36 (q := 39) rfl (by decide) hc0 hs0 (Nat.le_of_ble_eq_true rfl) (t_X8_soundOf  h) ?_
    rintro r36 _ ⟨h, h9⟩
    obtain rfl := h9.symm
    refine k_X8_290 rfl dX8_rangeOf_39 (q := 42) rfl (by decide) hc0 hs0 (Nat.le_of_ble_eq_true rfl) ?_
    refine T.ist_3 (q := 43) dX8_rangeOf_42 rfl (by decide) sk_ok_i ?_
    refine S.i3 h ?_
    intro y42 h
    refine T.inc_4 (q := 46) (1) dX8_rangeOf_43 rfl (by decide) (by decide) sk_ok_i ?_
    refine T.goto (tgt := 11) dX8_rangeOf_46 (by decide) ?_
    exact hc9 (y30, y42, (s11.2.2 + (1 : Int32))) h
theorem t_X8_rangeOf {G : sk_G} {M : sk_M} {a1 : Int32}  {Q : Int32 → Prop} (h : w_X8_rangeOf a1 M Q) : Ctr G mX8_rangeOf 2 0 0 [.ref (G.2.2.1 140), .int a1] M (rI fun r9 M9 => Q r9 ∧ M9 = M) noX := by
  unfold w_X8_rangeOf at h
  refine Ctr.of 3 (by decide) (Nat.le_of_ble_eq_true rfl) ?_
  show TJ G mX8_rangeOf (sk_R 2 0 0) (sk_K G 0 0 (rI fun r9 M9 => Q r9 ∧ M9 = M) noX) 0 0 0 [some (.ref (G.2.2.1 140)), some (.int a1), none, none, none] [] M
  refine T.ldcw (q := 3) (-1000000) dX8_rangeOf_0 rfl w_X8_c399 ?_
  refine T.ist_2 (q := 4) dX8_rangeOf_3 rfl (by decide) sk_ok_i ?_
  refine T.ldcw (q := 7) (1000000) dX8_rangeOf_4 rfl w_X8_c389 ?_
  refine T.ist_3 (q := 8) dX8_rangeOf_7 rfl (by decide) sk_ok_i ?_
  refine T.iconst (q := 9) (0) dX8_rangeOf_8 rfl (by decide) ?_
  refine T.ist_4 (q := 11) dX8_rangeOf_9 rfl (by decide) sk_ok_i ?_
  exact tl_X8_rangeOf_L11  (by decide) (by decide) _ ((-1000000 : Int32), (1000000 : Int32), (0 : Int32)) h
theorem tl_X8_loudest_L13 {G : sk_G} {cells slots : Nat} {M6 : sk_M} {Q : Int32 → sk_M → Prop}  (hc0 : cells ≤ 0) (hs0 : slots ≤ 0) : ∀ (F : Nat) (s13 : Int32 × Int32), lp (w_X8_loudest_L13 M6 Q) F s13 → TJ G mX8_loudest (sk_R 6 0 0) (sk_K G 0 0 (rI Q) noX) cells slots 13 [some (.ref (G.2.2.1 140)), some (.int s13.1), some (.int s13.2)] [] M6 := by
  refine lp_sound (fun c hc9 s13 h => ?_)
  unfold w_X8_loudest_L13 at h
  refine T.ild_2 (q := 14) dX8_loudest_13 rfl ?_
  refine T.sipush (q := 17) (216) dX8_loudest_14 rfl (by decide) ?_
  refine T.ic_ge (tgt := 45) (q := 20) dX8_loudest_17 (by decide) rfl (fun h17 => ?_) (fun h17 => ?_)
  · replace h := s_f (fun q => q h17) h
    refine T.ild_1 (q := 46) dX8_loudest_45 rfl ?_
    exact T.retI rfl dX8_loudest_46 hc0 hs0 h
  · replace h := s_t h17 h
    refine T.ald_0 (q := 21) dX8_loudest_20 rfl ?_
    refine T.ild_2 (q := 22) dX8_loudest_21 rfl ?_
    refine k_X8_400 rfl dX8_loudest_22 (q := 25) rfl (by decide) hc0 hs0 (Nat.le_of_ble_eq_true rfl) (t_X8_rangeOf  h) ?_
    rintro r22 _ ⟨h, h9⟩
    obtain rfl := h9.symm
    refine T.ald_0 (q := 26) dX8_loudest_25 rfl ?_
    refine T.ild_1 (q := 27) dX8_loudest_26 rfl ?_
    refine k_X8_400 rfl dX8_loudest_27 (q := 30) rfl (by decide) hc0 hs0 (Nat.le_of_ble_eq_true rfl) (t_X8_rangeOf  h) ?_
    rintro r27 _ ⟨h, h9⟩
    obtain rfl := h9.symm
    refine T.ic_le (tgt := 37) (q := 33) dX8_loudest_30 (by decide) rfl (fun h30 => ?_) (fun h30 => ?_)
    · replace h := s_f (fun q => q h30) h
      refine T.ild_1 (q := 38) dX8_loudest_37 rfl ?_
      refine T.ist_1 (q := 39) dX8_loudest_38 rfl (by decide) sk_ok_r ?_
      refine T.inc_2 (q := 42) (1) dX8_loudest_39 rfl (by decide) (by decide) sk_ok_i ?_
      refine T.goto (tgt := 13) dX8_loudest_42 (by decide) ?_
      exact hc9 (s13.1, (s13.2 + (1 : Int32))) h
    · replace h := s_t h30 h
      refine T.ild_2 (q := 34) dX8_loudest_33 rfl ?_
      refine T.goto (tgt := 38) dX8_loudest_34 (by decide) ?_
      refine T.ist_1 (q := 39) dX8_loudest_38 rfl (by decide) sk_ok_r ?_
      refine T.inc_2 (q := 42) (1) dX8_loudest_39 rfl (by decide) (by decide) sk_ok_i ?_
      refine T.goto (tgt := 13) dX8_loudest_42 (by decide) ?_
      exact hc9 (s13.2, (s13.2 + (1 : Int32))) h
theorem t_X8_loudest {G : sk_G} {M : sk_M}   {Q : Int32 → sk_M → Prop} (h : w_X8_loudest  M Q) : Ctr G mX8_loudest 6 0 0 [.ref (G.2.2.1 140)] M (rI Q) noX := by
  unfold w_X8_loudest at h
  refine Ctr.of 2 (by decide) (Nat.le_of_ble_eq_true rfl) ?_
  show TJ G mX8_loudest (sk_R 6 0 0) (sk_K G 0 0 (rI Q) noX) 0 0 0 [some (.ref (G.2.2.1 140)), none, none] [] M
  refine T.ald_0 (q := 1) dX8_loudest_0 rfl ?_
  refine T.iconst (q := 2) (0) dX8_loudest_1 rfl (by decide) ?_
  refine p_X8_3 rfl dX8_loudest_2 (q := 5) rfl ?_
  refine S.mem h ?_
  intro M2 h
  refine T.ald_0 (q := 6) dX8_loudest_5 rfl ?_
  refine k_X8_314 rfl dX8_loudest_6 (q := 9) rfl (by decide) (by decide) (by decide) (Nat.le_of_ble_eq_true rfl) (t_X8_laysClicks  h) ?_
  intro M6 h
  refine T.iconst (q := 10) (0) dX8_loudest_9 rfl (by decide) ?_
  refine T.ist_1 (q := 11) dX8_loudest_10 rfl (by decide) sk_ok_r ?_
  refine T.iconst (q := 12) (1) dX8_loudest_11 rfl (by decide) ?_
  refine T.ist_2 (q := 13) dX8_loudest_12 rfl (by decide) sk_ok_i ?_
  exact tl_X8_loudest_L13  (by decide) (by decide) _ ((0 : Int32), (1 : Int32)) h
theorem tl_X8_deaf_L33 {G : sk_G} {cells slots : Nat} {M6 : sk_M} {s13 : Int32 × Int32} {s23 : Int32 × Int32} {Q : Int32 → sk_M → Prop} {k84 : Int32 → Prop}  (hc0 : cells ≤ 0) (hs0 : slots ≤ 0) (hk84 : ∀ s84 : Int32, k84 s84 → TJ G mX8_deaf (sk_R 6 0 0) (sk_K G 0 0 (rI Q) noX) cells slots 84 [some (.ref (G.2.2.1 140)), some (.int s13.1), some (.int s13.2), some (.int s84), some (.int s23.2), none] [] M6) : ∀ (F : Nat) (s33 : Int32 × Int32), lp (w_X8_deaf_L33 M6 s13 s23 k84) F s33 → TJ G mX8_deaf (sk_R 6 0 0) (sk_K G 0 0 (rI Q) noX) cells slots 33 [some (.ref (G.2.2.1 140)), some (.int s13.1), some (.int s13.2), some (.int s33.1), some (.int s23.2), some (.int s33.2)] [] M6 := by
  refine lp_sound (fun c hc9 s33 h => ?_)
  unfold w_X8_deaf_L33 at h
  refine T.ild_5 (q := 35) dX8_deaf_33 rfl ?_
  refine T.bipush (q := 37) (6) dX8_deaf_35 rfl (by decide) ?_
  refine T.ic_ge (tgt := 84) (q := 40) dX8_deaf_37 (by decide) rfl (fun h37 => ?_) (fun h37 => ?_)
  · replace h := s_f (fun q => q h37) h
    refine T.drop_5 ?_
    exact hk84 s33.1 h
  · replace h := s_t h37 h
    refine T.ild_3 (q := 41) dX8_deaf_40 rfl ?_
    refine T.if_eq (tgt := 76) (q := 44) dX8_deaf_41 (by decide) rfl (fun h41 => ?_) (fun h41 => ?_)
    · replace h := s_f (fun q => q h41) h
      refine T.iconst (q := 77) (0) dX8_deaf_76 rfl (by decide) ?_
      refine T.ist_3 (q := 78) dX8_deaf_77 rfl (by decide) sk_ok_i ?_
      refine T.inc_5 (q := 81) (1) dX8_deaf_78 rfl (by decide) (by decide) sk_ok_i ?_
      refine T.goto (tgt := 33) dX8_deaf_81 (by decide) ?_
      exact hc9 ((0 : Int32), (s33.2 + (1 : Int32))) h
    · replace h := s_t h41 h
      refine T.ald_0 (q := 45) dX8_deaf_44 rfl ?_
      refine g_X8_58 rfl dX8_deaf_45 (q := 48) rfl ?_
      refine T.ild_2 (q := 49) dX8_deaf_48 rfl ?_
      refine T.ild_4 (q := 51) dX8_deaf_49 rfl ?_
      refine T.ild_5 (q := 53) dX8_deaf_51 rfl ?_
      refine k_X8_304 rfl dX8_deaf_53 (q := 56) rfl (by decide) hc0 hs0 (Nat.le_of_ble_eq_true rfl) (t_X8_clickAt (P := fun r9 => r9 = (f_X8_clickAt s13.2 s23.2 s33.2)) rfl) ?_
      rintro _ _ ⟨rfl, h9⟩
      obtain rfl := h9.symm
      refine T.iald (n := 108) rfl rfl (by decide) dX8_deaf_56 (q := 57) rfl h.1 ?_
      replace h := h.2
      refine T.ald_0 (q := 58) dX8_deaf_57 rfl ?_
      refine g_X8_58 rfl dX8_deaf_58 (q := 61) rfl ?_
      refine T.ild_2 (q := 62) dX8_deaf_61 rfl ?_
      refine T.ild_4 (q := 64) dX8_deaf_62 rfl ?_
      refine T.iconst (q := 65) (0) dX8_deaf_64 rfl (by decide) ?_
      refine k_X8_304 rfl dX8_deaf_65 (q := 68) rfl (by decide) hc0 hs0 (Nat.le_of_ble_eq_true rfl) (t_X8_clickAt (P := fun r9 => r9 = (f_X8_clickAt s13.2 s23.2 (0 : Int32))) rfl) ?_
      rintro _ _ ⟨rfl, h9⟩
      obtain rfl := h9.symm
      refine T.iald (n := 108) rfl rfl (by decide) dX8_deaf_68 (q := 69) rfl h.1 ?_
      replace h := h.2
      refine T.ic_ne (tgt := 76) (q := 72) dX8_deaf_69 (by decide) rfl (fun h69 => ?_) (fun h69 => ?_)
      · replace h := s_f h69 h
        refine T.iconst (q := 77) (0) dX8_deaf_76 rfl (by decide) ?_
        refine T.ist_3 (q := 78) dX8_deaf_77 rfl (by decide) sk_ok_i ?_
        refine T.inc_5 (q := 81) (1) dX8_deaf_78 rfl (by decide) (by decide) sk_ok_i ?_
        refine T.goto (tgt := 33) dX8_deaf_81 (by decide) ?_
        exact hc9 ((0 : Int32), (s33.2 + (1 : Int32))) h
      · replace h := s_t h69 h
        refine T.iconst (q := 73) (1) dX8_deaf_72 rfl (by decide) ?_
        refine T.goto (tgt := 77) dX8_deaf_73 (by decide) ?_
        refine T.ist_3 (q := 78) dX8_deaf_77 rfl (by decide) sk_ok_i ?_
        refine T.inc_5 (q := 81) (1) dX8_deaf_78 rfl (by decide) (by decide) sk_ok_i ?_
        refine T.goto (tgt := 33) dX8_deaf_81 (by decide) ?_
        exact hc9 ((1 : Int32), (s33.2 + (1 : Int32))) h
theorem tl_X8_deaf_L23 {G : sk_G} {cells slots : Nat} {M6 : sk_M} {s13 : Int32 × Int32} {Q : Int32 → sk_M → Prop} {k90 : Int32 → Prop}  (hc0 : cells ≤ 0) (hs0 : slots ≤ 0) (hk90 : ∀ s90 : Int32, k90 s90 → TJ G mX8_deaf (sk_R 6 0 0) (sk_K G 0 0 (rI Q) noX) cells slots 90 [some (.ref (G.2.2.1 140)), some (.int s13.1), some (.int s13.2), some (.int s90), none, none] [] M6) : ∀ (F : Nat) (s23 : Int32 × Int32), lp (w_X8_deaf_L23 M6 s13 k90) F s23 → TJ G mX8_deaf (sk_R 6 0 0) (sk_K G 0 0 (rI Q) noX) cells slots 23 [some (.ref (G.2.2.1 140)), some (.int s13.1), some (.int s13.2), some (.int s23.1), some (.int s23.2), none] [] M6 := by
  refine lp_sound (fun c hc9 s23 h => ?_)
  unfold w_X8_deaf_L23 at h
  refine T.ild_4 (q := 25) dX8_deaf_23 rfl ?_
  refine T.bipush (q := 27) (6) dX8_deaf_25 rfl (by decide) ?_
  refine T.ic_ge (tgt := 90) (q := 30) dX8_deaf_27 (by decide) rfl (fun h27 => ?_) (fun h27 => ?_)
  · replace h := s_f (fun q => q h27) h
    refine T.drop_4 ?_
    exact hk90 s23.1 h
  · replace h := s_t h27 h
    refine T.iconst (q := 31) (1) dX8_deaf_30 rfl (by decide) ?_
    refine T.ist_5 (q := 33) dX8_deaf_31 rfl (by decide) sk_ok_i ?_
    refine tl_X8_deaf_L33  hc0 hs0 ?_ _ (s23.1, (1 : Int32)) h
    intro s84 h
    refine T.inc_4 (q := 87) (1) dX8_deaf_84 rfl (by decide) (by decide) sk_ok_i ?_
    refine T.goto (tgt := 23) dX8_deaf_87 (by decide) ?_
    exact hc9 (s84, (s23.2 + (1 : Int32))) h
theorem tl_X8_deaf_L13 {G : sk_G} {cells slots : Nat} {M6 : sk_M} {Q : Int32 → sk_M → Prop}  (hc0 : cells ≤ 0) (hs0 : slots ≤ 0) : ∀ (F : Nat) (s13 : Int32 × Int32), lp (w_X8_deaf_L13 M6 Q) F s13 → TJ G mX8_deaf (sk_R 6 0 0) (sk_K G 0 0 (rI Q) noX) cells slots 13 [some (.ref (G.2.2.1 140)), some (.int s13.1), some (.int s13.2), none, none, none] [] M6 := by
  refine lp_sound (fun c hc9 s13 h => ?_)
  unfold w_X8_deaf_L13 at h
  refine T.ild_2 (q := 14) dX8_deaf_13 rfl ?_
  refine T.iconst (q := 15) (3) dX8_deaf_14 rfl (by decide) ?_
  refine T.ic_ge (tgt := 110) (q := 18) dX8_deaf_15 (by decide) rfl (fun h15 => ?_) (fun h15 => ?_)
  · replace h := s_f (fun q => q h15) h
    refine T.ild_1 (q := 111) dX8_deaf_110 rfl ?_
    exact T.retI rfl dX8_deaf_111 hc0 hs0 h
  · replace h := s_t h15 h
    refine T.iconst (q := 19) (1) dX8_deaf_18 rfl (by decide) ?_
    refine T.ist_3 (q := 20) dX8_deaf_19 rfl (by decide) sk_ok_i ?_
    refine T.iconst (q := 21) (0) dX8_deaf_20 rfl (by decide) ?_
    refine T.ist_4 (q := 23) dX8_deaf_21 rfl (by decide) sk_ok_i ?_
    refine tl_X8_deaf_L23  hc0 hs0 ?_ _ ((1 : Int32), (0 : Int32)) h
    intro s90 h
    refine T.ild_1 (q := 91) dX8_deaf_90 rfl ?_
    refine T.ild_3 (q := 92) dX8_deaf_91 rfl ?_
    refine T.if_eq (tgt := 101) (q := 95) dX8_deaf_92 (by decide) rfl (fun h92 => ?_) (fun h92 => ?_)
    · replace h := s_f (fun q => q h92) h
      refine T.iconst (q := 102) (0) dX8_deaf_101 rfl (by decide) ?_
      refine T.ior (q := 103) dX8_deaf_102 rfl ?_
      refine T.ist_1 (q := 104) dX8_deaf_103 rfl (by decide) sk_ok_r ?_
      refine S.i1 h ?_
      intro y103 h
      refine T.inc_2 (q := 107) (1) dX8_deaf_104 rfl (by decide) (by decide) sk_ok_i ?_
      refine T.goto (tgt := 13) dX8_deaf_107 (by decide) ?_
      refine T.drop_3 ?_
      exact hc9 (y103, (s13.2 + (1 : Int32))) h
    · replace h := s_t h92 h
      refine T.iconst (q := 96) (1) dX8_deaf_95 rfl (by decide) ?_
      refine T.ild_2 (q := 97) dX8_deaf_96 rfl ?_
      refine T.ishl (q := 98) dX8_deaf_97 rfl ?_
      refine T.goto (tgt := 102) dX8_deaf_98 (by decide) ?_
      refine T.ior (q := 103) dX8_deaf_102 rfl ?_
      refine T.ist_1 (q := 104) dX8_deaf_103 rfl (by decide) sk_ok_r ?_
      refine S.i1 h ?_
      intro y103 h
      refine T.inc_2 (q := 107) (1) dX8_deaf_104 rfl (by decide) (by decide) sk_ok_i ?_
      refine T.goto (tgt := 13) dX8_deaf_107 (by decide) ?_
      refine T.drop_3 ?_
      exact hc9 (y103, (s13.2 + (1 : Int32))) h
theorem t_X8_deaf {G : sk_G} {M : sk_M}   {Q : Int32 → sk_M → Prop} (h : w_X8_deaf  M Q) : Ctr G mX8_deaf 6 0 0 [.ref (G.2.2.1 140)] M (rI Q) noX := by
  unfold w_X8_deaf at h
  refine Ctr.of 5 (by decide) (Nat.le_of_ble_eq_true rfl) ?_
  show TJ G mX8_deaf (sk_R 6 0 0) (sk_K G 0 0 (rI Q) noX) 0 0 0 [some (.ref (G.2.2.1 140)), none, none, none, none, none] [] M
  refine T.ald_0 (q := 1) dX8_deaf_0 rfl ?_
  refine T.iconst (q := 2) (0) dX8_deaf_1 rfl (by decide) ?_
  refine p_X8_3 rfl dX8_deaf_2 (q := 5) rfl ?_
  refine S.mem h ?_
  intro M2 h
  refine T.ald_0 (q := 6) dX8_deaf_5 rfl ?_
  refine k_X8_314 rfl dX8_deaf_6 (q := 9) rfl (by decide) (by decide) (by decide) (Nat.le_of_ble_eq_true rfl) (t_X8_laysClicks  h) ?_
  intro M6 h
  refine T.iconst (q := 10) (0) dX8_deaf_9 rfl (by decide) ?_
  refine T.ist_1 (q := 11) dX8_deaf_10 rfl (by decide) sk_ok_r ?_
  refine T.iconst (q := 12) (0) dX8_deaf_11 rfl (by decide) ?_
  refine T.ist_2 (q := 13) dX8_deaf_12 rfl (by decide) sk_ok_i ?_
  exact tl_X8_deaf_L13  (by decide) (by decide) _ ((0 : Int32), (0 : Int32)) h
theorem tl_X8_leftBy_L31 {G : sk_G} {M : sk_M} {cells slots : Nat} {a1 : Int32} {a2 : Int32} {s5 : Int32 × Int32} {Q : Int32 → Prop} {k80 : Int64 → Prop}  (hc0 : cells ≤ 0) (hs0 : slots ≤ 0) (hk80 : ∀ s80 : Int64, k80 s80 → TJ G mX8_leftBy (sk_R 1 0 0) (sk_K G 0 0 (rI fun r9 M9 => Q r9 ∧ M9 = M) noX) cells slots 80 [some (.ref (G.2.2.1 140)), some (.int a1), some (.int a2), some (.int s5.1), some (.int s5.2), some (.long s80), none, none] [] M) : ∀ (F : Nat) (s31 : Int64 × Int32), lp (w_X8_leftBy_L31 a1 a2 s5 M k80) F s31 → TJ G mX8_leftBy (sk_R 1 0 0) (sk_K G 0 0 (rI fun r9 M9 => Q r9 ∧ M9 = M) noX) cells slots 31 [some (.ref (G.2.2.1 140)), some (.int a1), some (.int a2), some (.int s5.1), some (.int s5.2), some (.long s31.1), none, some (.int s31.2)] [] M := by
  refine lp_sound (fun c hc9 s31 h => ?_)
  unfold w_X8_leftBy_L31 at h
  refine T.ild_7 (q := 33) dX8_leftBy_31 rfl ?_
  refine T.ald_0 (q := 34) dX8_leftBy_33 rfl ?_
  refine k_X8_89 rfl dX8_leftBy_34 (q := 37) rfl (by decide) hc0 hs0 (Nat.le_of_ble_eq_true rfl) (t_X8_people (P := fun r9 => r9 = (f_X8_people M)) rfl) ?_
  rintro _ _ ⟨rfl, h9⟩
  obtain rfl := h9.symm
  refine T.ic_ge (tgt := 80) (q := 40) dX8_leftBy_37 (by decide) rfl (fun h37 => ?_) (fun h37 => ?_)
  · replace h := s_f (fun q => q h37) h
    refine T.drop_7 ?_
    exact hk80 s31.1 h
  · replace h := s_t h37 h
    refine T.lld_5 (q := 42) dX8_leftBy_40 rfl ?_
    refine T.ild_1 (q := 43) dX8_leftBy_42 rfl ?_
    refine T.ild_7 (q := 45) dX8_leftBy_43 rfl ?_
    refine k_X8_320 rfl dX8_leftBy_45 (q := 48) rfl (by decide) hc0 hs0 (Nat.le_of_ble_eq_true rfl) (t_X8_has (P := fun r9 => r9 = (f_X8_has a1 s31.2)) rfl) ?_
    rintro _ _ ⟨rfl, h9⟩
    obtain rfl := h9.symm
    refine T.if_eq (tgt := 68) (q := 51) dX8_leftBy_48 (by decide) rfl (fun h48 => ?_) (fun h48 => ?_)
    · replace h := s_f (fun q => q h48) h
      refine T.ldc2 (q := 71) (-1) dX8_leftBy_68 rfl w_X8_c97 ?_
      refine T.land (q := 72) dX8_leftBy_71 rfl ?_
      refine T.lst_5 (q := 74) dX8_leftBy_72 rfl (by decide) sk_ok_i ?_
      refine S.l5 h ?_
      intro y72 h
      refine T.inc_7 (q := 77) (1) dX8_leftBy_74 rfl (by decide) (by decide) sk_ok_n ?_
      refine T.goto (tgt := 31) dX8_leftBy_77 (by decide) ?_
      exact hc9 (y72, (s31.2 + (1 : Int32))) h
    · replace h := s_t h48 h
      refine T.ald_0 (q := 52) dX8_leftBy_51 rfl ?_
      refine g_X8_29 rfl dX8_leftBy_52 (q := 55) rfl ?_
      refine T.ild_7 (q := 57) dX8_leftBy_55 rfl ?_
      refine T.ild_2 (q := 58) dX8_leftBy_57 rfl ?_
      refine k_X8_93 rfl dX8_leftBy_58 (q := 61) rfl (by decide) hc0 hs0 (Nat.le_of_ble_eq_true rfl) (t_X8_at (P := fun r9 => r9 = (f_X8_at s31.2 a2)) rfl) ?_
      rintro _ _ ⟨rfl, h9⟩
      obtain rfl := h9.symm
      refine T.ild_4 (q := 63) dX8_leftBy_61 rfl ?_
      refine T.iadd (q := 64) dX8_leftBy_63 rfl ?_
      refine T.lald (n := 144) rfl rfl (by decide) dX8_leftBy_64 (q := 65) rfl h.1 ?_
      replace h := h.2
      refine T.goto (tgt := 71) dX8_leftBy_65 (by decide) ?_
      refine T.land (q := 72) dX8_leftBy_71 rfl ?_
      refine T.lst_5 (q := 74) dX8_leftBy_72 rfl (by decide) sk_ok_i ?_
      refine S.l5 h ?_
      intro y72 h
      refine T.inc_7 (q := 77) (1) dX8_leftBy_74 rfl (by decide) (by decide) sk_ok_n ?_
      refine T.goto (tgt := 31) dX8_leftBy_77 (by decide) ?_
      exact hc9 (y72, (s31.2 + (1 : Int32))) h
theorem tl_X8_leftBy_L5 {G : sk_G} {M : sk_M} {cells slots : Nat} {a1 : Int32} {a2 : Int32} {Q : Int32 → Prop}  (hc0 : cells ≤ 0) (hs0 : slots ≤ 0) : ∀ (F : Nat) (s5 : Int32 × Int32), lp (w_X8_leftBy_L5 a1 a2 M Q) F s5 → TJ G mX8_leftBy (sk_R 1 0 0) (sk_K G 0 0 (rI fun r9 M9 => Q r9 ∧ M9 = M) noX) cells slots 5 [some (.ref (G.2.2.1 140)), some (.int a1), some (.int a2), some (.int s5.1), some (.int s5.2), none, none, none] [] M := by
  refine lp_sound (fun c hc9 s5 h => ?_)
  unfold w_X8_leftBy_L5 at h
  refine T.ild_4 (q := 7) dX8_leftBy_5 rfl ?_
  refine T.iconst (q := 8) (4) dX8_leftBy_7 rfl (by decide) ?_
  refine T.ic_ge (tgt := 94) (q := 11) dX8_leftBy_8 (by decide) rfl (fun h8 => ?_) (fun h8 => ?_)
  · replace h := s_f (fun q => q h8) h
    refine T.ild_3 (q := 95) dX8_leftBy_94 rfl ?_
    exact T.retI rfl dX8_leftBy_95 hc0 hs0 ⟨h, rfl⟩
  · replace h := s_t h8 h
    refine T.ild_4 (q := 13) dX8_leftBy_11 rfl ?_
    refine T.iconst (q := 14) (3) dX8_leftBy_13 rfl (by decide) ?_
    refine s_dia (fun s26_14 : Int64 => TJ G mX8_leftBy (sk_R 1 0 0) (sk_K G 0 0 (rI fun r9 M9 => Q r9 ∧ M9 = M) noX) cells slots 26 [some (.ref (G.2.2.1 140)), some (.int a1), some (.int a2), some (.int s5.1), some (.int s5.2), none, none, none] [.long s26_14] M) h (fun s26_14 h => ?_) (fun k9 hJ9 h => ?_)
    · refine T.lst_5 (q := 28) dX8_leftBy_26 rfl (by decide) sk_ok_i ?_
      refine T.iconst (q := 29) (0) dX8_leftBy_28 rfl (by decide) ?_
      refine T.ist_7 (q := 31) dX8_leftBy_29 rfl (by decide) sk_ok_n ?_
      refine tl_X8_leftBy_L31  hc0 hs0 ?_ _ (s26_14, (0 : Int32)) h
      intro s80 h
      refine T.ild_3 (q := 81) dX8_leftBy_80 rfl ?_
      refine T.lld_5 (q := 83) dX8_leftBy_81 rfl ?_
      refine k_X8_105 rfl dX8_leftBy_83 (q := 86) rfl (by decide) hc0 hs0 (Nat.le_of_ble_eq_true rfl) (t_bc64 (P := fun r9 => r9 = (bc64 s80)) rfl) ?_
      rintro _ _ ⟨rfl, h9⟩
      obtain rfl := h9.symm
      refine T.iadd (q := 87) dX8_leftBy_86 rfl ?_
      refine T.ist_3 (q := 88) dX8_leftBy_87 rfl (by decide) sk_ok_i ?_
      refine S.i3 h ?_
      intro y87 h
      refine T.inc_4 (q := 91) (1) dX8_leftBy_88 rfl (by decide) (by decide) sk_ok_i ?_
      refine T.goto (tgt := 5) dX8_leftBy_91 (by decide) ?_
      refine T.drop_5 ?_
      exact hc9 (y87, (s5.2 + (1 : Int32))) h
    · refine T.ic_ge (tgt := 23) (q := 17) dX8_leftBy_14 (by decide) rfl (fun h14 => ?_) (fun h14 => ?_)
      · replace h := s_fk (fun q => q h14) h
        refine T.ldc2 (q := 26) (16777215) dX8_leftBy_23 rfl w_X8_c99 ?_
        exact hJ9 _ h
      · replace h := s_tk h14 h
        refine T.ldc2 (q := 20) (-1) dX8_leftBy_17 rfl w_X8_c97 ?_
        refine T.goto (tgt := 26) dX8_leftBy_20 (by decide) ?_
        exact hJ9 _ h
theorem t_X8_leftBy {G : sk_G} {M : sk_M} {a1 : Int32} {a2 : Int32}  {Q : Int32 → Prop} (h : w_X8_leftBy a1 a2 M Q) : Ctr G mX8_leftBy 1 0 0 [.ref (G.2.2.1 140), .int a1, .int a2] M (rI fun r9 M9 => Q r9 ∧ M9 = M) noX := by
  unfold w_X8_leftBy at h
  refine Ctr.of 5 (by decide) (Nat.le_of_ble_eq_true rfl) ?_
  show TJ G mX8_leftBy (sk_R 1 0 0) (sk_K G 0 0 (rI fun r9 M9 => Q r9 ∧ M9 = M) noX) 0 0 0 [some (.ref (G.2.2.1 140)), some (.int a1), some (.int a2), none, none, none, none, none] [] M
  refine T.iconst (q := 1) (0) dX8_leftBy_0 rfl (by decide) ?_
  refine T.ist_3 (q := 2) dX8_leftBy_1 rfl (by decide) sk_ok_i ?_
  refine T.iconst (q := 3) (0) dX8_leftBy_2 rfl (by decide) ?_
  refine T.ist_4 (q := 5) dX8_leftBy_3 rfl (by decide) sk_ok_i ?_
  exact tl_X8_leftBy_L5  (by decide) (by decide) _ ((0 : Int32), (0 : Int32)) h
theorem tl_X8_alone_L24 {G : sk_G} {cells slots : Nat} {a1 : Int32} {M12 : sk_M} {Q : Int32 → sk_M → Prop}  (hc0 : cells ≤ 0) (hs0 : slots ≤ 0) : ∀ (F : Nat) (s24 : Int32 × Int32), lp (w_X8_alone_L24 a1 M12 Q) F s24 → TJ G mX8_alone (sk_R 2 0 0) (sk_K G 0 0 (rI Q) noX) cells slots 24 [some (.ref (G.2.2.1 140)), some (.int a1), some (.int s24.1), some (.int s24.2)] [] M12 := by
  refine lp_sound (fun c hc9 s24 h => ?_)
  unfold w_X8_alone_L24 at h
  refine T.ild_3 (q := 25) dX8_alone_24 rfl ?_
  refine T.ald_0 (q := 26) dX8_alone_25 rfl ?_
  refine k_X8_89 rfl dX8_alone_26 (q := 29) rfl (by decide) hc0 hs0 (Nat.le_of_ble_eq_true rfl) (t_X8_people (P := fun r9 => r9 = (f_X8_people M12)) rfl) ?_
  rintro _ _ ⟨rfl, h9⟩
  obtain rfl := h9.symm
  refine T.ic_ge (tgt := 58) (q := 32) dX8_alone_29 (by decide) rfl (fun h29 => ?_) (fun h29 => ?_)
  · replace h := s_f (fun q => q h29) h
    refine T.ild_2 (q := 59) dX8_alone_58 rfl ?_
    exact T.retI rfl dX8_alone_59 hc0 hs0 h
  · replace h := s_t h29 h
    refine T.ild_2 (q := 33) dX8_alone_32 rfl ?_
    refine T.ald_0 (q := 34) dX8_alone_33 rfl ?_
    refine T.ild_3 (q := 35) dX8_alone_34 rfl ?_
    refine T.ild_1 (q := 36) dX8_alone_35 rfl ?_
    refine k_X8_345 rfl dX8_alone_36 (q := 39) rfl (by decide) hc0 hs0 (Nat.le_of_ble_eq_true rfl) (t_X8_leftOf  h) ?_
    rintro r36 _ ⟨h, h9⟩
    obtain rfl := h9.symm
    refine T.iconst (q := 40) (1) dX8_alone_39 rfl (by decide) ?_
    refine T.ic_ne (tgt := 49) (q := 43) dX8_alone_40 (by decide) rfl (fun h40 => ?_) (fun h40 => ?_)
    · replace h := s_f h40 h
      refine T.iconst (q := 50) (0) dX8_alone_49 rfl (by decide) ?_
      refine T.ior (q := 51) dX8_alone_50 rfl ?_
      refine T.ist_2 (q := 52) dX8_alone_51 rfl (by decide) sk_ok_i ?_
      refine S.i2 h ?_
      intro y51 h
      refine T.inc_3 (q := 55) (1) dX8_alone_52 rfl (by decide) (by decide) sk_ok_i ?_
      refine T.goto (tgt := 24) dX8_alone_55 (by decide) ?_
      exact hc9 (y51, (s24.2 + (1 : Int32))) h
    · replace h := s_t h40 h
      refine T.iconst (q := 44) (1) dX8_alone_43 rfl (by decide) ?_
      refine T.ild_3 (q := 45) dX8_alone_44 rfl ?_
      refine T.ishl (q := 46) dX8_alone_45 rfl ?_
      refine T.goto (tgt := 50) dX8_alone_46 (by decide) ?_
      refine T.ior (q := 51) dX8_alone_50 rfl ?_
      refine T.ist_2 (q := 52) dX8_alone_51 rfl (by decide) sk_ok_i ?_
      refine S.i2 h ?_
      intro y51 h
      refine T.inc_3 (q := 55) (1) dX8_alone_52 rfl (by decide) (by decide) sk_ok_i ?_
      refine T.goto (tgt := 24) dX8_alone_55 (by decide) ?_
      exact hc9 (y51, (s24.2 + (1 : Int32))) h
theorem t_X8_alone {G : sk_G} {M : sk_M} {a1 : Int32}  {Q : Int32 → sk_M → Prop} (h : w_X8_alone a1 M Q) : Ctr G mX8_alone 2 0 0 [.ref (G.2.2.1 140), .int a1] M (rI Q) noX := by
  unfold w_X8_alone at h
  refine Ctr.of 2 (by decide) (Nat.le_of_ble_eq_true rfl) ?_
  show TJ G mX8_alone (sk_R 2 0 0) (sk_K G 0 0 (rI Q) noX) 0 0 0 [some (.ref (G.2.2.1 140)), some (.int a1), none, none] [] M
  refine T.ald_0 (q := 1) dX8_alone_0 rfl ?_
  refine T.iconst (q := 2) (0) dX8_alone_1 rfl (by decide) ?_
  refine p_X8_3 rfl dX8_alone_2 (q := 5) rfl ?_
  refine S.mem h ?_
  intro M2 h
  refine T.ald_0 (q := 6) dX8_alone_5 rfl ?_
  refine T.ald_0 (q := 7) dX8_alone_6 rfl ?_
  refine T.ild_1 (q := 8) dX8_alone_7 rfl ?_
  refine k_X8_329 rfl dX8_alone_8 (q := 11) rfl (by decide) (by decide) (by decide) (Nat.le_of_ble_eq_true rfl) (t_X8_noVault (P := fun r9 => r9 = (f_X8_noVault a1 M2)) rfl) ?_
  rintro _ _ ⟨rfl, h9⟩
  obtain rfl := h9.symm
  refine T.iconst (q := 12) (1) dX8_alone_11 rfl (by decide) ?_
  refine k_X8_281 rfl dX8_alone_12 (q := 15) rfl (by decide) (by decide) (by decide) (Nat.le_of_ble_eq_true rfl) (t_X8_throwsIf  h) ?_
  intro r12 M12 h
  refine T.if_eq (tgt := 20) (q := 18) dX8_alone_15 (by decide) rfl (fun h15 => ?_) (fun h15 => ?_)
  · replace h := s_f (fun q => q h15) h
    refine T.iconst (q := 21) (0) dX8_alone_20 rfl (by decide) ?_
    refine T.ist_2 (q := 22) dX8_alone_21 rfl (by decide) sk_ok_i ?_
    refine T.iconst (q := 23) (0) dX8_alone_22 rfl (by decide) ?_
    refine T.ist_3 (q := 24) dX8_alone_23 rfl (by decide) sk_ok_i ?_
    exact tl_X8_alone_L24  (by decide) (by decide) _ ((0 : Int32), (0 : Int32)) h
  · replace h := s_t h15 h
    refine T.iconst (q := 19) (0) dX8_alone_18 rfl (by decide) ?_
    exact T.retI rfl dX8_alone_19 (by decide) (by decide) h
theorem t_X8_allPeople {G : sk_G} {M : sk_M}   {P : Int32 → Prop} (h : P (f_X8_allPeople  M)) : Ctr G mX8_allPeople 1 0 0 [.ref (G.2.2.1 140)] M (rI fun r9 M9 => P r9 ∧ M9 = M) noX := by
  unfold f_X8_allPeople at h
  refine Ctr.of 0 (by decide) (Nat.le_of_ble_eq_true rfl) ?_
  show TJ G mX8_allPeople (sk_R 1 0 0) (sk_K G 0 0 (rI fun r9 M9 => P r9 ∧ M9 = M) noX) 0 0 0 [some (.ref (G.2.2.1 140))] [] M
  refine T.iconst (q := 1) (1) dX8_allPeople_0 rfl (by decide) ?_
  refine T.ald_0 (q := 2) dX8_allPeople_1 rfl ?_
  refine k_X8_89 rfl dX8_allPeople_2 (q := 5) rfl (by decide) (by decide) (by decide) (Nat.le_of_ble_eq_true rfl) (t_X8_people (P := fun r9 => r9 = (f_X8_people M)) rfl) ?_
  rintro _ _ ⟨rfl, h9⟩
  obtain rfl := h9.symm
  refine T.ishl (q := 6) dX8_allPeople_5 rfl ?_
  refine T.iconst (q := 7) (1) dX8_allPeople_6 rfl (by decide) ?_
  refine T.isub (q := 8) dX8_allPeople_7 rfl ?_
  exact T.retI rfl dX8_allPeople_8 (by decide) (by decide) ⟨h, rfl⟩
theorem t_X8_together {G : sk_G} {M : sk_M} {a1 : Int32} {a2 : Int32}  {Q : Int32 → sk_M → Prop} (h : w_X8_together a1 a2 M Q) : Ctr G mX8_together 2 0 0 [.ref (G.2.2.1 140), .int a1, .int a2] M (rI Q) noX := by
  unfold w_X8_together at h
  refine Ctr.of 0 (by decide) (Nat.le_of_ble_eq_true rfl) ?_
  show TJ G mX8_together (sk_R 2 0 0) (sk_K G 0 0 (rI Q) noX) 0 0 0 [some (.ref (G.2.2.1 140)), some (.int a1), some (.int a2)] [] M
  refine T.ald_0 (q := 1) dX8_together_0 rfl ?_
  refine T.iconst (q := 2) (0) dX8_together_1 rfl (by decide) ?_
  refine p_X8_3 rfl dX8_together_2 (q := 5) rfl ?_
  refine S.mem h ?_
  intro M2 h
  refine T.ald_0 (q := 6) dX8_together_5 rfl ?_
  refine T.ald_0 (q := 7) dX8_together_6 rfl ?_
  refine T.ild_2 (q := 8) dX8_together_7 rfl ?_
  refine k_X8_329 rfl dX8_together_8 (q := 11) rfl (by decide) (by decide) (by decide) (Nat.le_of_ble_eq_true rfl) (t_X8_noVault (P := fun r9 => r9 = (f_X8_noVault a2 M2)) rfl) ?_
  rintro _ _ ⟨rfl, h9⟩
  obtain rfl := h9.symm
  refine T.iconst (q := 12) (1) dX8_together_11 rfl (by decide) ?_
  refine k_X8_281 rfl dX8_together_12 (q := 15) rfl (by decide) (by decide) (by decide) (Nat.le_of_ble_eq_true rfl) (t_X8_throwsIf  h) ?_
  intro r12 M12 h
  refine T.if_ne (tgt := 37) (q := 18) dX8_together_15 (by decide) rfl (fun h15 => ?_) (fun h15 => ?_)
  · replace h := s_f h15 h
    refine T.iconst (q := 38) (0) dX8_together_37 rfl (by decide) ?_
    exact T.retZ rfl dX8_together_38 (by decide) (by decide) rfl h
  · replace h := s_t h15 h
    refine T.ald_0 (q := 19) dX8_together_18 rfl ?_
    refine T.ild_1 (q := 20) dX8_together_19 rfl ?_
    refine T.ald_0 (q := 21) dX8_together_20 rfl ?_
    refine k_X8_403 rfl dX8_together_21 (q := 24) rfl (by decide) (by decide) (by decide) (Nat.le_of_ble_eq_true rfl) (t_X8_allPeople (P := fun r9 => r9 = (f_X8_allPeople M12)) rfl) ?_
    rintro _ _ ⟨rfl, h9⟩
    obtain rfl := h9.symm
    refine T.iand (q := 25) dX8_together_24 rfl ?_
    refine T.ild_2 (q := 26) dX8_together_25 rfl ?_
    refine k_X8_406 rfl dX8_together_26 (q := 29) rfl (by decide) (by decide) (by decide) (Nat.le_of_ble_eq_true rfl) (t_X8_leftBy  h) ?_
    rintro r26 _ ⟨h, h9⟩
    obtain rfl := h9.symm
    refine T.iconst (q := 30) (1) dX8_together_29 rfl (by decide) ?_
    refine T.ic_ne (tgt := 37) (q := 33) dX8_together_30 (by decide) rfl (fun h30 => ?_) (fun h30 => ?_)
    · replace h := s_f h30 h
      refine T.iconst (q := 38) (0) dX8_together_37 rfl (by decide) ?_
      exact T.retZ rfl dX8_together_38 (by decide) (by decide) rfl h
    · replace h := s_t h30 h
      refine T.iconst (q := 34) (1) dX8_together_33 rfl (by decide) ?_
      refine T.goto (tgt := 38) dX8_together_34 (by decide) ?_
      exact T.retZ rfl dX8_together_38 (by decide) (by decide) rfl h
theorem tl_X8_fewest_L39 {G : sk_G} {cells slots : Nat} {a1 : Int32} {a2 : Int32} {M12 : sk_M} {Q : Int32 → sk_M → Prop}  (hc0 : cells ≤ 0) (hs0 : slots ≤ 0) : ∀ (F : Nat) (s39 : Int32 × Int32), lp (w_X8_fewest_L39 a1 a2 M12 Q) F s39 → TJ G mX8_fewest (sk_R 2 0 0) (sk_K G 0 0 (rI Q) noX) cells slots 39 [some (.ref (G.2.2.1 140)), some (.int a1), some (.int a2), some (.int s39.1), some (.int s39.2), none] [] M12 := by
  refine lp_sound (fun c hc9 s39 h => ?_)
  unfold w_X8_fewest_L39 at h
  refine T.ild_4 (q := 41) dX8_fewest_39 rfl ?_
  refine T.if_lt (tgt := 126) (q := 44) dX8_fewest_41 (by decide) rfl (fun h41 => ?_) (fun h41 => ?_)
  · replace h := s_f (fun q => q h41) h
    refine T.ild_3 (q := 127) dX8_fewest_126 rfl ?_
    exact T.retI rfl dX8_fewest_127 hc0 hs0 h
  · replace h := s_t h41 h
    refine T.ild_2 (q := 45) dX8_fewest_44 rfl ?_
    refine s_join (fun s90_45 : Int32 => TJ G mX8_fewest (sk_R 2 0 0) (sk_K G 0 0 (rI Q) noX) cells slots 90 [some (.ref (G.2.2.1 140)), some (.int a1), some (.int a2), some (.int s39.1), some (.int s39.2), none] [.int s90_45] M12) h (fun s90_45 h => ?_) (fun j90_45 hj90_45 h => ?_)
    · refine T.ist_5 (q := 92) dX8_fewest_90 rfl (by decide) sk_ok_i ?_
      refine T.ild_5 (q := 94) dX8_fewest_92 rfl ?_
      refine T.if_eq (tgt := 118) (q := 97) dX8_fewest_94 (by decide) rfl (fun h94 => ?_) (fun h94 => ?_)
      · replace h := s_f (fun q => q.1 h94) h
        refine T.ild_3 (q := 119) dX8_fewest_118 rfl ?_
        refine T.ist_3 (q := 120) dX8_fewest_119 rfl (by decide) sk_ok_i ?_
        refine T.inc_4 (q := 123) (-1) dX8_fewest_120 rfl (by decide) (by decide) sk_ok_i ?_
        refine T.goto (tgt := 39) dX8_fewest_123 (by decide) ?_
        refine T.drop_5 ?_
        exact hc9 (s39.1, (s39.2 + (-1 : Int32))) h
      · refine T.ild_3 (q := 98) dX8_fewest_97 rfl ?_
        refine T.if_lt (tgt := 113) (q := 101) dX8_fewest_98 (by decide) rfl (fun h98 => ?_) (fun h98 => ?_)
        · replace h := s_t ⟨h94, (Or.inl h98)⟩ h
          refine T.ild_4 (q := 115) dX8_fewest_113 rfl ?_
          refine T.goto (tgt := 119) dX8_fewest_115 (by decide) ?_
          refine T.ist_3 (q := 120) dX8_fewest_119 rfl (by decide) sk_ok_i ?_
          refine T.inc_4 (q := 123) (-1) dX8_fewest_120 rfl (by decide) (by decide) sk_ok_i ?_
          refine T.goto (tgt := 39) dX8_fewest_123 (by decide) ?_
          refine T.drop_5 ?_
          exact hc9 (s39.2, (s39.2 + (-1 : Int32))) h
        · refine T.ild_4 (q := 103) dX8_fewest_101 rfl ?_
          refine k_X8_338 rfl dX8_fewest_103 (q := 106) rfl (by decide) hc0 hs0 (Nat.le_of_ble_eq_true rfl) (t_bc32 (P := fun r9 => r9 = (bc32 s39.2)) rfl) ?_
          rintro _ _ ⟨rfl, h9⟩
          obtain rfl := h9.symm
          refine T.ild_3 (q := 107) dX8_fewest_106 rfl ?_
          refine k_X8_338 rfl dX8_fewest_107 (q := 110) rfl (by decide) hc0 hs0 (Nat.le_of_ble_eq_true rfl) (t_bc32 (P := fun r9 => r9 = (bc32 s39.1)) rfl) ?_
          rintro _ _ ⟨rfl, h9⟩
          obtain rfl := h9.symm
          refine T.ic_gt (tgt := 118) (q := 113) dX8_fewest_110 (by decide) rfl (fun h110 => ?_) (fun h110 => ?_)
          · replace h := s_f (fun q => (fun q => q.elim h98 (fun q => q h110)) q.2) h
            refine T.ild_3 (q := 119) dX8_fewest_118 rfl ?_
            refine T.ist_3 (q := 120) dX8_fewest_119 rfl (by decide) sk_ok_i ?_
            refine T.inc_4 (q := 123) (-1) dX8_fewest_120 rfl (by decide) (by decide) sk_ok_i ?_
            refine T.goto (tgt := 39) dX8_fewest_123 (by decide) ?_
            refine T.drop_5 ?_
            exact hc9 (s39.1, (s39.2 + (-1 : Int32))) h
          · replace h := s_t ⟨h94, (Or.inr h110)⟩ h
            refine T.ild_4 (q := 115) dX8_fewest_113 rfl ?_
            refine T.goto (tgt := 119) dX8_fewest_115 (by decide) ?_
            refine T.ist_3 (q := 120) dX8_fewest_119 rfl (by decide) sk_ok_i ?_
            refine T.inc_4 (q := 123) (-1) dX8_fewest_120 rfl (by decide) (by decide) sk_ok_i ?_
            refine T.goto (tgt := 39) dX8_fewest_123 (by decide) ?_
            refine T.drop_5 ?_
            exact hc9 (s39.2, (s39.2 + (-1 : Int32))) h
    · refine T.if_eq (tgt := 74) (q := 48) dX8_fewest_45 (by decide) rfl (fun h45 => ?_) (fun h45 => ?_)
      · replace h := s_f (fun q => q h45) h
        refine T.ald_0 (q := 75) dX8_fewest_74 rfl ?_
        refine T.ild_4 (q := 77) dX8_fewest_75 rfl ?_
        refine T.ild_1 (q := 78) dX8_fewest_77 rfl ?_
        refine k_X8_406 rfl dX8_fewest_78 (q := 81) rfl (by decide) hc0 hs0 (Nat.le_of_ble_eq_true rfl) (t_X8_leftBy  h) ?_
        rintro r78 _ ⟨h, h9⟩
        obtain rfl := h9.symm
        refine T.iconst (q := 82) (1) dX8_fewest_81 rfl (by decide) ?_
        refine T.ic_ne (tgt := 89) (q := 85) dX8_fewest_82 (by decide) rfl (fun h82 => ?_) (fun h82 => ?_)
        · replace h := s_f h82 h
          refine T.iconst (q := 90) (0) dX8_fewest_89 rfl (by decide) ?_
          exact hj90_45 (0 : Int32) h
        · replace h := s_t h82 h
          refine T.iconst (q := 86) (1) dX8_fewest_85 rfl (by decide) ?_
          refine T.goto (tgt := 90) dX8_fewest_86 (by decide) ?_
          exact hj90_45 (1 : Int32) h
      · replace h := s_t h45 h
        refine T.ald_0 (q := 49) dX8_fewest_48 rfl ?_
        refine T.ald_0 (q := 50) dX8_fewest_49 rfl ?_
        refine k_X8_403 rfl dX8_fewest_50 (q := 53) rfl (by decide) hc0 hs0 (Nat.le_of_ble_eq_true rfl) (t_X8_allPeople (P := fun r9 => r9 = (f_X8_allPeople M12)) rfl) ?_
        rintro _ _ ⟨rfl, h9⟩
        obtain rfl := h9.symm
        refine T.ild_4 (q := 55) dX8_fewest_53 rfl ?_
        refine T.iconst (q := 56) (-1) dX8_fewest_55 rfl (by decide) ?_
        refine T.ixor (q := 57) dX8_fewest_56 rfl ?_
        refine T.iand (q := 58) dX8_fewest_57 rfl ?_
        refine T.ild_1 (q := 59) dX8_fewest_58 rfl ?_
        refine k_X8_406 rfl dX8_fewest_59 (q := 62) rfl (by decide) hc0 hs0 (Nat.le_of_ble_eq_true rfl) (t_X8_leftBy  h) ?_
        rintro r59 _ ⟨h, h9⟩
        obtain rfl := h9.symm
        refine T.iconst (q := 63) (1) dX8_fewest_62 rfl (by decide) ?_
        refine T.ic_eq (tgt := 70) (q := 66) dX8_fewest_63 (by decide) rfl (fun h63 => ?_) (fun h63 => ?_)
        · replace h := s_f (fun q => q h63) h
          refine T.iconst (q := 71) (0) dX8_fewest_70 rfl (by decide) ?_
          refine T.goto (tgt := 90) dX8_fewest_71 (by decide) ?_
          exact hj90_45 (0 : Int32) h
        · replace h := s_t h63 h
          refine T.iconst (q := 67) (1) dX8_fewest_66 rfl (by decide) ?_
          refine T.goto (tgt := 90) dX8_fewest_67 (by decide) ?_
          exact hj90_45 (1 : Int32) h
theorem t_X8_fewest {G : sk_G} {M : sk_M} {a1 : Int32} {a2 : Int32}  {Q : Int32 → sk_M → Prop} (h : w_X8_fewest a1 a2 M Q) : Ctr G mX8_fewest 2 0 0 [.ref (G.2.2.1 140), .int a1, .int a2] M (rI Q) noX := by
  unfold w_X8_fewest at h
  refine Ctr.of 3 (by decide) (Nat.le_of_ble_eq_true rfl) ?_
  show TJ G mX8_fewest (sk_R 2 0 0) (sk_K G 0 0 (rI Q) noX) 0 0 0 [some (.ref (G.2.2.1 140)), some (.int a1), some (.int a2), none, none, none] [] M
  refine T.ald_0 (q := 1) dX8_fewest_0 rfl ?_
  refine T.iconst (q := 2) (0) dX8_fewest_1 rfl (by decide) ?_
  refine p_X8_3 rfl dX8_fewest_2 (q := 5) rfl ?_
  refine S.mem h ?_
  intro M2 h
  refine T.ald_0 (q := 6) dX8_fewest_5 rfl ?_
  refine T.ald_0 (q := 7) dX8_fewest_6 rfl ?_
  refine T.ild_1 (q := 8) dX8_fewest_7 rfl ?_
  refine k_X8_329 rfl dX8_fewest_8 (q := 11) rfl (by decide) (by decide) (by decide) (Nat.le_of_ble_eq_true rfl) (t_X8_noVault (P := fun r9 => r9 = (f_X8_noVault a1 M2)) rfl) ?_
  rintro _ _ ⟨rfl, h9⟩
  obtain rfl := h9.symm
  refine T.iconst (q := 12) (1) dX8_fewest_11 rfl (by decide) ?_
  refine k_X8_281 rfl dX8_fewest_12 (q := 15) rfl (by decide) (by decide) (by decide) (Nat.le_of_ble_eq_true rfl) (t_X8_throwsIf  h) ?_
  intro r12 M12 h
  refine T.if_eq (tgt := 20) (q := 18) dX8_fewest_15 (by decide) rfl (fun h15 => ?_) (fun h15 => ?_)
  · replace h := s_f (fun q => q h15) h
    refine T.ild_2 (q := 21) dX8_fewest_20 rfl ?_
    refine s_dia (fun s32_21 : Int32 => TJ G mX8_fewest (sk_R 2 0 0) (sk_K G 0 0 (rI Q) noX) 0 0 32 [some (.ref (G.2.2.1 140)), some (.int a1), some (.int a2), none, none, none] [.int s32_21] M12) h (fun s32_21 h => ?_) (fun k9 hJ9 h => ?_)
    · refine T.ist_3 (q := 33) dX8_fewest_32 rfl (by decide) sk_ok_i ?_
      refine T.ald_0 (q := 34) dX8_fewest_33 rfl ?_
      refine k_X8_403 rfl dX8_fewest_34 (q := 37) rfl (by decide) (by decide) (by decide) (Nat.le_of_ble_eq_true rfl) (t_X8_allPeople (P := fun r9 => r9 = (f_X8_allPeople M12)) rfl) ?_
      rintro _ _ ⟨rfl, h9⟩
      obtain rfl := h9.symm
      refine T.ist_4 (q := 39) dX8_fewest_37 rfl (by decide) sk_ok_i ?_
      refine S.i4 h ?_
      intro y37 h
      exact tl_X8_fewest_L39  (by decide) (by decide) _ (s32_21, y37) h
    · refine T.if_eq (tgt := 31) (q := 24) dX8_fewest_21 (by decide) rfl (fun h21 => ?_) (fun h21 => ?_)
      · replace h := s_fk (fun q => q h21) h
        refine T.iconst (q := 32) (-1) dX8_fewest_31 rfl (by decide) ?_
        exact hJ9 _ h
      · replace h := s_tk h21 h
        refine T.ald_0 (q := 25) dX8_fewest_24 rfl ?_
        refine k_X8_403 rfl dX8_fewest_25 (q := 28) rfl (by decide) (by decide) (by decide) (Nat.le_of_ble_eq_true rfl) (t_X8_allPeople (P := fun r9 => r9 = (f_X8_allPeople M12)) rfl) ?_
        rintro _ _ ⟨rfl, h9⟩
        obtain rfl := h9.symm
        refine T.goto (tgt := 32) dX8_fewest_28 (by decide) ?_
        exact hJ9 _ h
  · replace h := s_t h15 h
    refine T.iconst (q := 19) (0) dX8_fewest_18 rfl (by decide) ?_
    exact T.retI rfl dX8_fewest_19 (by decide) (by decide) h
theorem tl_X8_pair_L44 {G : sk_G} {cells slots : Nat} {a1 : Int32} {M12 : sk_M} {s29 : Int32 × Int32 × Int32} {Q : Int32 → sk_M → Prop} {k96 : (Int32 × Int32) → Prop}  (hc0 : cells ≤ 0) (hs0 : slots ≤ 0) (hk96 : ∀ s96 : Int32 × Int32, k96 s96 → TJ G mX8_pair (sk_R 2 0 0) (sk_K G 0 0 (rI Q) noX) cells slots 96 [some (.ref (G.2.2.1 140)), some (.int a1), some (.int s96.1), some (.int s96.2), some (.int s29.2.2), none, none] [] M12) : ∀ (F : Nat) (s44 : Int32 × Int32 × Int32), lp (w_X8_pair_L44 a1 M12 s29 k96) F s44 → TJ G mX8_pair (sk_R 2 0 0) (sk_K G 0 0 (rI Q) noX) cells slots 44 [some (.ref (G.2.2.1 140)), some (.int a1), some (.int s44.1), some (.int s44.2.1), some (.int s29.2.2), some (.int s44.2.2), none] [] M12 := by
  refine lp_sound (fun c hc9 s44 h => ?_)
  unfold w_X8_pair_L44 at h
  refine T.ild_5 (q := 46) dX8_pair_44 rfl ?_
  refine T.ald_0 (q := 47) dX8_pair_46 rfl ?_
  refine k_X8_89 rfl dX8_pair_47 (q := 50) rfl (by decide) hc0 hs0 (Nat.le_of_ble_eq_true rfl) (t_X8_people (P := fun r9 => r9 = (f_X8_people M12)) rfl) ?_
  rintro _ _ ⟨rfl, h9⟩
  obtain rfl := h9.symm
  refine T.ic_ge (tgt := 96) (q := 53) dX8_pair_50 (by decide) rfl (fun h50 => ?_) (fun h50 => ?_)
  · replace h := s_f (fun q => q h50) h
    refine T.drop_5 ?_
    exact hk96 (s44.1, s44.2.1) h
  · replace h := s_t h50 h
    refine T.ald_0 (q := 54) dX8_pair_53 rfl ?_
    refine T.iconst (q := 55) (1) dX8_pair_54 rfl (by decide) ?_
    refine T.ild_4 (q := 57) dX8_pair_55 rfl ?_
    refine T.ishl (q := 58) dX8_pair_57 rfl ?_
    refine T.iconst (q := 59) (1) dX8_pair_58 rfl (by decide) ?_
    refine T.ild_5 (q := 61) dX8_pair_59 rfl ?_
    refine T.ishl (q := 62) dX8_pair_61 rfl ?_
    refine T.ior (q := 63) dX8_pair_62 rfl ?_
    refine T.ild_1 (q := 64) dX8_pair_63 rfl ?_
    refine k_X8_406 rfl dX8_pair_64 (q := 67) rfl (by decide) hc0 hs0 (Nat.le_of_ble_eq_true rfl) (t_X8_leftBy  h) ?_
    rintro r64 _ ⟨h, h9⟩
    obtain rfl := h9.symm
    refine T.ist_6 (q := 69) dX8_pair_67 rfl (by decide) sk_ok_i ?_
    refine T.ild_6 (q := 71) dX8_pair_69 rfl ?_
    refine T.ild_3 (q := 72) dX8_pair_71 rfl ?_
    refine T.ic_lt (tgt := 78) (q := 75) dX8_pair_72 (by decide) rfl (fun h72 => ?_) (fun h72 => ?_)
    · replace h := s_f (fun q => q h72) h
      refine T.bipush (q := 80) (10) dX8_pair_78 rfl (by decide) ?_
      refine T.ild_4 (q := 82) dX8_pair_80 rfl ?_
      refine T.imul (q := 83) dX8_pair_82 rfl ?_
      refine T.ild_5 (q := 85) dX8_pair_83 rfl ?_
      refine T.iadd (q := 86) dX8_pair_85 rfl ?_
      refine T.ist_2 (q := 87) dX8_pair_86 rfl (by decide) sk_ok_i ?_
      refine S.i2 h ?_
      intro y86 h
      refine T.ild_6 (q := 89) dX8_pair_87 rfl ?_
      refine T.ist_3 (q := 90) dX8_pair_89 rfl (by decide) sk_ok_i ?_
      refine T.inc_5 (q := 93) (1) dX8_pair_90 rfl (by decide) (by decide) sk_ok_i ?_
      refine T.goto (tgt := 44) dX8_pair_93 (by decide) ?_
      refine T.drop_6 ?_
      exact hc9 (y86, r64, (s44.2.2 + (1 : Int32))) h
    · replace h := s_t h72 h
      refine T.goto (tgt := 90) dX8_pair_75 (by decide) ?_
      refine T.inc_5 (q := 93) (1) dX8_pair_90 rfl (by decide) (by decide) sk_ok_i ?_
      refine T.goto (tgt := 44) dX8_pair_93 (by decide) ?_
      refine T.drop_6 ?_
      exact hc9 (s44.1, s44.2.1, (s44.2.2 + (1 : Int32))) h
theorem tl_X8_pair_L29 {G : sk_G} {cells slots : Nat} {a1 : Int32} {M12 : sk_M} {Q : Int32 → sk_M → Prop}  (hc0 : cells ≤ 0) (hs0 : slots ≤ 0) : ∀ (F : Nat) (s29 : Int32 × Int32 × Int32), lp (w_X8_pair_L29 a1 M12 Q) F s29 → TJ G mX8_pair (sk_R 2 0 0) (sk_K G 0 0 (rI Q) noX) cells slots 29 [some (.ref (G.2.2.1 140)), some (.int a1), some (.int s29.1), some (.int s29.2.1), some (.int s29.2.2), none, none] [] M12 := by
  refine lp_sound (fun c hc9 s29 h => ?_)
  unfold w_X8_pair_L29 at h
  refine T.ild_4 (q := 31) dX8_pair_29 rfl ?_
  refine T.ald_0 (q := 32) dX8_pair_31 rfl ?_
  refine k_X8_89 rfl dX8_pair_32 (q := 35) rfl (by decide) hc0 hs0 (Nat.le_of_ble_eq_true rfl) (t_X8_people (P := fun r9 => r9 = (f_X8_people M12)) rfl) ?_
  rintro _ _ ⟨rfl, h9⟩
  obtain rfl := h9.symm
  refine T.ic_ge (tgt := 102) (q := 38) dX8_pair_35 (by decide) rfl (fun h35 => ?_) (fun h35 => ?_)
  · replace h := s_f (fun q => q h35) h
    refine T.ild_2 (q := 103) dX8_pair_102 rfl ?_
    exact T.retI rfl dX8_pair_103 hc0 hs0 h
  · replace h := s_t h35 h
    refine T.ild_4 (q := 40) dX8_pair_38 rfl ?_
    refine T.iconst (q := 41) (1) dX8_pair_40 rfl (by decide) ?_
    refine T.iadd (q := 42) dX8_pair_41 rfl ?_
    refine T.ist_5 (q := 44) dX8_pair_42 rfl (by decide) sk_ok_i ?_
    refine S.i5 h ?_
    intro y42 h
    refine tl_X8_pair_L44  hc0 hs0 ?_ _ (s29.1, s29.2.1, y42) h
    intro s96 h
    refine T.inc_4 (q := 99) (1) dX8_pair_96 rfl (by decide) (by decide) sk_ok_i ?_
    refine T.goto (tgt := 29) dX8_pair_99 (by decide) ?_
    exact hc9 (s96.1, s96.2, (s29.2.2 + (1 : Int32))) h
theorem t_X8_pair {G : sk_G} {M : sk_M} {a1 : Int32}  {Q : Int32 → sk_M → Prop} (h : w_X8_pair a1 M Q) : Ctr G mX8_pair 2 0 0 [.ref (G.2.2.1 140), .int a1] M (rI Q) noX := by
  unfold w_X8_pair at h
  refine Ctr.of 5 (by decide) (Nat.le_of_ble_eq_true rfl) ?_
  show TJ G mX8_pair (sk_R 2 0 0) (sk_K G 0 0 (rI Q) noX) 0 0 0 [some (.ref (G.2.2.1 140)), some (.int a1), none, none, none, none, none] [] M
  refine T.ald_0 (q := 1) dX8_pair_0 rfl ?_
  refine T.iconst (q := 2) (0) dX8_pair_1 rfl (by decide) ?_
  refine p_X8_3 rfl dX8_pair_2 (q := 5) rfl ?_
  refine S.mem h ?_
  intro M2 h
  refine T.ald_0 (q := 6) dX8_pair_5 rfl ?_
  refine T.ald_0 (q := 7) dX8_pair_6 rfl ?_
  refine T.ild_1 (q := 8) dX8_pair_7 rfl ?_
  refine k_X8_329 rfl dX8_pair_8 (q := 11) rfl (by decide) (by decide) (by decide) (Nat.le_of_ble_eq_true rfl) (t_X8_noVault (P := fun r9 => r9 = (f_X8_noVault a1 M2)) rfl) ?_
  rintro _ _ ⟨rfl, h9⟩
  obtain rfl := h9.symm
  refine T.iconst (q := 12) (1) dX8_pair_11 rfl (by decide) ?_
  refine k_X8_281 rfl dX8_pair_12 (q := 15) rfl (by decide) (by decide) (by decide) (Nat.le_of_ble_eq_true rfl) (t_X8_throwsIf  h) ?_
  intro r12 M12 h
  refine T.if_eq (tgt := 20) (q := 18) dX8_pair_15 (by decide) rfl (fun h15 => ?_) (fun h15 => ?_)
  · replace h := s_f (fun q => q h15) h
    refine T.iconst (q := 21) (-1) dX8_pair_20 rfl (by decide) ?_
    refine T.ist_2 (q := 22) dX8_pair_21 rfl (by decide) sk_ok_i ?_
    refine T.ldcw (q := 25) (1000000) dX8_pair_22 rfl w_X8_c389 ?_
    refine T.ist_3 (q := 26) dX8_pair_25 rfl (by decide) sk_ok_i ?_
    refine T.iconst (q := 27) (0) dX8_pair_26 rfl (by decide) ?_
    refine T.ist_4 (q := 29) dX8_pair_27 rfl (by decide) sk_ok_i ?_
    exact tl_X8_pair_L29  (by decide) (by decide) _ ((-1 : Int32), (1000000 : Int32), (0 : Int32)) h
  · replace h := s_t h15 h
    refine T.iconst (q := 19) (0) dX8_pair_18 rfl (by decide) ?_
    exact T.retI rfl dX8_pair_19 (by decide) (by decide) h
