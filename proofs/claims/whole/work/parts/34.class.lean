/-! the class, decompiled -/
theorem t_X6_refuse {G : sk_G} {M : sk_M}   {Q : Int32 → sk_M → Prop} (h : w_X6_refuse  M Q) : Ctr G mX6_refuse 0 0 0 [.ref (G.2.2.1 121)] M (rI Q) noX := by
  unfold w_X6_refuse at h
  refine Ctr.of 0 (by decide) (Nat.le_of_ble_eq_true rfl) ?_
  show TJ G mX6_refuse (sk_R 0 0 0) (sk_K G 0 0 (rI Q) noX) 0 0 0 [some (.ref (G.2.2.1 121))] [] M
  refine T.ald_0 (q := 1) dX6_refuse_0 rfl ?_
  refine g_X6_15 rfl dX6_refuse_1 (q := 4) rfl ?_
  refine T.iconst (q := 5) (-1) dX6_refuse_4 rfl (by decide) ?_
  refine T.ic_ne (tgt := 16) (q := 8) dX6_refuse_5 (by decide) rfl (fun h5 => ?_) (fun h5 => ?_)
  · replace h := s_f h5 h
    refine T.iconst (q := 17) (0) dX6_refuse_16 rfl (by decide) ?_
    exact T.retZ rfl dX6_refuse_17 (by decide) (by decide) rfl h
  · replace h := s_t h5 h
    refine T.ald_0 (q := 9) dX6_refuse_8 rfl ?_
    refine T.ald_0 (q := 10) dX6_refuse_9 rfl ?_
    refine g_X6_28 rfl dX6_refuse_10 (q := 13) rfl ?_
    refine p_X6_15 rfl dX6_refuse_13 (q := 16) rfl ?_
    refine S.mem h ?_
    intro M13 h
    refine T.iconst (q := 17) (0) dX6_refuse_16 rfl (by decide) ?_
    exact T.retZ rfl dX6_refuse_17 (by decide) (by decide) rfl h
theorem tl_X0_guardDays_L25 {G : sk_G} {cells slots : Nat}  {Q : Int32 → sk_M → Prop}  (hc0 : cells ≤ 0) (hs0 : slots ≤ 0) : ∀ (F : Nat) (s25 : Int32 × Int32 × sk_M), lp (w_X0_guardDays_L25 Q) F s25 → TJ G mX0_guardDays (sk_R 5 0 0) (sk_K G 0 0 (rI Q) noX) cells slots 25 [some (.ref (G.2.2.1 125)), some (.int s25.1), some (.int s25.2.1), none] [] s25.2.2 := by
  refine lp_sound (fun c hc9 s25 h => ?_)
  unfold w_X0_guardDays_L25 at h
  refine T.ild_2 (q := 26) dX0_guardDays_25 rfl ?_
  refine T.ald_0 (q := 27) dX0_guardDays_26 rfl ?_
  refine g_X0_9 rfl dX0_guardDays_27 (q := 30) rfl ?_
  refine g_X0_115 rfl dX0_guardDays_30 (q := 33) rfl ?_
  refine T.ic_ge (tgt := 80) (q := 36) dX0_guardDays_33 (by decide) rfl (fun h33 => ?_) (fun h33 => ?_)
  · replace h := s_f (fun q => q.1 h33) h
    refine T.ild_1 (q := 81) dX0_guardDays_80 rfl ?_
    exact T.retI rfl dX0_guardDays_81 hc0 hs0 h
  · refine T.ild_2 (q := 37) dX0_guardDays_36 rfl ?_
    refine T.if_eq (tgt := 51) (q := 40) dX0_guardDays_37 (by decide) rfl (fun h37 => ?_) (fun h37 => ?_)
    · replace h := s_t ⟨h33, (Or.inl h37)⟩ h
      refine T.ald_0 (q := 52) dX0_guardDays_51 rfl ?_
      refine g_X0_9 rfl dX0_guardDays_52 (q := 55) rfl ?_
      refine T.bipush (q := 57) (6) dX0_guardDays_55 rfl (by decide) ?_
      refine k_X0_84 rfl dX0_guardDays_57 (q := 60) rfl (by decide) hc0 hs0 (Nat.le_of_ble_eq_true rfl) (t_X6_numberUpTo  h) ?_
      intro r57 M57 h
      refine T.ist_3 (q := 61) dX0_guardDays_60 rfl (by decide) sk_ok_i ?_
      refine T.ild_3 (q := 62) dX0_guardDays_61 rfl ?_
      refine T.iconst (q := 63) (-1) dX0_guardDays_62 rfl (by decide) ?_
      refine T.ic_ne (tgt := 68) (q := 66) dX0_guardDays_63 (by decide) rfl (fun h63 => ?_) (fun h63 => ?_)
      · replace h := s_f h63 h
        refine T.ild_1 (q := 69) dX0_guardDays_68 rfl ?_
        refine T.iconst (q := 70) (1) dX0_guardDays_69 rfl (by decide) ?_
        refine T.ild_3 (q := 71) dX0_guardDays_70 rfl ?_
        refine T.ishl (q := 72) dX0_guardDays_71 rfl ?_
        refine T.ior (q := 73) dX0_guardDays_72 rfl ?_
        refine T.ist_1 (q := 74) dX0_guardDays_73 rfl (by decide) sk_ok_r ?_
        refine S.i1 h ?_
        intro y73 h
        refine T.inc_2 (q := 77) (1) dX0_guardDays_74 rfl (by decide) (by decide) sk_ok_i ?_
        refine T.goto (tgt := 25) dX0_guardDays_77 (by decide) ?_
        refine T.drop_3 ?_
        exact hc9 (y73, (s25.2.1 + (1 : Int32)), M57) h
      · replace h := s_t h63 h
        refine T.iconst (q := 67) (0) dX0_guardDays_66 rfl (by decide) ?_
        exact T.retI rfl dX0_guardDays_67 hc0 hs0 h
    · refine T.ald_0 (q := 41) dX0_guardDays_40 rfl ?_
      refine g_X0_9 rfl dX0_guardDays_41 (q := 44) rfl ?_
      refine g_X0_43 rfl dX0_guardDays_44 (q := 47) rfl ?_
      refine T.iconst (q := 48) (2) dX0_guardDays_47 rfl (by decide) ?_
      refine T.ic_ne (tgt := 80) (q := 51) dX0_guardDays_48 (by decide) rfl (fun h48 => ?_) (fun h48 => ?_)
      · replace h := s_f (fun q => (fun q => q.elim h37 h48) q.2) h
        refine T.ild_1 (q := 81) dX0_guardDays_80 rfl ?_
        exact T.retI rfl dX0_guardDays_81 hc0 hs0 h
      · replace h := s_t ⟨h33, (Or.inr h48)⟩ h
        refine T.ald_0 (q := 52) dX0_guardDays_51 rfl ?_
        refine g_X0_9 rfl dX0_guardDays_52 (q := 55) rfl ?_
        refine T.bipush (q := 57) (6) dX0_guardDays_55 rfl (by decide) ?_
        refine k_X0_84 rfl dX0_guardDays_57 (q := 60) rfl (by decide) hc0 hs0 (Nat.le_of_ble_eq_true rfl) (t_X6_numberUpTo  h) ?_
        intro r57 M57 h
        refine T.ist_3 (q := 61) dX0_guardDays_60 rfl (by decide) sk_ok_i ?_
        refine T.ild_3 (q := 62) dX0_guardDays_61 rfl ?_
        refine T.iconst (q := 63) (-1) dX0_guardDays_62 rfl (by decide) ?_
        refine T.ic_ne (tgt := 68) (q := 66) dX0_guardDays_63 (by decide) rfl (fun h63 => ?_) (fun h63 => ?_)
        · replace h := s_f h63 h
          refine T.ild_1 (q := 69) dX0_guardDays_68 rfl ?_
          refine T.iconst (q := 70) (1) dX0_guardDays_69 rfl (by decide) ?_
          refine T.ild_3 (q := 71) dX0_guardDays_70 rfl ?_
          refine T.ishl (q := 72) dX0_guardDays_71 rfl ?_
          refine T.ior (q := 73) dX0_guardDays_72 rfl ?_
          refine T.ist_1 (q := 74) dX0_guardDays_73 rfl (by decide) sk_ok_r ?_
          refine S.i1 h ?_
          intro y73 h
          refine T.inc_2 (q := 77) (1) dX0_guardDays_74 rfl (by decide) (by decide) sk_ok_i ?_
          refine T.goto (tgt := 25) dX0_guardDays_77 (by decide) ?_
          refine T.drop_3 ?_
          exact hc9 (y73, (s25.2.1 + (1 : Int32)), M57) h
        · replace h := s_t h63 h
          refine T.iconst (q := 67) (0) dX0_guardDays_66 rfl (by decide) ?_
          exact T.retI rfl dX0_guardDays_67 hc0 hs0 h
theorem t_X0_guardDays {G : sk_G} {M : sk_M}   {Q : Int32 → sk_M → Prop} (h : w_X0_guardDays  M Q) : Ctr G mX0_guardDays 5 0 0 [.ref (G.2.2.1 125)] M (rI Q) noX := by
  unfold w_X0_guardDays at h
  refine Ctr.of 3 (by decide) (Nat.le_of_ble_eq_true rfl) ?_
  show TJ G mX0_guardDays (sk_R 5 0 0) (sk_K G 0 0 (rI Q) noX) 0 0 0 [some (.ref (G.2.2.1 125)), none, none, none] [] M
  refine T.ald_0 (q := 1) dX0_guardDays_0 rfl ?_
  refine g_X0_9 rfl dX0_guardDays_1 (q := 4) rfl ?_
  refine T.ldcS (q := 6) "guard" 2 dX0_guardDays_4 rfl (by decide +kernel) ?_
  refine k_X0_59 rfl dX0_guardDays_6 (q := 9) rfl (by decide) (by decide) (by decide) (Nat.le_of_ble_eq_true rfl) (t_X6_is ((by decide)) h) ?_
  rintro r6 _ ⟨h, h9⟩
  obtain rfl := h9.symm
  refine T.if_ne (tgt := 14) (q := 12) dX0_guardDays_9 (by decide) rfl (fun h9 => ?_) (fun h9 => ?_)
  · replace h := s_f h9 h
    refine T.ald_0 (q := 15) dX0_guardDays_14 rfl ?_
    refine g_X0_9 rfl dX0_guardDays_15 (q := 18) rfl ?_
    refine k_X0_81 rfl dX0_guardDays_18 (q := 21) rfl (by decide) (by decide) (by decide) (Nat.le_of_ble_eq_true rfl) (t_X6_step  h) ?_
    intro M18 h
    refine T.iconst (q := 22) (0) dX0_guardDays_21 rfl (by decide) ?_
    refine T.ist_1 (q := 23) dX0_guardDays_22 rfl (by decide) sk_ok_r ?_
    refine T.iconst (q := 24) (0) dX0_guardDays_23 rfl (by decide) ?_
    refine T.ist_2 (q := 25) dX0_guardDays_24 rfl (by decide) sk_ok_i ?_
    exact tl_X0_guardDays_L25  (by decide) (by decide) _ ((0 : Int32), (0 : Int32), M18) h
  · replace h := s_t h9 h
    refine T.iconst (q := 13) (0) dX0_guardDays_12 rfl (by decide) ?_
    exact T.retI rfl dX0_guardDays_13 (by decide) (by decide) h
theorem t_X6_isWrong {G : sk_G} {M : sk_M}   {P : Int32 → Prop} (h : P (f_X6_isWrong  M)) : Ctr G mX6_isWrong 0 0 0 [.ref (G.2.2.1 121)] M (rI fun r9 M9 => P r9 ∧ M9 = M) noX := by
  unfold f_X6_isWrong at h
  refine Ctr.of 0 (by decide) (Nat.le_of_ble_eq_true rfl) ?_
  show TJ G mX6_isWrong (sk_R 0 0 0) (sk_K G 0 0 (rI fun r9 M9 => P r9 ∧ M9 = M) noX) 0 0 0 [some (.ref (G.2.2.1 121))] [] M
  refine T.ald_0 (q := 1) dX6_isWrong_0 rfl ?_
  refine g_X6_15 rfl dX6_isWrong_1 (q := 4) rfl ?_
  refine T.iconst (q := 5) (-1) dX6_isWrong_4 rfl (by decide) ?_
  refine T.ic_eq (tgt := 12) (q := 8) dX6_isWrong_5 (by decide) rfl (fun h5 => ?_) (fun h5 => ?_)
  · replace h := s_fP (fun q => q h5) h
    refine T.iconst (q := 13) (0) dX6_isWrong_12 rfl (by decide) ?_
    exact T.retZ rfl dX6_isWrong_13 (by decide) (by decide) rfl ⟨h, rfl⟩
  · replace h := s_tP h5 h
    refine T.iconst (q := 9) (1) dX6_isWrong_8 rfl (by decide) ?_
    refine T.goto (tgt := 13) dX6_isWrong_9 (by decide) ?_
    exact T.retZ rfl dX6_isWrong_13 (by decide) (by decide) rfl ⟨h, rfl⟩
theorem t_X0_vaultLine {G : sk_G} {M : sk_M}   {Q : Int32 → sk_M → Prop} (h : w_X0_vaultLine  M Q) : Ctr G mX0_vaultLine 6 0 0 [.ref (G.2.2.1 125)] M (rI Q) noX := by
  unfold w_X0_vaultLine at h
  refine Ctr.of 3 (by decide) (Nat.le_of_ble_eq_true rfl) ?_
  show TJ G mX0_vaultLine (sk_R 6 0 0) (sk_K G 0 0 (rI Q) noX) 0 0 0 [some (.ref (G.2.2.1 125)), none, none, none] [] M
  refine T.ald_0 (q := 1) dX0_vaultLine_0 rfl ?_
  refine g_X0_25 rfl dX0_vaultLine_1 (q := 4) rfl ?_
  refine T.bipush (q := 6) (6) dX0_vaultLine_4 rfl (by decide) ?_
  refine T.ic_lt (tgt := 17) (q := 9) dX0_vaultLine_6 (by decide) rfl (fun h6 => ?_) (fun h6 => ?_)
  · replace h := s_f (fun q => q h6) h
    refine T.ald_0 (q := 18) dX0_vaultLine_17 rfl ?_
    refine g_X0_9 rfl dX0_vaultLine_18 (q := 21) rfl ?_
    refine k_X0_81 rfl dX0_vaultLine_21 (q := 24) rfl (by decide) (by decide) (by decide) (Nat.le_of_ble_eq_true rfl) (t_X6_step  h) ?_
    intro M21 h
    refine T.ald_0 (q := 25) dX0_vaultLine_24 rfl ?_
    refine g_X0_9 rfl dX0_vaultLine_25 (q := 28) rfl ?_
    refine k_X0_91 rfl dX0_vaultLine_28 (q := 31) rfl (by decide) (by decide) (by decide) (Nat.le_of_ble_eq_true rfl) (t_X6_figures  h) ?_
    intro r28 M28 h
    refine T.ist_1 (q := 32) dX0_vaultLine_31 rfl (by decide) sk_ok_r ?_
    refine T.ild_1 (q := 33) dX0_vaultLine_32 rfl ?_
    refine T.iconst (q := 34) (-1) dX0_vaultLine_33 rfl (by decide) ?_
    refine T.ic_eq (tgt := 49) (q := 37) dX0_vaultLine_34 (by decide) rfl (fun h34 => ?_) (fun h34 => ?_)
    · replace h := s_f (fun q => q h34) h
      refine T.iconst (q := 50) (0) dX0_vaultLine_49 rfl (by decide) ?_
      exact T.retZ rfl dX0_vaultLine_50 (by decide) (by decide) rfl h
    · replace h := s_t h34 h
      refine T.ald_0 (q := 38) dX0_vaultLine_37 rfl ?_
      refine g_X0_9 rfl dX0_vaultLine_38 (q := 41) rfl ?_
      refine T.ldcS (q := 43) "worth" 1 dX0_vaultLine_41 rfl (by decide +kernel) ?_
      refine k_X0_97 rfl dX0_vaultLine_43 (q := 46) rfl (by decide) (by decide) (by decide) (Nat.le_of_ble_eq_true rfl) (t_X6_pass ((by decide)) h) ?_
      intro r43 M43 h
      refine T.if_ne (tgt := 51) (q := 49) dX0_vaultLine_46 (by decide) rfl (fun h46 => ?_) (fun h46 => ?_)
      · replace h := s_f h46 h
        refine T.ald_0 (q := 52) dX0_vaultLine_51 rfl ?_
        refine g_X0_9 rfl dX0_vaultLine_52 (q := 55) rfl ?_
        refine T.sipush (q := 58) (999) dX0_vaultLine_55 rfl (by decide) ?_
        refine k_X0_84 rfl dX0_vaultLine_58 (q := 61) rfl (by decide) (by decide) (by decide) (Nat.le_of_ble_eq_true rfl) (t_X6_numberUpTo  h) ?_
        intro r58 M58 h
        refine T.ist_2 (q := 62) dX0_vaultLine_61 rfl (by decide) sk_ok_i ?_
        refine T.ild_2 (q := 63) dX0_vaultLine_62 rfl ?_
        refine T.iconst (q := 64) (-1) dX0_vaultLine_63 rfl (by decide) ?_
        refine s_join (fun s75_64 : Int32 × sk_M => TJ G mX0_vaultLine (sk_R 6 0 0) (sk_K G 0 0 (rI Q) noX) 0 0 75 [some (.ref (G.2.2.1 125)), some (.int r28), some (.int r58), none] [.int s75_64.1] s75_64.2) h (fun s75_64 h => ?_) (fun j75_64 hj75_64 h => ?_)
        · refine T.ist_3 (q := 76) dX0_vaultLine_75 rfl (by decide) sk_ok_i ?_
          refine T.ald_0 (q := 77) dX0_vaultLine_76 rfl ?_
          refine g_X0_9 rfl dX0_vaultLine_77 (q := 80) rfl ?_
          refine k_X0_88 rfl dX0_vaultLine_80 (q := 83) rfl (by decide) (by decide) (by decide) (Nat.le_of_ble_eq_true rfl) (t_X6_isWrong (P := fun r9 => r9 = (f_X6_isWrong s75_64.2)) rfl) ?_
          rintro _ _ ⟨rfl, h9⟩
          obtain rfl := h9.symm
          refine T.if_eq (tgt := 88) (q := 86) dX0_vaultLine_83 (by decide) rfl (fun h83 => ?_) (fun h83 => ?_)
          · replace h := s_f (fun q => q h83) h
            refine T.ald_0 (q := 89) dX0_vaultLine_88 rfl ?_
            refine g_X0_15 rfl dX0_vaultLine_89 (q := 92) rfl ?_
            refine g_X0_103 sk_s0 rfl dX0_vaultLine_92 (q := 95) rfl ?_
            refine T.ald_0 (q := 96) dX0_vaultLine_95 rfl ?_
            refine g_X0_25 rfl dX0_vaultLine_96 (q := 99) rfl ?_
            refine T.ild_1 (q := 100) dX0_vaultLine_99 rfl ?_
            refine T.iast (sk_a1 sk_s0).1 (sk_a1 sk_s0).2.1 (sk_a1 sk_s0).2.2 dX0_vaultLine_100 (q := 101) rfl h.1 ?_
            refine S.mem h.2 ?_
            intro M100 h
            refine T.ald_0 (q := 102) dX0_vaultLine_101 rfl ?_
            refine g_X0_15 rfl dX0_vaultLine_102 (q := 105) rfl ?_
            refine g_X0_107 sk_s0 rfl dX0_vaultLine_105 (q := 108) rfl ?_
            refine T.ald_0 (q := 109) dX0_vaultLine_108 rfl ?_
            refine g_X0_25 rfl dX0_vaultLine_109 (q := 112) rfl ?_
            refine T.ild_2 (q := 113) dX0_vaultLine_112 rfl ?_
            refine T.iast (sk_a3 sk_s0).1 (sk_a3 sk_s0).2.1 (sk_a3 sk_s0).2.2 dX0_vaultLine_113 (q := 114) rfl h.1 ?_
            refine S.mem h.2 ?_
            intro M113 h
            refine T.ald_0 (q := 115) dX0_vaultLine_114 rfl ?_
            refine g_X0_15 rfl dX0_vaultLine_115 (q := 118) rfl ?_
            refine g_X0_110 sk_s0 rfl dX0_vaultLine_118 (q := 121) rfl ?_
            refine T.ald_0 (q := 122) dX0_vaultLine_121 rfl ?_
            refine g_X0_25 rfl dX0_vaultLine_122 (q := 125) rfl ?_
            refine T.ild_3 (q := 126) dX0_vaultLine_125 rfl ?_
            refine T.iast (sk_a2 sk_s0).1 (sk_a2 sk_s0).2.1 (sk_a2 sk_s0).2.2 dX0_vaultLine_126 (q := 127) rfl h.1 ?_
            refine S.mem h.2 ?_
            intro M126 h
            refine T.ald_0 (q := 128) dX0_vaultLine_127 rfl ?_
            refine T.dup (q := 129) dX0_vaultLine_128 rfl rfl ?_
            refine g_X0_25 rfl dX0_vaultLine_129 (q := 132) rfl ?_
            refine T.iconst (q := 133) (1) dX0_vaultLine_132 rfl (by decide) ?_
            refine T.iadd (q := 134) dX0_vaultLine_133 rfl ?_
            refine p_X0_25 rfl dX0_vaultLine_134 (q := 137) rfl ?_
            refine S.mem h ?_
            intro M134 h
            refine T.iconst (q := 138) (1) dX0_vaultLine_137 rfl (by decide) ?_
            exact T.retZ rfl dX0_vaultLine_138 (by decide) (by decide) rfl h
          · replace h := s_t h83 h
            refine T.iconst (q := 87) (0) dX0_vaultLine_86 rfl (by decide) ?_
            exact T.retZ rfl dX0_vaultLine_87 (by decide) (by decide) rfl h
        · refine T.ic_ne (tgt := 71) (q := 67) dX0_vaultLine_64 (by decide) rfl (fun h64 => ?_) (fun h64 => ?_)
          · replace h := s_f h64 h
            refine T.ald_0 (q := 72) dX0_vaultLine_71 rfl ?_
            refine k_X0_100 rfl dX0_vaultLine_72 (q := 75) rfl (by decide) (by decide) (by decide) (Nat.le_of_ble_eq_true rfl) (t_X0_guardDays  h) ?_
            intro r72 M72 h
            exact hj75_64 (r72, M72) h
          · replace h := s_t h64 h
            refine T.iconst (q := 68) (0) dX0_vaultLine_67 rfl (by decide) ?_
            refine T.goto (tgt := 75) dX0_vaultLine_68 (by decide) ?_
            exact hj75_64 ((0 : Int32), M58) h
      · replace h := s_t h46 h
        refine T.iconst (q := 50) (0) dX0_vaultLine_49 rfl (by decide) ?_
        exact T.retZ rfl dX0_vaultLine_50 (by decide) (by decide) rfl h
  · replace h := s_t h6 h
    refine T.ald_0 (q := 10) dX0_vaultLine_9 rfl ?_
    refine g_X0_9 rfl dX0_vaultLine_10 (q := 13) rfl ?_
    refine k_X0_54 rfl dX0_vaultLine_13 (q := 16) rfl (by decide) (by decide) (by decide) (Nat.le_of_ble_eq_true rfl) (t_X6_refuse  h) ?_
    intro r13 M13 h
    exact T.retZ rfl dX0_vaultLine_16 (by decide) (by decide) (nz01 h.1) h.2
theorem t_X0_personLine {G : sk_G} {M : sk_M}   {Q : Int32 → sk_M → Prop} (h : w_X0_personLine  M Q) : Ctr G mX0_personLine 1 0 0 [.ref (G.2.2.1 125)] M (rI Q) noX := by
  unfold w_X0_personLine at h
  refine Ctr.of 0 (by decide) (Nat.le_of_ble_eq_true rfl) ?_
  show TJ G mX0_personLine (sk_R 1 0 0) (sk_K G 0 0 (rI Q) noX) 0 0 0 [some (.ref (G.2.2.1 125))] [] M
  refine T.ald_0 (q := 1) dX0_personLine_0 rfl ?_
  refine g_X0_29 rfl dX0_personLine_1 (q := 4) rfl ?_
  refine T.bipush (q := 6) (6) dX0_personLine_4 rfl (by decide) ?_
  refine T.ic_lt (tgt := 17) (q := 9) dX0_personLine_6 (by decide) rfl (fun h6 => ?_) (fun h6 => ?_)
  · replace h := s_f (fun q => q h6) h
    refine T.ald_0 (q := 18) dX0_personLine_17 rfl ?_
    refine g_X0_9 rfl dX0_personLine_18 (q := 21) rfl ?_
    refine k_X0_81 rfl dX0_personLine_21 (q := 24) rfl (by decide) (by decide) (by decide) (Nat.le_of_ble_eq_true rfl) (t_X6_step  h) ?_
    intro M21 h
    refine T.ald_0 (q := 25) dX0_personLine_24 rfl ?_
    refine T.dup (q := 26) dX0_personLine_25 rfl rfl ?_
    refine g_X0_29 rfl dX0_personLine_26 (q := 29) rfl ?_
    refine T.iconst (q := 30) (1) dX0_personLine_29 rfl (by decide) ?_
    refine T.iadd (q := 31) dX0_personLine_30 rfl ?_
    refine p_X0_29 rfl dX0_personLine_31 (q := 34) rfl ?_
    refine S.mem h ?_
    intro M31 h
    refine T.iconst (q := 35) (1) dX0_personLine_34 rfl (by decide) ?_
    exact T.retZ rfl dX0_personLine_35 (by decide) (by decide) rfl h
  · replace h := s_t h6 h
    refine T.ald_0 (q := 10) dX0_personLine_9 rfl ?_
    refine g_X0_9 rfl dX0_personLine_10 (q := 13) rfl ?_
    refine k_X0_54 rfl dX0_personLine_13 (q := 16) rfl (by decide) (by decide) (by decide) (Nat.le_of_ble_eq_true rfl) (t_X6_refuse  h) ?_
    intro r13 M13 h
    exact T.retZ rfl dX0_personLine_16 (by decide) (by decide) (nz01 h.1) h.2
theorem t_X0_contractLine {G : sk_G} {M : sk_M} {a1 : Int32}  {Q : Int32 → sk_M → Prop} (h : w_X0_contractLine a1 M Q) : Ctr G mX0_contractLine 6 0 0 [.ref (G.2.2.1 125), .int a1] M (rI Q) noX := by
  unfold w_X0_contractLine at h
  refine Ctr.of 3 (by decide) (Nat.le_of_ble_eq_true rfl) ?_
  show TJ G mX0_contractLine (sk_R 6 0 0) (sk_K G 0 0 (rI Q) noX) 0 0 0 [some (.ref (G.2.2.1 125)), some (.int a1), none, none, none] [] M
  refine T.ald_0 (q := 1) dX0_contractLine_0 rfl ?_
  refine g_X0_33 rfl dX0_contractLine_1 (q := 4) rfl ?_
  refine T.bipush (q := 6) (12) dX0_contractLine_4 rfl (by decide) ?_
  refine T.ic_lt (tgt := 17) (q := 9) dX0_contractLine_6 (by decide) rfl (fun h6 => ?_) (fun h6 => ?_)
  · replace h := s_f (fun q => q h6) h
    refine T.ald_0 (q := 18) dX0_contractLine_17 rfl ?_
    refine g_X0_9 rfl dX0_contractLine_18 (q := 21) rfl ?_
    refine k_X0_81 rfl dX0_contractLine_21 (q := 24) rfl (by decide) (by decide) (by decide) (Nat.le_of_ble_eq_true rfl) (t_X6_step  h) ?_
    intro M21 h
    refine T.ald_0 (q := 25) dX0_contractLine_24 rfl ?_
    refine g_X0_9 rfl dX0_contractLine_25 (q := 28) rfl ?_
    refine T.ald_0 (q := 29) dX0_contractLine_28 rfl ?_
    refine g_X0_29 rfl dX0_contractLine_29 (q := 32) rfl ?_
    refine T.iconst (q := 33) (1) dX0_contractLine_32 rfl (by decide) ?_
    refine T.isub (q := 34) dX0_contractLine_33 rfl ?_
    refine k_X0_84 rfl dX0_contractLine_34 (q := 37) rfl (by decide) (by decide) (by decide) (Nat.le_of_ble_eq_true rfl) (t_X6_numberUpTo  h) ?_
    intro r34 M34 h
    refine T.ist_2 (q := 38) dX0_contractLine_37 rfl (by decide) sk_ok_i ?_
    refine T.ild_2 (q := 39) dX0_contractLine_38 rfl ?_
    refine T.iconst (q := 40) (-1) dX0_contractLine_39 rfl (by decide) ?_
    refine s_join (fun s60_40 : Int32 × sk_M => TJ G mX0_contractLine (sk_R 6 0 0) (sk_K G 0 0 (rI Q) noX) 0 0 60 [some (.ref (G.2.2.1 125)), some (.int a1), some (.int r34), none, none] [.int s60_40.1] s60_40.2) h (fun s60_40 h => ?_) (fun j60_40 hj60_40 h => ?_)
    · refine T.ist_3 (q := 61) dX0_contractLine_60 rfl (by decide) sk_ok_i ?_
      refine T.ild_3 (q := 62) dX0_contractLine_61 rfl ?_
      refine T.iconst (q := 63) (-1) dX0_contractLine_62 rfl (by decide) ?_
      refine T.ic_ne (tgt := 68) (q := 66) dX0_contractLine_63 (by decide) rfl (fun h63 => ?_) (fun h63 => ?_)
      · replace h := s_f h63 h
        refine T.iconst (q := 69) (-1) dX0_contractLine_68 rfl (by decide) ?_
        refine T.ist_4 (q := 71) dX0_contractLine_69 rfl (by decide) sk_ok_i ?_
        refine T.ild_1 (q := 72) dX0_contractLine_71 rfl ?_
        refine s_join (fun s111_72 : Int32 × sk_M => TJ G mX0_contractLine (sk_R 6 0 0) (sk_K G 0 0 (rI Q) noX) 0 0 111 [some (.ref (G.2.2.1 125)), none, some (.int r34), some (.int s60_40.1), some (.int s111_72.1)] [] s111_72.2) h (fun s111_72 h => ?_) (fun j111_72 hj111_72 h => ?_)
        · refine T.ald_0 (q := 112) dX0_contractLine_111 rfl ?_
          refine g_X0_15 rfl dX0_contractLine_112 (q := 115) rfl ?_
          refine g_X0_120 sk_s0 rfl dX0_contractLine_115 (q := 118) rfl ?_
          refine T.ald_0 (q := 119) dX0_contractLine_118 rfl ?_
          refine g_X0_33 rfl dX0_contractLine_119 (q := 122) rfl ?_
          refine T.ild_2 (q := 123) dX0_contractLine_122 rfl ?_
          refine T.iast (sk_a4 sk_s0).1 (sk_a4 sk_s0).2.1 (sk_a4 sk_s0).2.2 dX0_contractLine_123 (q := 124) rfl h.1 ?_
          refine S.mem h.2 ?_
          intro M123 h
          refine T.ald_0 (q := 125) dX0_contractLine_124 rfl ?_
          refine g_X0_15 rfl dX0_contractLine_125 (q := 128) rfl ?_
          refine g_X0_123 sk_s0 rfl dX0_contractLine_128 (q := 131) rfl ?_
          refine T.ald_0 (q := 132) dX0_contractLine_131 rfl ?_
          refine g_X0_33 rfl dX0_contractLine_132 (q := 135) rfl ?_
          refine T.ild_3 (q := 136) dX0_contractLine_135 rfl ?_
          refine T.iast (sk_a5 sk_s0).1 (sk_a5 sk_s0).2.1 (sk_a5 sk_s0).2.2 dX0_contractLine_136 (q := 137) rfl h.1 ?_
          refine S.mem h.2 ?_
          intro M136 h
          refine T.ald_0 (q := 138) dX0_contractLine_137 rfl ?_
          refine g_X0_15 rfl dX0_contractLine_138 (q := 141) rfl ?_
          refine g_X0_126 sk_s0 rfl dX0_contractLine_141 (q := 144) rfl ?_
          refine T.ald_0 (q := 145) dX0_contractLine_144 rfl ?_
          refine g_X0_33 rfl dX0_contractLine_145 (q := 148) rfl ?_
          refine T.ild_4 (q := 150) dX0_contractLine_148 rfl ?_
          refine T.iast (sk_a6 sk_s0).1 (sk_a6 sk_s0).2.1 (sk_a6 sk_s0).2.2 dX0_contractLine_150 (q := 151) rfl h.1 ?_
          refine S.mem h.2 ?_
          intro M150 h
          refine T.ald_0 (q := 152) dX0_contractLine_151 rfl ?_
          refine T.dup (q := 153) dX0_contractLine_152 rfl rfl ?_
          refine g_X0_33 rfl dX0_contractLine_153 (q := 156) rfl ?_
          refine T.iconst (q := 157) (1) dX0_contractLine_156 rfl (by decide) ?_
          refine T.iadd (q := 158) dX0_contractLine_157 rfl ?_
          refine p_X0_33 rfl dX0_contractLine_158 (q := 161) rfl ?_
          refine S.mem h ?_
          intro M158 h
          refine T.iconst (q := 162) (1) dX0_contractLine_161 rfl (by decide) ?_
          exact T.retZ rfl dX0_contractLine_162 (by decide) (by decide) rfl h
        · refine T.if_eq (tgt := 111) (q := 75) dX0_contractLine_72 (by decide) rfl (fun h72 => ?_) (fun h72 => ?_)
          · replace h := s_f (fun q => q h72) h
            refine T.drop_1 ?_
            exact hj111_72 ((-1 : Int32), s60_40.2) h
          · replace h := s_t h72 h
            refine T.ald_0 (q := 76) dX0_contractLine_75 rfl ?_
            refine g_X0_9 rfl dX0_contractLine_76 (q := 79) rfl ?_
            refine T.ldcS (q := 81) "by" 6 dX0_contractLine_79 rfl (by decide +kernel) ?_
            refine k_X0_97 rfl dX0_contractLine_81 (q := 84) rfl (by decide) (by decide) (by decide) (Nat.le_of_ble_eq_true rfl) (t_X6_pass ((by decide)) h) ?_
            intro r81 M81 h
            refine s_join (fun s101_84 : Int32 × sk_M => TJ G mX0_contractLine (sk_R 6 0 0) (sk_K G 0 0 (rI Q) noX) 0 0 101 [some (.ref (G.2.2.1 125)), none, some (.int r34), some (.int s60_40.1), none] [.int s101_84.1] s101_84.2) h (fun s101_84 h => ?_) (fun j101_84 hj101_84 h => ?_)
            · refine T.ist_4 (q := 103) dX0_contractLine_101 rfl (by decide) sk_ok_i ?_
              refine T.ild_4 (q := 105) dX0_contractLine_103 rfl ?_
              refine T.iconst (q := 106) (-1) dX0_contractLine_105 rfl (by decide) ?_
              refine T.ic_ne (tgt := 111) (q := 109) dX0_contractLine_106 (by decide) rfl (fun h106 => ?_) (fun h106 => ?_)
              · replace h := s_f h106 h
                exact hj111_72 (s101_84.1, s101_84.2) h
              · replace h := s_t h106 h
                refine T.iconst (q := 110) (0) dX0_contractLine_109 rfl (by decide) ?_
                exact T.retZ rfl dX0_contractLine_110 (by decide) (by decide) rfl h
            · refine T.if_eq (tgt := 100) (q := 87) dX0_contractLine_84 (by decide) rfl (fun h84 => ?_) (fun h84 => ?_)
              · replace h := s_f (fun q => q h84) h
                refine T.iconst (q := 101) (-1) dX0_contractLine_100 rfl (by decide) ?_
                refine T.drop_1 ?_
                refine T.drop_4 ?_
                exact hj101_84 ((-1 : Int32), M81) h
              · replace h := s_t h84 h
                refine T.ald_0 (q := 88) dX0_contractLine_87 rfl ?_
                refine g_X0_9 rfl dX0_contractLine_88 (q := 91) rfl ?_
                refine T.sipush (q := 94) (999) dX0_contractLine_91 rfl (by decide) ?_
                refine k_X0_84 rfl dX0_contractLine_94 (q := 97) rfl (by decide) (by decide) (by decide) (Nat.le_of_ble_eq_true rfl) (t_X6_numberUpTo  h) ?_
                intro r94 M94 h
                refine T.goto (tgt := 101) dX0_contractLine_97 (by decide) ?_
                refine T.drop_1 ?_
                refine T.drop_4 ?_
                exact hj101_84 (r94, M94) h
      · replace h := s_t h63 h
        refine T.iconst (q := 67) (0) dX0_contractLine_66 rfl (by decide) ?_
        exact T.retZ rfl dX0_contractLine_67 (by decide) (by decide) rfl h
    · refine T.ic_ne (tgt := 47) (q := 43) dX0_contractLine_40 (by decide) rfl (fun h40 => ?_) (fun h40 => ?_)
      · replace h := s_f h40 h
        refine T.ald_0 (q := 48) dX0_contractLine_47 rfl ?_
        refine g_X0_9 rfl dX0_contractLine_48 (q := 51) rfl ?_
        refine T.ald_0 (q := 52) dX0_contractLine_51 rfl ?_
        refine g_X0_25 rfl dX0_contractLine_52 (q := 55) rfl ?_
        refine T.iconst (q := 56) (1) dX0_contractLine_55 rfl (by decide) ?_
        refine T.isub (q := 57) dX0_contractLine_56 rfl ?_
        refine k_X0_84 rfl dX0_contractLine_57 (q := 60) rfl (by decide) (by decide) (by decide) (Nat.le_of_ble_eq_true rfl) (t_X6_numberUpTo  h) ?_
        intro r57 M57 h
        exact hj60_40 (r57, M57) h
      · replace h := s_t h40 h
        refine T.iconst (q := 44) (-1) dX0_contractLine_43 rfl (by decide) ?_
        refine T.goto (tgt := 60) dX0_contractLine_44 (by decide) ?_
        exact hj60_40 ((-1 : Int32), M34) h
  · replace h := s_t h6 h
    refine T.ald_0 (q := 10) dX0_contractLine_9 rfl ?_
    refine g_X0_9 rfl dX0_contractLine_10 (q := 13) rfl ?_
    refine k_X0_54 rfl dX0_contractLine_13 (q := 16) rfl (by decide) (by decide) (by decide) (Nat.le_of_ble_eq_true rfl) (t_X6_refuse  h) ?_
    intro r13 M13 h
    exact T.retZ rfl dX0_contractLine_16 (by decide) (by decide) (nz01 h.1) h.2
theorem t_X0_line {G : sk_G} {M : sk_M}   {Q : Int32 → sk_M → Prop} (h : w_X0_line  M Q) : Ctr G mX0_line 7 0 0 [.ref (G.2.2.1 125)] M (rI Q) noX := by
  unfold w_X0_line at h
  refine Ctr.of 0 (by decide) (Nat.le_of_ble_eq_true rfl) ?_
  show TJ G mX0_line (sk_R 7 0 0) (sk_K G 0 0 (rI Q) noX) 0 0 0 [some (.ref (G.2.2.1 125))] [] M
  refine T.ald_0 (q := 1) dX0_line_0 rfl ?_
  refine g_X0_9 rfl dX0_line_1 (q := 4) rfl ?_
  refine T.ldcS (q := 6) "vault" 0 dX0_line_4 rfl (by decide +kernel) ?_
  refine k_X0_59 rfl dX0_line_6 (q := 9) rfl (by decide) (by decide) (by decide) (Nat.le_of_ble_eq_true rfl) (t_X6_is ((by decide)) h) ?_
  rintro r6 _ ⟨h, h9⟩
  obtain rfl := h9.symm
  refine T.if_eq (tgt := 17) (q := 12) dX0_line_9 (by decide) rfl (fun h9 => ?_) (fun h9 => ?_)
  · replace h := s_f (fun q => q h9) h
    refine T.ald_0 (q := 18) dX0_line_17 rfl ?_
    refine g_X0_9 rfl dX0_line_18 (q := 21) rfl ?_
    refine T.ldcS (q := 23) "person" 3 dX0_line_21 rfl (by decide +kernel) ?_
    refine k_X0_59 rfl dX0_line_23 (q := 26) rfl (by decide) (by decide) (by decide) (Nat.le_of_ble_eq_true rfl) (t_X6_is ((by decide)) h) ?_
    rintro r23 _ ⟨h, h9⟩
    obtain rfl := h9.symm
    refine T.if_eq (tgt := 34) (q := 29) dX0_line_26 (by decide) rfl (fun h26 => ?_) (fun h26 => ?_)
    · replace h := s_f (fun q => q h26) h
      refine T.ald_0 (q := 35) dX0_line_34 rfl ?_
      refine g_X0_9 rfl dX0_line_35 (q := 38) rfl ?_
      refine T.ldcS (q := 40) "never" 5 dX0_line_38 rfl (by decide +kernel) ?_
      refine k_X0_59 rfl dX0_line_40 (q := 43) rfl (by decide) (by decide) (by decide) (Nat.le_of_ble_eq_true rfl) (t_X6_is ((by decide)) h) ?_
      rintro r40 _ ⟨h, h9⟩
      obtain rfl := h9.symm
      refine T.if_eq (tgt := 52) (q := 46) dX0_line_43 (by decide) rfl (fun h43 => ?_) (fun h43 => ?_)
      · replace h := s_f (fun q => q h43) h
        refine T.ald_0 (q := 53) dX0_line_52 rfl ?_
        refine g_X0_9 rfl dX0_line_53 (q := 56) rfl ?_
        refine T.ldcS (q := 58) "open" 4 dX0_line_56 rfl (by decide +kernel) ?_
        refine k_X0_59 rfl dX0_line_58 (q := 61) rfl (by decide) (by decide) (by decide) (Nat.le_of_ble_eq_true rfl) (t_X6_is ((by decide)) h) ?_
        rintro r58 _ ⟨h, h9⟩
        obtain rfl := h9.symm
        refine T.if_eq (tgt := 70) (q := 64) dX0_line_61 (by decide) rfl (fun h61 => ?_) (fun h61 => ?_)
        · replace h := s_f (fun q => q h61) h
          refine T.ald_0 (q := 71) dX0_line_70 rfl ?_
          refine g_X0_9 rfl dX0_line_71 (q := 74) rfl ?_
          refine T.ldcS (q := 76) "change" 7 dX0_line_74 rfl (by decide +kernel) ?_
          refine k_X0_59 rfl dX0_line_76 (q := 79) rfl (by decide) (by decide) (by decide) (Nat.le_of_ble_eq_true rfl) (t_X6_is ((by decide)) h) ?_
          rintro r76 _ ⟨h, h9⟩
          obtain rfl := h9.symm
          refine T.if_eq (tgt := 118) (q := 82) dX0_line_79 (by decide) rfl (fun h79 => ?_) (fun h79 => ?_)
          · replace h := s_f (fun q => q h79) h
            refine T.ald_0 (q := 119) dX0_line_118 rfl ?_
            refine g_X0_9 rfl dX0_line_119 (q := 122) rfl ?_
            refine k_X0_54 rfl dX0_line_122 (q := 125) rfl (by decide) (by decide) (by decide) (Nat.le_of_ble_eq_true rfl) (t_X6_refuse  h) ?_
            intro r122 M122 h
            exact T.retZ rfl dX0_line_125 (by decide) (by decide) (nz01 h.1) h.2
          · replace h := s_t h79 h
            refine T.ald_0 (q := 83) dX0_line_82 rfl ?_
            refine g_X0_9 rfl dX0_line_83 (q := 86) rfl ?_
            refine k_X0_81 rfl dX0_line_86 (q := 89) rfl (by decide) (by decide) (by decide) (Nat.le_of_ble_eq_true rfl) (t_X6_step  h) ?_
            intro M86 h
            refine T.ald_0 (q := 90) dX0_line_89 rfl ?_
            refine T.ald_0 (q := 91) dX0_line_90 rfl ?_
            refine g_X0_9 rfl dX0_line_91 (q := 94) rfl ?_
            refine T.bipush (q := 96) (100) dX0_line_94 rfl (by decide) ?_
            refine k_X0_84 rfl dX0_line_96 (q := 99) rfl (by decide) (by decide) (by decide) (Nat.le_of_ble_eq_true rfl) (t_X6_numberUpTo  h) ?_
            intro r96 M96 h
            refine p_X0_37 rfl dX0_line_99 (q := 102) rfl ?_
            refine S.mem h ?_
            intro M99 h
            refine T.ald_0 (q := 103) dX0_line_102 rfl ?_
            refine g_X0_9 rfl dX0_line_103 (q := 106) rfl ?_
            refine k_X0_88 rfl dX0_line_106 (q := 109) rfl (by decide) (by decide) (by decide) (Nat.le_of_ble_eq_true rfl) (t_X6_isWrong (P := fun r9 => r9 = (f_X6_isWrong M99)) rfl) ?_
            rintro _ _ ⟨rfl, h9⟩
            obtain rfl := h9.symm
            refine T.if_ne (tgt := 116) (q := 112) dX0_line_109 (by decide) rfl (fun h109 => ?_) (fun h109 => ?_)
            · replace h := s_f h109 h
              refine T.iconst (q := 117) (0) dX0_line_116 rfl (by decide) ?_
              exact T.retZ rfl dX0_line_117 (by decide) (by decide) rfl h
            · replace h := s_t h109 h
              refine T.iconst (q := 113) (1) dX0_line_112 rfl (by decide) ?_
              refine T.goto (tgt := 117) dX0_line_113 (by decide) ?_
              exact T.retZ rfl dX0_line_117 (by decide) (by decide) rfl h
        · replace h := s_t h61 h
          refine T.ald_0 (q := 65) dX0_line_64 rfl ?_
          refine T.iconst (q := 66) (1) dX0_line_65 rfl (by decide) ?_
          refine k_X0_73 rfl dX0_line_66 (q := 69) rfl (by decide) (by decide) (by decide) (Nat.le_of_ble_eq_true rfl) (t_X0_contractLine  h) ?_
          intro r66 M66 h
          exact T.retZ rfl dX0_line_69 (by decide) (by decide) (nz01 h.1) h.2
      · replace h := s_t h43 h
        refine T.ald_0 (q := 47) dX0_line_46 rfl ?_
        refine T.iconst (q := 48) (0) dX0_line_47 rfl (by decide) ?_
        refine k_X0_73 rfl dX0_line_48 (q := 51) rfl (by decide) (by decide) (by decide) (Nat.le_of_ble_eq_true rfl) (t_X0_contractLine  h) ?_
        intro r48 M48 h
        exact T.retZ rfl dX0_line_51 (by decide) (by decide) (nz01 h.1) h.2
    · replace h := s_t h26 h
      refine T.ald_0 (q := 30) dX0_line_29 rfl ?_
      refine k_X0_68 rfl dX0_line_30 (q := 33) rfl (by decide) (by decide) (by decide) (Nat.le_of_ble_eq_true rfl) (t_X0_personLine  h) ?_
      intro r30 M30 h
      exact T.retZ rfl dX0_line_33 (by decide) (by decide) (nz01 h.1) h.2
  · replace h := s_t h9 h
    refine T.ald_0 (q := 13) dX0_line_12 rfl ?_
    refine k_X0_63 rfl dX0_line_13 (q := 16) rfl (by decide) (by decide) (by decide) (Nat.le_of_ble_eq_true rfl) (t_X0_vaultLine  h) ?_
    intro r13 M13 h
    exact T.retZ rfl dX0_line_16 (by decide) (by decide) (nz01 h.1) h.2
theorem tl_X0_read_L65 {G : sk_G} {cells slots : Nat}  {Q : Int32 → sk_M → Prop}  (hc0 : cells ≤ 0) (hs0 : slots ≤ 0) : ∀ (F : Nat) (s65 : Int32 × sk_M), lp (w_X0_read_L65 Q) F s65 → TJ G mX0_read (sk_R 8 0 0) (sk_K G 0 0 (rI Q) noX) cells slots 65 [some (.ref (G.2.2.1 125)), some (.int s65.1)] [] s65.2 := by
  refine lp_sound (fun c hc9 s65 h => ?_)
  unfold w_X0_read_L65 at h
  refine T.ild_1 (q := 66) dX0_read_65 rfl ?_
  refine T.bipush (q := 68) (14) dX0_read_66 rfl (by decide) ?_
  refine T.ic_ge (tgt := 112) (q := 71) dX0_read_68 (by decide) rfl (fun h68 => ?_) (fun h68 => ?_)
  · replace h := s_f (fun q => q h68) h
    refine T.ald_0 (q := 113) dX0_read_112 rfl ?_
    refine g_X0_9 rfl dX0_read_113 (q := 116) rfl ?_
    refine k_X0_54 rfl dX0_read_116 (q := 119) rfl (by decide) hc0 hs0 (Nat.le_of_ble_eq_true rfl) (t_X6_refuse  h) ?_
    intro r116 M116 h
    exact T.retZ rfl dX0_read_119 hc0 hs0 (nz01 h.1) h.2
  · replace h := s_t h68 h
    refine T.ald_0 (q := 72) dX0_read_71 rfl ?_
    refine k_X0_46 rfl dX0_read_72 (q := 75) rfl (by decide) hc0 hs0 (Nat.le_of_ble_eq_true rfl) (t_X0_line  h) ?_
    intro r72 M72 h
    refine T.if_ne (tgt := 80) (q := 78) dX0_read_75 (by decide) rfl (fun h75 => ?_) (fun h75 => ?_)
    · replace h := s_f h75 h
      refine T.ald_0 (q := 81) dX0_read_80 rfl ?_
      refine g_X0_9 rfl dX0_read_81 (q := 84) rfl ?_
      refine g_X0_43 rfl dX0_read_84 (q := 87) rfl ?_
      refine T.if_ne (tgt := 92) (q := 90) dX0_read_87 (by decide) rfl (fun h87 => ?_) (fun h87 => ?_)
      · replace h := s_f h87 h
        refine T.ald_0 (q := 93) dX0_read_92 rfl ?_
        refine g_X0_9 rfl dX0_read_93 (q := 96) rfl ?_
        refine T.bipush (q := 98) (59) dX0_read_96 rfl (by decide) ?_
        refine k_X0_50 rfl dX0_read_98 (q := 101) rfl (by decide) hc0 hs0 (Nat.le_of_ble_eq_true rfl) (t_X6_passSign  h) ?_
        intro r98 M98 h
        refine T.if_ne (tgt := 106) (q := 104) dX0_read_101 (by decide) rfl (fun h101 => ?_) (fun h101 => ?_)
        · replace h := s_f h101 h
          refine T.inc_1 (q := 109) (1) dX0_read_106 rfl (by decide) (by decide) sk_ok_r ?_
          refine T.goto (tgt := 65) dX0_read_109 (by decide) ?_
          exact hc9 ((s65.1 + (1 : Int32)), M98) h
        · replace h := s_t h101 h
          refine T.iconst (q := 105) (0) dX0_read_104 rfl (by decide) ?_
          exact T.retZ rfl dX0_read_105 hc0 hs0 rfl h
      · replace h := s_t h87 h
        refine T.iconst (q := 91) (1) dX0_read_90 rfl (by decide) ?_
        exact T.retZ rfl dX0_read_91 hc0 hs0 rfl h
    · replace h := s_t h75 h
      refine T.iconst (q := 79) (0) dX0_read_78 rfl (by decide) ?_
      exact T.retZ rfl dX0_read_79 hc0 hs0 rfl h
theorem t_X0_read {G : sk_G} {M : sk_M}   {Q : Int32 → sk_M → Prop} (h : w_X0_read  M Q) : Ctr G mX0_read 8 0 0 [.ref (G.2.2.1 125)] M (rI Q) noX := by
  unfold w_X0_read at h
  refine Ctr.of 1 (by decide) (Nat.le_of_ble_eq_true rfl) ?_
  show TJ G mX0_read (sk_R 8 0 0) (sk_K G 0 0 (rI Q) noX) 0 0 0 [some (.ref (G.2.2.1 125)), none] [] M
  refine T.ald_0 (q := 1) dX0_read_0 rfl ?_
  refine T.ald_0 (q := 2) dX0_read_1 rfl ?_
  refine g_X0_15 rfl dX0_read_2 (q := 5) rfl ?_
  refine g_X0_19 sk_s0 rfl dX0_read_5 (q := 8) rfl ?_
  refine p_X0_25 rfl dX0_read_8 (q := 11) rfl ?_
  refine S.mem h ?_
  intro M8 h
  refine T.ald_0 (q := 12) dX0_read_11 rfl ?_
  refine T.ald_0 (q := 13) dX0_read_12 rfl ?_
  refine g_X0_15 rfl dX0_read_13 (q := 16) rfl ?_
  refine g_X0_26 sk_s0 rfl dX0_read_16 (q := 19) rfl ?_
  refine p_X0_29 rfl dX0_read_19 (q := 22) rfl ?_
  refine S.mem h ?_
  intro M19 h
  refine T.ald_0 (q := 23) dX0_read_22 rfl ?_
  refine T.ald_0 (q := 24) dX0_read_23 rfl ?_
  refine g_X0_15 rfl dX0_read_24 (q := 27) rfl ?_
  refine g_X0_30 sk_s0 rfl dX0_read_27 (q := 30) rfl ?_
  refine p_X0_33 rfl dX0_read_30 (q := 33) rfl ?_
  refine S.mem h ?_
  intro M30 h
  refine T.ald_0 (q := 34) dX0_read_33 rfl ?_
  refine T.ald_0 (q := 35) dX0_read_34 rfl ?_
  refine g_X0_15 rfl dX0_read_35 (q := 38) rfl ?_
  refine g_X0_34 sk_s0 rfl dX0_read_38 (q := 41) rfl ?_
  refine p_X0_37 rfl dX0_read_41 (q := 44) rfl ?_
  refine S.mem h ?_
  intro M41 h
  refine T.ald_0 (q := 45) dX0_read_44 rfl ?_
  refine g_X0_9 rfl dX0_read_45 (q := 48) rfl ?_
  refine k_X0_38 rfl dX0_read_48 (q := 51) rfl (by decide) (by decide) (by decide) (Nat.le_of_ble_eq_true rfl) (t_X6_rewind  h) ?_
  intro M48 h
  refine T.ald_0 (q := 52) dX0_read_51 rfl ?_
  refine g_X0_9 rfl dX0_read_52 (q := 55) rfl ?_
  refine g_X0_43 rfl dX0_read_55 (q := 58) rfl ?_
  refine T.if_ne (tgt := 63) (q := 61) dX0_read_58 (by decide) rfl (fun h58 => ?_) (fun h58 => ?_)
  · replace h := s_f h58 h
    refine T.iconst (q := 64) (0) dX0_read_63 rfl (by decide) ?_
    refine T.ist_1 (q := 65) dX0_read_64 rfl (by decide) sk_ok_r ?_
    exact tl_X0_read_L65  (by decide) (by decide) _ ((0 : Int32), M48) h
  · replace h := s_t h58 h
    refine T.iconst (q := 62) (1) dX0_read_61 rfl (by decide) ?_
    exact T.retZ rfl dX0_read_62 (by decide) (by decide) rfl h
theorem t_X0_settle {G : sk_G} {M : sk_M}   {Q : sk_M → Prop} (h : w_X0_settle  M Q) : Ctr G mX0_settle 0 0 0 [.ref (G.2.2.1 125)] M (rV Q) noX := by
  unfold w_X0_settle at h
  refine Ctr.of 0 (by decide) (Nat.le_of_ble_eq_true rfl) ?_
  show TJ G mX0_settle (sk_R 0 0 0) (sk_K G 0 0 (rV Q) noX) 0 0 0 [some (.ref (G.2.2.1 125))] [] M
  refine T.ald_0 (q := 1) dX0_settle_0 rfl ?_
  refine g_X0_15 rfl dX0_settle_1 (q := 4) rfl ?_
  refine T.ald_0 (q := 5) dX0_settle_4 rfl ?_
  refine g_X0_25 rfl dX0_settle_5 (q := 8) rfl ?_
  refine p_X0_19 sk_s0 rfl dX0_settle_8 (q := 11) rfl ?_
  refine S.mem h ?_
  intro M8 h
  refine T.ald_0 (q := 12) dX0_settle_11 rfl ?_
  refine g_X0_15 rfl dX0_settle_12 (q := 15) rfl ?_
  refine T.ald_0 (q := 16) dX0_settle_15 rfl ?_
  refine g_X0_29 rfl dX0_settle_16 (q := 19) rfl ?_
  refine p_X0_26 sk_s0 rfl dX0_settle_19 (q := 22) rfl ?_
  refine S.mem h ?_
  intro M19 h
  refine T.ald_0 (q := 23) dX0_settle_22 rfl ?_
  refine g_X0_15 rfl dX0_settle_23 (q := 26) rfl ?_
  refine T.ald_0 (q := 27) dX0_settle_26 rfl ?_
  refine g_X0_33 rfl dX0_settle_27 (q := 30) rfl ?_
  refine p_X0_30 sk_s0 rfl dX0_settle_30 (q := 33) rfl ?_
  refine S.mem h ?_
  intro M30 h
  refine T.ald_0 (q := 34) dX0_settle_33 rfl ?_
  refine g_X0_15 rfl dX0_settle_34 (q := 37) rfl ?_
  refine T.ald_0 (q := 38) dX0_settle_37 rfl ?_
  refine g_X0_37 rfl dX0_settle_38 (q := 41) rfl ?_
  refine p_X0_34 sk_s0 rfl dX0_settle_41 (q := 44) rfl ?_
  refine S.mem h ?_
  intro M41 h
  exact T.retV rfl dX0_settle_44 (by decide) (by decide) h
theorem t_X1_apart {G : sk_G} {M : sk_M} {a0 : Int32}  {P : Int32 → Prop} (h : P (f_X1_apart a0)) : Ctr G mX1_apart 1 0 0 [.int a0] M (rI fun r9 M9 => P r9 ∧ M9 = M) noX := by
  unfold f_X1_apart at h
  refine Ctr.of 1 (by decide) (Nat.le_of_ble_eq_true rfl) ?_
  show TJ G mX1_apart (sk_R 1 0 0) (sk_K G 0 0 (rI fun r9 M9 => P r9 ∧ M9 = M) noX) 0 0 0 [some (.int a0), none] [] M
  refine T.ild_0 (q := 1) dX1_apart_0 rfl ?_
  refine T.bipush (q := 3) (6) dX1_apart_1 rfl (by decide) ?_
  refine T.idiv (q := 4) dX1_apart_3 rfl (by decide) ?_
  refine T.ild_0 (q := 5) dX1_apart_4 rfl ?_
  refine T.bipush (q := 7) (6) dX1_apart_5 rfl (by decide) ?_
  refine T.irem (q := 8) dX1_apart_7 rfl (by decide) ?_
  refine T.isub (q := 9) dX1_apart_8 rfl ?_
  refine k_X1_124 rfl dX1_apart_9 (q := 12) rfl (by decide) (by decide) (by decide) (Nat.le_of_ble_eq_true rfl) ?_
  refine T.ist_1 (q := 13) dX1_apart_12 rfl (by decide) sk_ok_i ?_
  refine S.i1T h ?_
  intro y12 h
  refine T.ild_1 (q := 14) dX1_apart_13 rfl ?_
  refine T.bipush (q := 16) (6) dX1_apart_14 rfl (by decide) ?_
  refine T.ild_1 (q := 17) dX1_apart_16 rfl ?_
  refine T.isub (q := 18) dX1_apart_17 rfl ?_
  refine k_X1_129 rfl dX1_apart_18 (q := 21) rfl (by decide) (by decide) (by decide) (Nat.le_of_ble_eq_true rfl) ?_
  exact T.retI rfl dX1_apart_21 (by decide) (by decide) ⟨h, rfl⟩
theorem tl_X1_whereApart_L4 {G : sk_G} {M : sk_M} {cells slots : Nat} {a0 : Int32} {Q : Int64 → Prop}  (hc0 : cells ≤ 0) (hs0 : slots ≤ 0) : ∀ (F : Nat) (s4 : Int64 × Int32), lp (w_X1_whereApart_L4 a0 Q) F s4 → TJ G mX1_whereApart (sk_R 2 0 0) (sk_K G 0 0 (rL fun r9 M9 => Q r9 ∧ M9 = M) noX) cells slots 4 [some (.int a0), some (.long s4.1), none, some (.int s4.2)] [] M := by
  refine lp_sound (fun c hc9 s4 h => ?_)
  unfold w_X1_whereApart_L4 at h
  refine T.ild_3 (q := 5) dX1_whereApart_4 rfl ?_
  refine T.bipush (q := 7) (36) dX1_whereApart_5 rfl (by decide) ?_
  refine T.ic_ge (tgt := 30) (q := 10) dX1_whereApart_7 (by decide) rfl (fun h7 => ?_) (fun h7 => ?_)
  · replace h := s_f (fun q => q h7) h
    refine T.lld_1 (q := 31) dX1_whereApart_30 rfl ?_
    exact T.retL rfl dX1_whereApart_31 hc0 hs0 ⟨h, rfl⟩
  · replace h := s_t h7 h
    refine T.ild_3 (q := 11) dX1_whereApart_10 rfl ?_
    refine k_X1_115 rfl dX1_whereApart_11 (q := 14) rfl (by decide) hc0 hs0 (Nat.le_of_ble_eq_true rfl) (t_X1_apart (P := fun r9 => r9 = (f_X1_apart s4.2)) rfl) ?_
    rintro _ _ ⟨rfl, h9⟩
    obtain rfl := h9.symm
    refine T.ild_0 (q := 15) dX1_whereApart_14 rfl ?_
    refine T.ic_ne (tgt := 24) (q := 18) dX1_whereApart_15 (by decide) rfl (fun h15 => ?_) (fun h15 => ?_)
    · replace h := s_f h15 h
      refine T.inc_3 (q := 27) (1) dX1_whereApart_24 rfl (by decide) (by decide) sk_ok_n ?_
      refine T.goto (tgt := 4) dX1_whereApart_27 (by decide) ?_
      exact hc9 (s4.1, (s4.2 + (1 : Int32))) h
    · replace h := s_t h15 h
      refine T.lld_1 (q := 19) dX1_whereApart_18 rfl ?_
      refine T.lconst (q := 20) (1) dX1_whereApart_19 rfl (by decide) ?_
      refine T.ild_3 (q := 21) dX1_whereApart_20 rfl ?_
      refine T.lshl (q := 22) dX1_whereApart_21 rfl ?_
      refine T.lor (q := 23) dX1_whereApart_22 rfl ?_
      refine T.lst_1 (q := 24) dX1_whereApart_23 rfl (by decide) sk_ok_i ?_
      refine S.l1 h ?_
      intro y23 h
      refine T.inc_3 (q := 27) (1) dX1_whereApart_24 rfl (by decide) (by decide) sk_ok_n ?_
      refine T.goto (tgt := 4) dX1_whereApart_27 (by decide) ?_
      exact hc9 (y23, (s4.2 + (1 : Int32))) h
theorem t_X1_whereApart {G : sk_G} {M : sk_M} {a0 : Int32}  {Q : Int64 → Prop} (h : w_X1_whereApart a0 M Q) : Ctr G mX1_whereApart 2 0 0 [.int a0] M (rL fun r9 M9 => Q r9 ∧ M9 = M) noX := by
  unfold w_X1_whereApart at h
  refine Ctr.of 3 (by decide) (Nat.le_of_ble_eq_true rfl) ?_
  show TJ G mX1_whereApart (sk_R 2 0 0) (sk_K G 0 0 (rL fun r9 M9 => Q r9 ∧ M9 = M) noX) 0 0 0 [some (.int a0), none, none, none] [] M
  refine T.lconst (q := 1) (0) dX1_whereApart_0 rfl (by decide) ?_
  refine T.lst_1 (q := 2) dX1_whereApart_1 rfl (by decide) sk_ok_i ?_
  refine T.iconst (q := 3) (0) dX1_whereApart_2 rfl (by decide) ?_
  refine T.ist_3 (q := 4) dX1_whereApart_3 rfl (by decide) sk_ok_n ?_
  exact tl_X1_whereApart_L4  (by decide) (by decide) _ ((0 : Int64), (0 : Int32)) h
theorem tl_X1_sum_L107 {G : sk_G} {cells slots : Nat} {c1 : Nat} {s7 : Int32 × sk_M} {r24 : Int32} {r34 : Int32} {r45 : Int32} {s104_57 : Int32 × sk_M} {Q : sk_M → Prop} {k167 : sk_M → Prop} (ha1 : sk_kd c1 = 10 ∧ sk_ln c1 = 36 ∧ c1 < 159) (hc0 : cells ≤ 0) (hs0 : slots ≤ 0) (hk167 : ∀ s167 : sk_M, k167 s167 → TJ G mX1_sum (sk_R 5 0 0) (sk_K G 0 0 (rV Q) noX) cells slots 167 [some (.ref (G.2.2.1 126)), some (.ref (G.2.2.1 c1)), some (.int s7.1), none, none, none, none, none] [] s167) : ∀ (F : Nat) (s107 : Int32 × sk_M), lp (w_X1_sum_L107 c1 r24 r34 r45 s104_57 k167) F s107 → TJ G mX1_sum (sk_R 5 0 0) (sk_K G 0 0 (rV Q) noX) cells slots 107 [some (.ref (G.2.2.1 126)), some (.ref (G.2.2.1 c1)), some (.int s7.1), some (.int r24), some (.int r34), some (.int r45), some (.int s104_57.1), some (.int s107.1)] [] s107.2 := by
  refine lp_sound (fun c hc9 s107 h => ?_)
  unfold w_X1_sum_L107 at h
  refine T.ild_7 (q := 109) dX1_sum_107 rfl ?_
  refine T.bipush (q := 111) (36) dX1_sum_109 rfl (by decide) ?_
  refine T.ic_ge (tgt := 167) (q := 114) dX1_sum_111 (by decide) rfl (fun h111 => ?_) (fun h111 => ?_)
  · replace h := s_f (fun q => q h111) h
    refine T.drop_3 ?_
    refine T.drop_4 ?_
    refine T.drop_5 ?_
    refine T.drop_6 ?_
    refine T.drop_7 ?_
    exact hk167 s107.2 h
  · replace h := s_t h111 h
    refine T.ald_1 (q := 115) dX1_sum_114 rfl ?_
    refine T.ild_7 (q := 117) dX1_sum_115 rfl ?_
    refine T.dup2 (q := 118) dX1_sum_117 rfl rfl rfl ?_
    refine T.iald (ha1).1 (ha1).2.1 (ha1).2.2 dX1_sum_118 (q := 119) rfl h.1 ?_
    replace h := h.2
    refine T.ild_3 (q := 120) dX1_sum_119 rfl ?_
    refine T.if_eq (tgt := 131) (q := 123) dX1_sum_120 (by decide) rfl (fun h120 => ?_) (fun h120 => ?_)
    · replace h := s_f (fun q => q h120) h
      refine T.ild_4 (q := 133) dX1_sum_131 rfl ?_
      refine T.if_eq (tgt := 144) (q := 136) dX1_sum_133 (by decide) rfl (fun h133 => ?_) (fun h133 => ?_)
      · replace h := s_f (fun q => q h133) h
        refine T.ild_5 (q := 146) dX1_sum_144 rfl ?_
        refine T.if_eq (tgt := 157) (q := 149) dX1_sum_146 (by decide) rfl (fun h146 => ?_) (fun h146 => ?_)
        · replace h := s_f (fun q => q h146) h
          refine T.ild_6 (q := 159) dX1_sum_157 rfl ?_
          refine T.iadd (q := 160) dX1_sum_159 rfl ?_
          refine T.iast (ha1).1 (ha1).2.1 (ha1).2.2 dX1_sum_160 (q := 161) rfl h.1 ?_
          refine S.mem h.2 ?_
          intro M160 h
          refine T.inc_7 (q := 164) (1) dX1_sum_161 rfl (by decide) (by decide) sk_ok_i ?_
          refine T.goto (tgt := 107) dX1_sum_164 (by decide) ?_
          exact hc9 ((s107.1 + (1 : Int32)), M160) h
        · replace h := s_t h146 h
          refine T.ild_7 (q := 151) dX1_sum_149 rfl ?_
          refine k_X1_115 rfl dX1_sum_151 (q := 154) rfl (by decide) hc0 hs0 (Nat.le_of_ble_eq_true rfl) (t_X1_apart (P := fun r9 => r9 = (f_X1_apart s107.1)) rfl) ?_
          rintro _ _ ⟨rfl, h9⟩
          obtain rfl := h9.symm
          refine T.goto (tgt := 159) dX1_sum_154 (by decide) ?_
          refine T.iadd (q := 160) dX1_sum_159 rfl ?_
          refine T.iast (ha1).1 (ha1).2.1 (ha1).2.2 dX1_sum_160 (q := 161) rfl h.1 ?_
          refine S.mem h.2 ?_
          intro M160 h
          refine T.inc_7 (q := 164) (1) dX1_sum_161 rfl (by decide) (by decide) sk_ok_i ?_
          refine T.goto (tgt := 107) dX1_sum_164 (by decide) ?_
          exact hc9 ((s107.1 + (1 : Int32)), M160) h
      · replace h := s_t h133 h
        refine T.ild_7 (q := 138) dX1_sum_136 rfl ?_
        refine T.bipush (q := 140) (6) dX1_sum_138 rfl (by decide) ?_
        refine T.irem (q := 141) dX1_sum_140 rfl (by decide) ?_
        refine T.goto (tgt := 159) dX1_sum_141 (by decide) ?_
        refine T.iadd (q := 160) dX1_sum_159 rfl ?_
        refine T.iast (ha1).1 (ha1).2.1 (ha1).2.2 dX1_sum_160 (q := 161) rfl h.1 ?_
        refine S.mem h.2 ?_
        intro M160 h
        refine T.inc_7 (q := 164) (1) dX1_sum_161 rfl (by decide) (by decide) sk_ok_i ?_
        refine T.goto (tgt := 107) dX1_sum_164 (by decide) ?_
        exact hc9 ((s107.1 + (1 : Int32)), M160) h
    · replace h := s_t h120 h
      refine T.ild_7 (q := 125) dX1_sum_123 rfl ?_
      refine T.bipush (q := 127) (6) dX1_sum_125 rfl (by decide) ?_
      refine T.idiv (q := 128) dX1_sum_127 rfl (by decide) ?_
      refine T.goto (tgt := 159) dX1_sum_128 (by decide) ?_
      refine T.iadd (q := 160) dX1_sum_159 rfl ?_
      refine T.iast (ha1).1 (ha1).2.1 (ha1).2.2 dX1_sum_160 (q := 161) rfl h.1 ?_
      refine S.mem h.2 ?_
      intro M160 h
      refine T.inc_7 (q := 164) (1) dX1_sum_161 rfl (by decide) (by decide) sk_ok_i ?_
      refine T.goto (tgt := 107) dX1_sum_164 (by decide) ?_
      exact hc9 ((s107.1 + (1 : Int32)), M160) h
theorem tl_X1_sum_L7 {G : sk_G} {cells slots : Nat} {c1 : Nat} {Q : sk_M → Prop} (ha1 : sk_kd c1 = 10 ∧ sk_ln c1 = 36 ∧ c1 < 159) (hc0 : cells ≤ 0) (hs0 : slots ≤ 0) : ∀ (F : Nat) (s7 : Int32 × sk_M), lp (w_X1_sum_L7 c1 Q) F s7 → TJ G mX1_sum (sk_R 5 0 0) (sk_K G 0 0 (rV Q) noX) cells slots 7 [some (.ref (G.2.2.1 126)), some (.ref (G.2.2.1 c1)), some (.int s7.1), none, none, none, none, none] [] s7.2 := by
  refine lp_sound (fun c hc9 s7 h => ?_)
  unfold w_X1_sum_L7 at h
  refine T.ild_2 (q := 8) dX1_sum_7 rfl ?_
  refine T.ald_0 (q := 9) dX1_sum_8 rfl ?_
  refine g_X1_9 rfl dX1_sum_9 (q := 12) rfl ?_
  refine g_X1_86 rfl dX1_sum_12 (q := 15) rfl ?_
  refine T.ic_gt (tgt := 203) (q := 18) dX1_sum_15 (by decide) rfl (fun h15 => ?_) (fun h15 => ?_)
  · replace h := s_f (fun q => q h15) h
    exact T.retV rfl dX1_sum_203 hc0 hs0 h
  · replace h := s_t h15 h
    refine T.ald_0 (q := 19) dX1_sum_18 rfl ?_
    refine g_X1_9 rfl dX1_sum_19 (q := 22) rfl ?_
    refine T.ldcS (q := 24) "told" 15 dX1_sum_22 rfl (by decide +kernel) ?_
    refine k_X1_59 rfl dX1_sum_24 (q := 27) rfl (by decide) hc0 hs0 (Nat.le_of_ble_eq_true rfl) (t_X6_is ((by decide)) h) ?_
    rintro r24 _ ⟨h, h9⟩
    obtain rfl := h9.symm
    refine T.ist_3 (q := 28) dX1_sum_27 rfl (by decide) sk_ok_i ?_
    refine T.ald_0 (q := 29) dX1_sum_28 rfl ?_
    refine g_X1_9 rfl dX1_sum_29 (q := 32) rfl ?_
    refine T.ldcS (q := 34) "code" 16 dX1_sum_32 rfl (by decide +kernel) ?_
    refine k_X1_59 rfl dX1_sum_34 (q := 37) rfl (by decide) hc0 hs0 (Nat.le_of_ble_eq_true rfl) (t_X6_is ((by decide)) h) ?_
    rintro r34 _ ⟨h, h9⟩
    obtain rfl := h9.symm
    refine T.ist_4 (q := 39) dX1_sum_37 rfl (by decide) sk_ok_i ?_
    refine T.ald_0 (q := 40) dX1_sum_39 rfl ?_
    refine g_X1_9 rfl dX1_sum_40 (q := 43) rfl ?_
    refine T.ldcS (q := 45) "apart" 17 dX1_sum_43 rfl (by decide +kernel) ?_
    refine k_X1_59 rfl dX1_sum_45 (q := 48) rfl (by decide) hc0 hs0 (Nat.le_of_ble_eq_true rfl) (t_X6_is ((by decide)) h) ?_
    rintro r45 _ ⟨h, h9⟩
    obtain rfl := h9.symm
    refine T.ist_5 (q := 50) dX1_sum_48 rfl (by decide) sk_ok_i ?_
    refine T.ald_0 (q := 51) dX1_sum_50 rfl ?_
    refine g_X1_31 rfl dX1_sum_51 (q := 54) rfl ?_
    refine T.ist_6 (q := 56) dX1_sum_54 rfl (by decide) sk_ok_i ?_
    refine S.i6 h ?_
    intro y54 h
    refine T.ild_3 (q := 57) dX1_sum_56 rfl ?_
    refine s_join (fun s104_57 : Int32 × sk_M => TJ G mX1_sum (sk_R 5 0 0) (sk_K G 0 0 (rV Q) noX) cells slots 104 [some (.ref (G.2.2.1 126)), some (.ref (G.2.2.1 c1)), some (.int s7.1), some (.int r24), some (.int r34), some (.int r45), some (.int s104_57.1), none] [] s104_57.2) h (fun s104_57 h => ?_) (fun j104_57 hj104_57 h => ?_)
    · refine T.iconst (q := 105) (0) dX1_sum_104 rfl (by decide) ?_
      refine T.ist_7 (q := 107) dX1_sum_105 rfl (by decide) sk_ok_i ?_
      refine tl_X1_sum_L107 ha1 hc0 hs0 ?_ _ ((0 : Int32), s104_57.2) h
      intro s167 h
      refine T.ald_0 (q := 168) dX1_sum_167 rfl ?_
      refine g_X1_9 rfl dX1_sum_168 (q := 171) rfl ?_
      refine k_X1_74 rfl dX1_sum_171 (q := 174) rfl (by decide) hc0 hs0 (Nat.le_of_ble_eq_true rfl) (t_X6_isWrong (P := fun r9 => r9 = (f_X6_isWrong s167)) rfl) ?_
      rintro _ _ ⟨rfl, h9⟩
      obtain rfl := h9.symm
      refine T.if_ne (tgt := 189) (q := 177) dX1_sum_174 (by decide) rfl (fun h174 => ?_) (fun h174 => ?_)
      · replace h := s_f h174 h
        exact T.retV rfl dX1_sum_189 hc0 hs0 h
      · replace h := s_t h174 h
        refine T.ald_0 (q := 178) dX1_sum_177 rfl ?_
        refine g_X1_9 rfl dX1_sum_178 (q := 181) rfl ?_
        refine T.bipush (q := 183) (43) dX1_sum_181 rfl (by decide) ?_
        refine k_X1_95 rfl dX1_sum_183 (q := 186) rfl (by decide) hc0 hs0 (Nat.le_of_ble_eq_true rfl) (t_X6_isSign  h) ?_
        rintro r183 _ ⟨h, h9⟩
        obtain rfl := h9.symm
        refine T.if_ne (tgt := 190) (q := 189) dX1_sum_186 (by decide) rfl (fun h186 => ?_) (fun h186 => ?_)
        · replace h := s_f h186 h
          refine T.ald_0 (q := 191) dX1_sum_190 rfl ?_
          refine g_X1_9 rfl dX1_sum_191 (q := 194) rfl ?_
          refine k_X1_65 rfl dX1_sum_194 (q := 197) rfl (by decide) hc0 hs0 (Nat.le_of_ble_eq_true rfl) (t_X6_step  h) ?_
          intro M194 h
          refine T.inc_2 (q := 200) (1) dX1_sum_197 rfl (by decide) (by decide) sk_ok_r ?_
          refine T.goto (tgt := 7) dX1_sum_200 (by decide) ?_
          exact hc9 ((s7.1 + (1 : Int32)), M194) h
        · replace h := s_t h186 h
          exact T.retV rfl dX1_sum_189 hc0 hs0 h
    · refine s_join (fun s82_57 : Int32 × sk_M => TJ G mX1_sum (sk_R 5 0 0) (sk_K G 0 0 (rV Q) noX) cells slots 82 [some (.ref (G.2.2.1 126)), some (.ref (G.2.2.1 c1)), some (.int s7.1), some (.int r24), some (.int r34), some (.int r45), some (.int s82_57.1), none] [] s82_57.2) h (fun s82_57 h => ?_) (fun j82_57 hj82_57 h => ?_)
      · refine T.ald_0 (q := 83) dX1_sum_82 rfl ?_
        refine g_X1_9 rfl dX1_sum_83 (q := 86) rfl ?_
        refine k_X1_65 rfl dX1_sum_86 (q := 89) rfl (by decide) hc0 hs0 (Nat.le_of_ble_eq_true rfl) (t_X6_step  h) ?_
        intro M86 h
        refine T.goto (tgt := 104) dX1_sum_89 (by decide) ?_
        exact hj104_57 (s82_57.1, M86) h
      · refine T.if_ne (tgt := 82) (q := 60) dX1_sum_57 (by decide) rfl (fun h57 => ?_) (fun h57 => ?_)
        · replace h := s_f (fun q => h57 q.1) h
          exact hj82_57 (y54, s7.2) h
        · refine T.ild_4 (q := 62) dX1_sum_60 rfl ?_
          refine T.if_ne (tgt := 82) (q := 65) dX1_sum_62 (by decide) rfl (fun h62 => ?_) (fun h62 => ?_)
          · replace h := s_f (fun q => (fun q => h62 q.1) q.2) h
            exact hj82_57 (y54, s7.2) h
          · refine T.ild_5 (q := 67) dX1_sum_65 rfl ?_
            refine T.if_ne (tgt := 82) (q := 70) dX1_sum_67 (by decide) rfl (fun h67 => ?_) (fun h67 => ?_)
            · replace h := s_f (fun q => (fun q => h67 q.2) q.2) h
              exact hj82_57 (y54, s7.2) h
            · replace h := s_t ⟨h57, ⟨h62, h67⟩⟩ h
              refine T.ald_0 (q := 71) dX1_sum_70 rfl ?_
              refine g_X1_9 rfl dX1_sum_71 (q := 74) rfl ?_
              refine T.ldcS (q := 76) "wheel" 14 dX1_sum_74 rfl (by decide +kernel) ?_
              refine k_X1_59 rfl dX1_sum_76 (q := 79) rfl (by decide) hc0 hs0 (Nat.le_of_ble_eq_true rfl) (t_X6_is ((by decide)) h) ?_
              rintro r76 _ ⟨h, h9⟩
              obtain rfl := h9.symm
              refine T.if_eq (tgt := 92) (q := 82) dX1_sum_79 (by decide) rfl (fun h79 => ?_) (fun h79 => ?_)
              · replace h := s_f (fun q => q h79) h
                refine T.ald_0 (q := 93) dX1_sum_92 rfl ?_
                refine g_X1_9 rfl dX1_sum_93 (q := 96) rfl ?_
                refine T.sipush (q := 99) (999) dX1_sum_96 rfl (by decide) ?_
                refine k_X1_68 rfl dX1_sum_99 (q := 102) rfl (by decide) hc0 hs0 (Nat.le_of_ble_eq_true rfl) (t_X6_numberUpTo  h) ?_
                intro r99 M99 h
                refine T.ist_6 (q := 104) dX1_sum_102 rfl (by decide) sk_ok_i ?_
                exact hj104_57 (r99, M99) h
              · replace h := s_t h79 h
                exact hj82_57 (y54, s7.2) h
theorem t_X1_sum {G : sk_G} {M : sk_M} {c1 : Nat} (ha1 : sk_kd c1 = 10 ∧ sk_ln c1 = 36 ∧ c1 < 159) {Q : sk_M → Prop} (h : w_X1_sum c1 M Q) : Ctr G mX1_sum 5 0 0 [.ref (G.2.2.1 126), .ref (G.2.2.1 c1)] M (rV Q) noX := by
  unfold w_X1_sum at h
  refine Ctr.of 6 (by decide) (Nat.le_of_ble_eq_true rfl) ?_
  show TJ G mX1_sum (sk_R 5 0 0) (sk_K G 0 0 (rV Q) noX) 0 0 0 [some (.ref (G.2.2.1 126)), some (.ref (G.2.2.1 c1)), none, none, none, none, none, none] [] M
  refine T.ald_1 (q := 1) dX1_sum_0 rfl ?_
  refine T.iconst (q := 2) (0) dX1_sum_1 rfl (by decide) ?_
  refine k_X1_25 rfl dX1_sum_2 (q := 5) rfl (by decide) (by decide) (by decide) (Nat.le_of_ble_eq_true rfl) (c_fill (d := 0) (N := 36) (ha1).1 (ha1).2.1 (ha1).2.2 (by decide)) ?_
  rintro _ rfl
  refine S.mem h ?_
  intro M2 h
  refine T.iconst (q := 6) (0) dX1_sum_5 rfl (by decide) ?_
  refine T.ist_2 (q := 7) dX1_sum_6 rfl (by decide) sk_ok_r ?_
  exact tl_X1_sum_L7 ha1 (by decide) (by decide) _ ((0 : Int32), M2) h
theorem tl_X1_whereLess_L5 {G : sk_G} {M : sk_M} {cells slots : Nat} {c0 : Nat} {c1 : Nat} {Q : Int64 → Prop} (ha0 : sk_kd c0 = 10 ∧ sk_ln c0 = 36 ∧ c0 < 159) (ha1 : sk_kd c1 = 10 ∧ sk_ln c1 = 36 ∧ c1 < 159) (hc0 : cells ≤ 0) (hs0 : slots ≤ 0) : ∀ (F : Nat) (s5 : Int64 × Int32), lp (w_X1_whereLess_L5 c0 c1 M Q) F s5 → TJ G mX1_whereLess (sk_R 0 0 0) (sk_K G 0 0 (rL fun r9 M9 => Q r9 ∧ M9 = M) noX) cells slots 5 [some (.ref (G.2.2.1 c0)), some (.ref (G.2.2.1 c1)), some (.long s5.1), none, some (.int s5.2)] [] M := by
  refine lp_sound (fun c hc9 s5 h => ?_)
  unfold w_X1_whereLess_L5 at h
  refine T.ild_4 (q := 7) dX1_whereLess_5 rfl ?_
  refine T.bipush (q := 9) (36) dX1_whereLess_7 rfl (by decide) ?_
  refine T.ic_ge (tgt := 36) (q := 12) dX1_whereLess_9 (by decide) rfl (fun h9 => ?_) (fun h9 => ?_)
  · replace h := s_f (fun q => q h9) h
    refine T.lld_2 (q := 37) dX1_whereLess_36 rfl ?_
    exact T.retL rfl dX1_whereLess_37 hc0 hs0 ⟨h, rfl⟩
  · replace h := s_t h9 h
    refine T.ald_0 (q := 13) dX1_whereLess_12 rfl ?_
    refine T.ild_4 (q := 15) dX1_whereLess_13 rfl ?_
    refine T.iald (ha0).1 (ha0).2.1 (ha0).2.2 dX1_whereLess_15 (q := 16) rfl h.1 ?_
    replace h := h.2
    refine T.ald_1 (q := 17) dX1_whereLess_16 rfl ?_
    refine T.ild_4 (q := 19) dX1_whereLess_17 rfl ?_
    refine T.iald (ha1).1 (ha1).2.1 (ha1).2.2 dX1_whereLess_19 (q := 20) rfl h.1 ?_
    replace h := h.2
    refine T.ic_ge (tgt := 30) (q := 23) dX1_whereLess_20 (by decide) rfl (fun h20 => ?_) (fun h20 => ?_)
    · replace h := s_f (fun q => q h20) h
      refine T.inc_4 (q := 33) (1) dX1_whereLess_30 rfl (by decide) (by decide) sk_ok_n ?_
      refine T.goto (tgt := 5) dX1_whereLess_33 (by decide) ?_
      exact hc9 (s5.1, (s5.2 + (1 : Int32))) h
    · replace h := s_t h20 h
      refine T.lld_2 (q := 24) dX1_whereLess_23 rfl ?_
      refine T.lconst (q := 25) (1) dX1_whereLess_24 rfl (by decide) ?_
      refine T.ild_4 (q := 27) dX1_whereLess_25 rfl ?_
      refine T.lshl (q := 28) dX1_whereLess_27 rfl ?_
      refine T.lor (q := 29) dX1_whereLess_28 rfl ?_
      refine T.lst_2 (q := 30) dX1_whereLess_29 rfl (by decide) sk_ok_r ?_
      refine S.l2 h ?_
      intro y29 h
      refine T.inc_4 (q := 33) (1) dX1_whereLess_30 rfl (by decide) (by decide) sk_ok_n ?_
      refine T.goto (tgt := 5) dX1_whereLess_33 (by decide) ?_
      exact hc9 (y29, (s5.2 + (1 : Int32))) h
theorem t_X1_whereLess {G : sk_G} {M : sk_M} {c0 : Nat} {c1 : Nat} (ha0 : sk_kd c0 = 10 ∧ sk_ln c0 = 36 ∧ c0 < 159) (ha1 : sk_kd c1 = 10 ∧ sk_ln c1 = 36 ∧ c1 < 159) {Q : Int64 → Prop} (h : w_X1_whereLess c0 c1 M Q) : Ctr G mX1_whereLess 0 0 0 [.ref (G.2.2.1 c0), .ref (G.2.2.1 c1)] M (rL fun r9 M9 => Q r9 ∧ M9 = M) noX := by
  unfold w_X1_whereLess at h
  refine Ctr.of 3 (by decide) (Nat.le_of_ble_eq_true rfl) ?_
  show TJ G mX1_whereLess (sk_R 0 0 0) (sk_K G 0 0 (rL fun r9 M9 => Q r9 ∧ M9 = M) noX) 0 0 0 [some (.ref (G.2.2.1 c0)), some (.ref (G.2.2.1 c1)), none, none, none] [] M
  refine T.lconst (q := 1) (0) dX1_whereLess_0 rfl (by decide) ?_
  refine T.lst_2 (q := 2) dX1_whereLess_1 rfl (by decide) sk_ok_r ?_
  refine T.iconst (q := 3) (0) dX1_whereLess_2 rfl (by decide) ?_
  refine T.ist_4 (q := 5) dX1_whereLess_3 rfl (by decide) sk_ok_n ?_
  exact tl_X1_whereLess_L5 ha0 ha1 (by decide) (by decide) _ ((0 : Int64), (0 : Int32)) h
theorem tl_X1_condition_L12 {G : sk_G} {cells slots : Nat} {dA : Nat} {A : Int32 → sk_M → (Int64 → sk_M → Prop) → Prop} {a1 : Int32} {Q : Int64 → sk_M → Prop} (hdA : 10 ≤ dA) (hA : ∀ {M : sk_M} {a1 : Int32} {Q : Int64 → sk_M → Prop}, A a1 M Q → Ctr G mX1_atom dA 0 0 [.ref (G.2.2.1 126), .int a1] M (rL Q) noX) (hc0 : cells ≤ 0) (hs0 : slots ≤ 0) : ∀ (F : Nat) (s12 : Int64 × Int64 × Int32 × sk_M), lp (w_X1_condition_L12 A a1 Q) F s12 → TJ G mX1_condition (sk_R (dA + 1) 0 0) (sk_K G 0 0 (rL Q) noX) cells slots 12 [some (.ref (G.2.2.1 126)), some (.int a1), some (.long s12.1), none, some (.long s12.2.1), none, some (.int s12.2.2.1)] [] s12.2.2.2 := by
  refine lp_sound (fun c hc9 s12 h => ?_)
  unfold w_X1_condition_L12 at h
  refine T.ild_6 (q := 14) dX1_condition_12 rfl ?_
  refine T.ald_0 (q := 15) dX1_condition_14 rfl ?_
  refine g_X1_9 rfl dX1_condition_15 (q := 18) rfl ?_
  refine g_X1_86 rfl dX1_condition_18 (q := 21) rfl ?_
  refine T.ic_ge (tgt := 111) (q := 24) dX1_condition_21 (by decide) rfl (fun h21 => ?_) (fun h21 => ?_)
  · replace h := s_f (fun q => q.1 h21) h
    refine T.lld_2 (q := 112) dX1_condition_111 rfl ?_
    refine T.lld_4 (q := 114) dX1_condition_112 rfl ?_
    refine T.lor (q := 115) dX1_condition_114 rfl ?_
    exact T.retL rfl dX1_condition_115 hc0 hs0 h
  · refine T.ald_0 (q := 25) dX1_condition_24 rfl ?_
    refine g_X1_9 rfl dX1_condition_25 (q := 28) rfl ?_
    refine k_X1_74 rfl dX1_condition_28 (q := 31) rfl (by omega) hc0 hs0 (Nat.le_of_ble_eq_true rfl) (t_X6_isWrong (P := fun r9 => r9 = (f_X6_isWrong s12.2.2.2)) rfl) ?_
    rintro _ _ ⟨rfl, h9⟩
    obtain rfl := h9.symm
    refine T.if_ne (tgt := 111) (q := 34) dX1_condition_31 (by decide) rfl (fun h31 => ?_) (fun h31 => ?_)
    · replace h := s_f (fun q => h31 q.2) h
      refine T.lld_2 (q := 112) dX1_condition_111 rfl ?_
      refine T.lld_4 (q := 114) dX1_condition_112 rfl ?_
      refine T.lor (q := 115) dX1_condition_114 rfl ?_
      exact T.retL rfl dX1_condition_115 hc0 hs0 h
    · replace h := s_t ⟨h21, h31⟩ h
      refine T.ald_0 (q := 35) dX1_condition_34 rfl ?_
      refine g_X1_9 rfl dX1_condition_35 (q := 38) rfl ?_
      refine T.ldcS (q := 40) "and" 18 dX1_condition_38 rfl (by decide +kernel) ?_
      refine k_X1_59 rfl dX1_condition_40 (q := 43) rfl (by omega) hc0 hs0 (Nat.le_of_ble_eq_true rfl) (t_X6_is ((by decide)) h) ?_
      rintro r40 _ ⟨h, h9⟩
      obtain rfl := h9.symm
      refine T.if_eq (tgt := 66) (q := 46) dX1_condition_43 (by decide) rfl (fun h43 => ?_) (fun h43 => ?_)
      · replace h := s_f (fun q => q h43) h
        refine T.ald_0 (q := 67) dX1_condition_66 rfl ?_
        refine g_X1_9 rfl dX1_condition_67 (q := 70) rfl ?_
        refine T.ldcS (q := 72) "or" 19 dX1_condition_70 rfl (by decide +kernel) ?_
        refine k_X1_59 rfl dX1_condition_72 (q := 75) rfl (by omega) hc0 hs0 (Nat.le_of_ble_eq_true rfl) (t_X6_is ((by decide)) h) ?_
        rintro r72 _ ⟨h, h9⟩
        obtain rfl := h9.symm
        refine T.if_eq (tgt := 100) (q := 78) dX1_condition_75 (by decide) rfl (fun h75 => ?_) (fun h75 => ?_)
        · replace h := s_f (fun q => q h75) h
          refine T.lld_2 (q := 101) dX1_condition_100 rfl ?_
          refine T.lld_4 (q := 103) dX1_condition_101 rfl ?_
          refine T.lor (q := 104) dX1_condition_103 rfl ?_
          exact T.retL rfl dX1_condition_104 hc0 hs0 h
        · replace h := s_t h75 h
          refine T.ald_0 (q := 79) dX1_condition_78 rfl ?_
          refine g_X1_9 rfl dX1_condition_79 (q := 82) rfl ?_
          refine k_X1_65 rfl dX1_condition_82 (q := 85) rfl (by omega) hc0 hs0 (Nat.le_of_ble_eq_true rfl) (t_X6_step  h) ?_
          intro M82 h
          refine T.lld_2 (q := 86) dX1_condition_85 rfl ?_
          refine T.lld_4 (q := 88) dX1_condition_86 rfl ?_
          refine T.lor (q := 89) dX1_condition_88 rfl ?_
          refine T.lst_2 (q := 90) dX1_condition_89 rfl (by decide) sk_ok_i ?_
          refine S.l2 h ?_
          intro y89 h
          refine T.ald_0 (q := 91) dX1_condition_90 rfl ?_
          refine T.ild_1 (q := 92) dX1_condition_91 rfl ?_
          refine k_X1_83 rfl dX1_condition_92 (q := 95) rfl (by omega) hc0 hs0 (Nat.le_of_ble_eq_true rfl) (hA  h) ?_
          intro r92 M92 h
          refine T.lst_4 (q := 97) dX1_condition_95 rfl (by decide) sk_ok_n ?_
          refine T.goto (tgt := 105) dX1_condition_97 (by decide) ?_
          refine T.inc_6 (q := 108) (1) dX1_condition_105 rfl (by decide) (by decide) sk_ok_n ?_
          refine T.goto (tgt := 12) dX1_condition_108 (by decide) ?_
          exact hc9 (y89, r92, (s12.2.2.1 + (1 : Int32)), M92) h
      · replace h := s_t h43 h
        refine T.ald_0 (q := 47) dX1_condition_46 rfl ?_
        refine g_X1_9 rfl dX1_condition_47 (q := 50) rfl ?_
        refine k_X1_65 rfl dX1_condition_50 (q := 53) rfl (by omega) hc0 hs0 (Nat.le_of_ble_eq_true rfl) (t_X6_step  h) ?_
        intro M50 h
        refine T.lld_4 (q := 55) dX1_condition_53 rfl ?_
        refine T.ald_0 (q := 56) dX1_condition_55 rfl ?_
        refine T.ild_1 (q := 57) dX1_condition_56 rfl ?_
        refine k_X1_83 rfl dX1_condition_57 (q := 60) rfl (by omega) hc0 hs0 (Nat.le_of_ble_eq_true rfl) (hA  h) ?_
        intro r57 M57 h
        refine T.land (q := 61) dX1_condition_60 rfl ?_
        refine T.lst_4 (q := 63) dX1_condition_61 rfl (by decide) sk_ok_n ?_
        refine S.l4 h ?_
        intro y61 h
        refine T.goto (tgt := 105) dX1_condition_63 (by decide) ?_
        refine T.inc_6 (q := 108) (1) dX1_condition_105 rfl (by decide) (by decide) sk_ok_n ?_
        refine T.goto (tgt := 12) dX1_condition_108 (by decide) ?_
        exact hc9 (s12.1, y61, (s12.2.2.1 + (1 : Int32)), M57) h
theorem t_X1_condition {G : sk_G} {M : sk_M} {dA : Nat} {A : Int32 → sk_M → (Int64 → sk_M → Prop) → Prop} {a1 : Int32} (hdA : 10 ≤ dA) (hA : ∀ {M : sk_M} {a1 : Int32} {Q : Int64 → sk_M → Prop}, A a1 M Q → Ctr G mX1_atom dA 0 0 [.ref (G.2.2.1 126), .int a1] M (rL Q) noX) {Q : Int64 → sk_M → Prop} (h : w_X1_condition A a1 M Q) : Ctr G mX1_condition (dA + 1) 0 0 [.ref (G.2.2.1 126), .int a1] M (rL Q) noX := by
  unfold w_X1_condition at h
  refine Ctr.of 5 (by decide) (Nat.le_of_ble_eq_true rfl) ?_
  show TJ G mX1_condition (sk_R (dA + 1) 0 0) (sk_K G 0 0 (rL Q) noX) 0 0 0 [some (.ref (G.2.2.1 126)), some (.int a1), none, none, none, none, none] [] M
  refine T.lconst (q := 1) (0) dX1_condition_0 rfl (by decide) ?_
  refine T.lst_2 (q := 2) dX1_condition_1 rfl (by decide) sk_ok_i ?_
  refine T.ald_0 (q := 3) dX1_condition_2 rfl ?_
  refine T.ild_1 (q := 4) dX1_condition_3 rfl ?_
  refine k_X1_83 rfl dX1_condition_4 (q := 7) rfl (by omega) (by decide) (by decide) (Nat.le_of_ble_eq_true rfl) (hA  h) ?_
  intro r4 M4 h
  refine T.lst_4 (q := 9) dX1_condition_7 rfl (by decide) sk_ok_n ?_
  refine T.iconst (q := 10) (0) dX1_condition_9 rfl (by decide) ?_
  refine T.ist_6 (q := 12) dX1_condition_10 rfl (by decide) sk_ok_n ?_
  exact tl_X1_condition_L12 hdA hA (by decide) (by decide) _ ((0 : Int64), r4, (0 : Int32), M4) h
theorem t_X1_atom {G : sk_G} {M : sk_M} {dA : Nat} {A : Int32 → sk_M → (Int64 → sk_M → Prop) → Prop} {a1 : Int32} (hdA : 10 ≤ dA) (hA : ∀ {M : sk_M} {a1 : Int32} {Q : Int64 → sk_M → Prop}, A a1 M Q → Ctr G mX1_atom dA 0 0 [.ref (G.2.2.1 126), .int a1] M (rL Q) noX) {Q : Int64 → sk_M → Prop} (h : w_X1_atom A a1 M Q) : Ctr G mX1_atom (dA + 2) 0 0 [.ref (G.2.2.1 126), .int a1] M (rL Q) noX := by
  unfold w_X1_atom at h
  refine Ctr.of 3 (by decide) (Nat.le_of_ble_eq_true rfl) ?_
  show TJ G mX1_atom (sk_R (dA + 2) 0 0) (sk_K G 0 0 (rL Q) noX) 0 0 0 [some (.ref (G.2.2.1 126)), some (.int a1), none, none, none] [] M
  refine T.ald_0 (q := 1) dX1_atom_0 rfl ?_
  refine g_X1_9 rfl dX1_atom_1 (q := 4) rfl ?_
  refine T.ldcS (q := 6) "not" 11 dX1_atom_4 rfl (by decide +kernel) ?_
  refine k_X1_59 rfl dX1_atom_6 (q := 9) rfl (by omega) (by decide) (by decide) (Nat.le_of_ble_eq_true rfl) (t_X6_is ((by decide)) h) ?_
  rintro r6 _ ⟨h, h9⟩
  obtain rfl := h9.symm
  refine T.ist_2 (q := 10) dX1_atom_9 rfl (by decide) sk_ok_i ?_
  refine T.ild_2 (q := 11) dX1_atom_10 rfl ?_
  refine s_join (fun s26_11 : sk_M => TJ G mX1_atom (sk_R (dA + 2) 0 0) (sk_K G 0 0 (rL Q) noX) 0 0 26 [some (.ref (G.2.2.1 126)), some (.int a1), some (.int r6), none, none] [] s26_11) h (fun s26_11 h => ?_) (fun j26_11 hj26_11 h => ?_)
  · refine T.ild_1 (q := 27) dX1_atom_26 rfl ?_
    refine T.bipush (q := 29) (6) dX1_atom_27 rfl (by decide) ?_
    refine T.ic_lt (tgt := 42) (q := 32) dX1_atom_29 (by decide) rfl (fun h29 => ?_) (fun h29 => ?_)
    · replace h := s_f (fun q => q h29) h
      refine T.ald_0 (q := 43) dX1_atom_42 rfl ?_
      refine g_X1_9 rfl dX1_atom_43 (q := 46) rfl ?_
      refine k_X1_65 rfl dX1_atom_46 (q := 49) rfl (by omega) (by decide) (by decide) (Nat.le_of_ble_eq_true rfl) (t_X6_step  h) ?_
      intro M46 h
      refine T.ild_2 (q := 50) dX1_atom_49 rfl ?_
      refine T.if_eq (tgt := 69) (q := 53) dX1_atom_50 (by decide) rfl (fun h50 => ?_) (fun h50 => ?_)
      · replace h := s_f (fun q => q h50) h
        refine T.ald_0 (q := 70) dX1_atom_69 rfl ?_
        refine T.ild_1 (q := 71) dX1_atom_70 rfl ?_
        refine T.iconst (q := 72) (1) dX1_atom_71 rfl (by decide) ?_
        refine T.iadd (q := 73) dX1_atom_72 rfl ?_
        refine k_X1_79 rfl dX1_atom_73 (q := 76) rfl (by omega) (by decide) (by decide) (Nat.le_of_ble_eq_true rfl) (t_X1_condition hdA hA  h) ?_
        intro r73 M73 h
        refine T.lst_3 (q := 77) dX1_atom_76 rfl (by decide) sk_ok_i ?_
        refine T.ald_0 (q := 78) dX1_atom_77 rfl ?_
        refine g_X1_9 rfl dX1_atom_78 (q := 81) rfl ?_
        refine k_X1_74 rfl dX1_atom_81 (q := 84) rfl (by omega) (by decide) (by decide) (Nat.le_of_ble_eq_true rfl) (t_X6_isWrong (P := fun r9 => r9 = (f_X6_isWrong M73)) rfl) ?_
        rintro _ _ ⟨rfl, h9⟩
        obtain rfl := h9.symm
        refine T.if_ne (tgt := 97) (q := 87) dX1_atom_84 (by decide) rfl (fun h84 => ?_) (fun h84 => ?_)
        · replace h := s_f h84 h
          refine T.lld_3 (q := 98) dX1_atom_97 rfl ?_
          exact T.retL rfl dX1_atom_98 (by decide) (by decide) h
        · replace h := s_t h84 h
          refine T.ald_0 (q := 88) dX1_atom_87 rfl ?_
          refine g_X1_9 rfl dX1_atom_88 (q := 91) rfl ?_
          refine T.bipush (q := 93) (41) dX1_atom_91 rfl (by decide) ?_
          refine k_X1_50 rfl dX1_atom_93 (q := 96) rfl (by omega) (by decide) (by decide) (Nat.le_of_ble_eq_true rfl) (t_X6_passSign  h) ?_
          intro r93 M93 h
          refine T.pop (q := 97) dX1_atom_96 rfl rfl ?_
          refine T.lld_3 (q := 98) dX1_atom_97 rfl ?_
          exact T.retL rfl dX1_atom_98 (by decide) (by decide) h
      · replace h := s_t h50 h
        refine T.ldc2 (q := 56) (68719476735) dX1_atom_53 rfl w_X1_c72 ?_
        refine T.ald_0 (q := 57) dX1_atom_56 rfl ?_
        refine T.ild_1 (q := 58) dX1_atom_57 rfl ?_
        refine T.iconst (q := 59) (1) dX1_atom_58 rfl (by decide) ?_
        refine T.iadd (q := 60) dX1_atom_59 rfl ?_
        refine k_X1_83 rfl dX1_atom_60 (q := 63) rfl (by omega) (by decide) (by decide) (Nat.le_of_ble_eq_true rfl) (hA  h) ?_
        intro r60 M60 h
        refine T.ldc2 (q := 66) (-1) dX1_atom_63 rfl w_X1_c98 ?_
        refine T.lxor (q := 67) dX1_atom_66 rfl ?_
        refine T.land (q := 68) dX1_atom_67 rfl ?_
        exact T.retL rfl dX1_atom_68 (by decide) (by decide) h
    · replace h := s_t h29 h
      refine T.ald_0 (q := 33) dX1_atom_32 rfl ?_
      refine g_X1_9 rfl dX1_atom_33 (q := 36) rfl ?_
      refine k_X1_54 rfl dX1_atom_36 (q := 39) rfl (by omega) (by decide) (by decide) (Nat.le_of_ble_eq_true rfl) (t_X6_refuse  h) ?_
      intro r36 M36 h
      refine T.pop (q := 40) dX1_atom_39 rfl rfl ?_
      refine T.lconst (q := 41) (0) dX1_atom_40 rfl (by decide) ?_
      exact T.retL rfl dX1_atom_41 (by decide) (by decide) h
  · refine T.if_ne (tgt := 26) (q := 14) dX1_atom_11 (by decide) rfl (fun h11 => ?_) (fun h11 => ?_)
    · replace h := s_f h11 h
      exact hj26_11 M h
    · replace h := s_t h11 h
      refine T.ald_0 (q := 15) dX1_atom_14 rfl ?_
      refine g_X1_9 rfl dX1_atom_15 (q := 18) rfl ?_
      refine T.bipush (q := 20) (40) dX1_atom_18 rfl (by decide) ?_
      refine k_X1_95 rfl dX1_atom_20 (q := 23) rfl (by omega) (by decide) (by decide) (Nat.le_of_ble_eq_true rfl) (t_X6_isSign  h) ?_
      rintro r20 _ ⟨h, h9⟩
      obtain rfl := h9.symm
      refine T.if_eq (tgt := 99) (q := 26) dX1_atom_23 (by decide) rfl (fun h23 => ?_) (fun h23 => ?_)
      · replace h := s_f (fun q => q h23) h
        refine T.ald_0 (q := 100) dX1_atom_99 rfl ?_
        refine g_X1_9 rfl dX1_atom_100 (q := 103) rfl ?_
        refine T.ldcS (q := 105) "same" 12 dX1_atom_103 rfl (by decide +kernel) ?_
        refine k_X1_59 rfl dX1_atom_105 (q := 108) rfl (by omega) (by decide) (by decide) (Nat.le_of_ble_eq_true rfl) (t_X6_is ((by decide)) h) ?_
        rintro r105 _ ⟨h, h9⟩
        obtain rfl := h9.symm
        refine s_join (fun s123_108 : sk_M => TJ G mX1_atom (sk_R (dA + 2) 0 0) (sk_K G 0 0 (rL Q) noX) 0 0 123 [some (.ref (G.2.2.1 126)), none, none, none, none] [] s123_108) h (fun s123_108 h => ?_) (fun j123_108 hj123_108 h => ?_)
        · refine T.ald_0 (q := 124) dX1_atom_123 rfl ?_
          refine g_X1_9 rfl dX1_atom_124 (q := 127) rfl ?_
          refine T.ldcS (q := 129) "same" 12 dX1_atom_127 rfl (by decide +kernel) ?_
          refine k_X1_59 rfl dX1_atom_129 (q := 132) rfl (by omega) (by decide) (by decide) (Nat.le_of_ble_eq_true rfl) (t_X6_is ((by decide)) h) ?_
          rintro r129 _ ⟨h, h9⟩
          obtain rfl := h9.symm
          refine s_dia (fun s140_132 : Int32 => TJ G mX1_atom (sk_R (dA + 2) 0 0) (sk_K G 0 0 (rL Q) noX) 0 0 140 [some (.ref (G.2.2.1 126)), none, none, none, none] [.int s140_132] s123_108) h (fun s140_132 h => ?_) (fun k9 hJ9 h => ?_)
          · refine T.ist_3 (q := 141) dX1_atom_140 rfl (by decide) sk_ok_n ?_
            refine T.ald_0 (q := 142) dX1_atom_141 rfl ?_
            refine g_X1_9 rfl dX1_atom_142 (q := 145) rfl ?_
            refine k_X1_65 rfl dX1_atom_145 (q := 148) rfl (by omega) (by decide) (by decide) (Nat.le_of_ble_eq_true rfl) (t_X6_step  h) ?_
            intro M145 h
            refine T.ild_3 (q := 149) dX1_atom_148 rfl ?_
            refine k_X1_104 rfl dX1_atom_149 (q := 152) rfl (by omega) (by decide) (by decide) (Nat.le_of_ble_eq_true rfl) (t_X1_whereApart  h) ?_
            rintro r149 _ ⟨h, h9⟩
            obtain rfl := h9.symm
            exact T.retL rfl dX1_atom_152 (by decide) (by decide) h
          · refine T.if_eq (tgt := 139) (q := 135) dX1_atom_132 (by decide) rfl (fun h132 => ?_) (fun h132 => ?_)
            · replace h := s_fk (fun q => q h132) h
              refine T.iconst (q := 140) (1) dX1_atom_139 rfl (by decide) ?_
              exact hJ9 _ h
            · replace h := s_tk h132 h
              refine T.iconst (q := 136) (0) dX1_atom_135 rfl (by decide) ?_
              refine T.goto (tgt := 140) dX1_atom_136 (by decide) ?_
              exact hJ9 _ h
        · refine T.if_ne (tgt := 123) (q := 111) dX1_atom_108 (by decide) rfl (fun h108 => ?_) (fun h108 => ?_)
          · replace h := s_f h108 h
            refine T.drop_1 ?_
            refine T.drop_2 ?_
            exact hj123_108 M h
          · replace h := s_t h108 h
            refine T.ald_0 (q := 112) dX1_atom_111 rfl ?_
            refine g_X1_9 rfl dX1_atom_112 (q := 115) rfl ?_
            refine T.ldcS (q := 117) "next" 13 dX1_atom_115 rfl (by decide +kernel) ?_
            refine k_X1_59 rfl dX1_atom_117 (q := 120) rfl (by omega) (by decide) (by decide) (Nat.le_of_ble_eq_true rfl) (t_X6_is ((by decide)) h) ?_
            rintro r117 _ ⟨h, h9⟩
            obtain rfl := h9.symm
            refine T.if_eq (tgt := 153) (q := 123) dX1_atom_120 (by decide) rfl (fun h120 => ?_) (fun h120 => ?_)
            · replace h := s_f (fun q => q h120) h
              refine T.ald_0 (q := 154) dX1_atom_153 rfl ?_
              refine T.ald_0 (q := 155) dX1_atom_154 rfl ?_
              refine g_X1_19 rfl dX1_atom_155 (q := 158) rfl ?_
              refine k_X1_107 rfl dX1_atom_158 (q := 161) rfl (by omega) (by decide) (by decide) (Nat.le_of_ble_eq_true rfl) (t_X1_sum (⟨rfl, rfl, by decide⟩) h) ?_
              intro M158 h
              refine T.ald_0 (q := 162) dX1_atom_161 rfl ?_
              refine g_X1_9 rfl dX1_atom_162 (q := 165) rfl ?_
              refine T.bipush (q := 167) (60) dX1_atom_165 rfl (by decide) ?_
              refine k_X1_95 rfl dX1_atom_167 (q := 170) rfl (by omega) (by decide) (by decide) (Nat.le_of_ble_eq_true rfl) (t_X6_isSign  h) ?_
              rintro r167 _ ⟨h, h9⟩
              obtain rfl := h9.symm
              refine T.ist_3 (q := 171) dX1_atom_170 rfl (by decide) sk_ok_i ?_
              refine T.ald_0 (q := 172) dX1_atom_171 rfl ?_
              refine g_X1_9 rfl dX1_atom_172 (q := 175) rfl ?_
              refine k_X1_74 rfl dX1_atom_175 (q := 178) rfl (by omega) (by decide) (by decide) (Nat.le_of_ble_eq_true rfl) (t_X6_isWrong (P := fun r9 => r9 = (f_X6_isWrong M158)) rfl) ?_
              rintro _ _ ⟨rfl, h9⟩
              obtain rfl := h9.symm
              refine T.if_ne (tgt := 197) (q := 181) dX1_atom_178 (by decide) rfl (fun h178 => ?_) (fun h178 => ?_)
              · replace h := s_f h178 h
                refine T.ald_0 (q := 198) dX1_atom_197 rfl ?_
                refine g_X1_9 rfl dX1_atom_198 (q := 201) rfl ?_
                refine k_X1_54 rfl dX1_atom_201 (q := 204) rfl (by omega) (by decide) (by decide) (Nat.le_of_ble_eq_true rfl) (t_X6_refuse  h) ?_
                intro r201 M201 h
                refine T.pop (q := 205) dX1_atom_204 rfl rfl ?_
                refine T.lconst (q := 206) (0) dX1_atom_205 rfl (by decide) ?_
                exact T.retL rfl dX1_atom_206 (by decide) (by decide) h
              · replace h := s_t h178 h
                refine T.ild_3 (q := 182) dX1_atom_181 rfl ?_
                refine s_join (fun s207_182 : sk_M => TJ G mX1_atom (sk_R (dA + 2) 0 0) (sk_K G 0 0 (rL Q) noX) 0 0 207 [some (.ref (G.2.2.1 126)), none, none, some (.int r167), none] [] s207_182) h (fun s207_182 h => ?_) (fun j207_182 hj207_182 h => ?_)
                · refine T.ald_0 (q := 208) dX1_atom_207 rfl ?_
                  refine g_X1_9 rfl dX1_atom_208 (q := 211) rfl ?_
                  refine k_X1_65 rfl dX1_atom_211 (q := 214) rfl (by omega) (by decide) (by decide) (Nat.le_of_ble_eq_true rfl) (t_X6_step  h) ?_
                  intro M211 h
                  refine T.ald_0 (q := 215) dX1_atom_214 rfl ?_
                  refine T.ald_0 (q := 216) dX1_atom_215 rfl ?_
                  refine g_X1_22 rfl dX1_atom_216 (q := 219) rfl ?_
                  refine k_X1_107 rfl dX1_atom_219 (q := 222) rfl (by omega) (by decide) (by decide) (Nat.le_of_ble_eq_true rfl) (t_X1_sum (⟨rfl, rfl, by decide⟩) h) ?_
                  intro M219 h
                  refine T.ild_3 (q := 223) dX1_atom_222 rfl ?_
                  refine T.if_eq (tgt := 240) (q := 226) dX1_atom_223 (by decide) rfl (fun h223 => ?_) (fun h223 => ?_)
                  · replace h := s_f (fun q => q h223) h
                    refine T.ald_0 (q := 241) dX1_atom_240 rfl ?_
                    refine g_X1_22 rfl dX1_atom_241 (q := 244) rfl ?_
                    refine T.ald_0 (q := 245) dX1_atom_244 rfl ?_
                    refine g_X1_19 rfl dX1_atom_245 (q := 248) rfl ?_
                    refine k_X1_111 rfl dX1_atom_248 (q := 251) rfl (by omega) (by decide) (by decide) (Nat.le_of_ble_eq_true rfl) (t_X1_whereLess (⟨rfl, rfl, by decide⟩) (⟨rfl, rfl, by decide⟩) h) ?_
                    rintro r248 _ ⟨h, h9⟩
                    obtain rfl := h9.symm
                    exact T.retL rfl dX1_atom_251 (by decide) (by decide) h
                  · replace h := s_t h223 h
                    refine T.ald_0 (q := 227) dX1_atom_226 rfl ?_
                    refine g_X1_19 rfl dX1_atom_227 (q := 230) rfl ?_
                    refine T.ald_0 (q := 231) dX1_atom_230 rfl ?_
                    refine g_X1_22 rfl dX1_atom_231 (q := 234) rfl ?_
                    refine k_X1_111 rfl dX1_atom_234 (q := 237) rfl (by omega) (by decide) (by decide) (Nat.le_of_ble_eq_true rfl) (t_X1_whereLess (⟨rfl, rfl, by decide⟩) (⟨rfl, rfl, by decide⟩) h) ?_
                    rintro r234 _ ⟨h, h9⟩
                    obtain rfl := h9.symm
                    refine T.goto (tgt := 251) dX1_atom_237 (by decide) ?_
                    exact T.retL rfl dX1_atom_251 (by decide) (by decide) h
                · refine T.if_ne (tgt := 207) (q := 185) dX1_atom_182 (by decide) rfl (fun h182 => ?_) (fun h182 => ?_)
                  · replace h := s_f h182 h
                    refine T.drop_1 ?_
                    refine T.drop_2 ?_
                    exact hj207_182 M158 h
                  · replace h := s_t h182 h
                    refine T.ald_0 (q := 186) dX1_atom_185 rfl ?_
                    refine g_X1_9 rfl dX1_atom_186 (q := 189) rfl ?_
                    refine T.bipush (q := 191) (62) dX1_atom_189 rfl (by decide) ?_
                    refine k_X1_95 rfl dX1_atom_191 (q := 194) rfl (by omega) (by decide) (by decide) (Nat.le_of_ble_eq_true rfl) (t_X6_isSign  h) ?_
                    rintro r191 _ ⟨h, h9⟩
                    obtain rfl := h9.symm
                    refine T.if_ne (tgt := 207) (q := 197) dX1_atom_194 (by decide) rfl (fun h194 => ?_) (fun h194 => ?_)
                    · replace h := s_f h194 h
                      refine T.drop_1 ?_
                      refine T.drop_2 ?_
                      exact hj207_182 M158 h
                    · replace h := s_t h194 h
                      refine T.ald_0 (q := 198) dX1_atom_197 rfl ?_
                      refine g_X1_9 rfl dX1_atom_198 (q := 201) rfl ?_
                      refine k_X1_54 rfl dX1_atom_201 (q := 204) rfl (by omega) (by decide) (by decide) (Nat.le_of_ble_eq_true rfl) (t_X6_refuse  h) ?_
                      intro r201 M201 h
                      refine T.pop (q := 205) dX1_atom_204 rfl rfl ?_
                      refine T.lconst (q := 206) (0) dX1_atom_205 rfl (by decide) ?_
                      exact T.retL rfl dX1_atom_206 (by decide) (by decide) h
            · replace h := s_t h120 h
              refine T.drop_1 ?_
              refine T.drop_2 ?_
              exact hj123_108 M h
      · replace h := s_t h23 h
        exact hj26_11 M h
theorem t_X1_atomN {G : sk_G} (n : Nat) : ∀ {M : sk_M} {a1 : Int32} {Q : Int64 → sk_M → Prop}, w_X1_atomN n a1 M Q → Ctr G mX1_atom (10 + 2 * n) 0 0 [.ref (G.2.2.1 126), .int a1] M (rL Q) noX := by
  induction n with
  | zero => intro M a1 Q h; exact h.elim
  | succ n ih =>
    intro M a1 Q h
    exact t_X1_atom (dA := 10 + 2 * n) (by omega) ih h
theorem tl_X1_line_L105 {G : sk_G} {cells slots : Nat} {r6 : Int32} {r47 : Int32} {s90_62 : Int64 × sk_M} {Q : Int32 → sk_M → Prop}  (hc0 : cells ≤ 0) (hs0 : slots ≤ 0) : ∀ (F : Nat) (s105 : Int32 × sk_M), lp (w_X1_line_L105 r6 r47 s90_62 Q) F s105 → TJ G mX1_line (sk_R 28 0 0) (sk_K G 0 0 (rI Q) noX) cells slots 105 [some (.ref (G.2.2.1 126)), some (.int r6), some (.int r47), some (.long s90_62.1), none, some (.int s105.1)] [] s105.2 := by
  refine lp_sound (fun c hc9 s105 h => ?_)
  unfold w_X1_line_L105 at h
  refine T.ild_5 (q := 107) dX1_line_105 rfl ?_
  refine T.bipush (q := 109) (36) dX1_line_107 rfl (by decide) ?_
  refine T.ic_ge (tgt := 157) (q := 112) dX1_line_109 (by decide) rfl (fun h109 => ?_) (fun h109 => ?_)
  · replace h := s_f (fun q => q h109) h
    refine T.iconst (q := 158) (1) dX1_line_157 rfl (by decide) ?_
    exact T.retZ rfl dX1_line_158 hc0 hs0 rfl h
  · replace h := s_t h109 h
    refine T.lld_3 (q := 113) dX1_line_112 rfl ?_
    refine T.ild_5 (q := 115) dX1_line_113 rfl ?_
    refine T.lshr (q := 116) dX1_line_115 rfl ?_
    refine T.lconst (q := 117) (1) dX1_line_116 rfl (by decide) ?_
    refine T.land (q := 118) dX1_line_117 rfl ?_
    refine T.lconst (q := 119) (1) dX1_line_118 rfl (by decide) ?_
    refine T.lcmp (q := 120) dX1_line_119 rfl ?_
    refine T.if_ne (tgt := 151) (q := 123) dX1_line_120 (by decide) rfl (fun h120 => ?_) (fun h120 => ?_)
    · replace h := s_f h120 h
      refine T.inc_5 (q := 154) (1) dX1_line_151 rfl (by decide) (by decide) sk_ok_n ?_
      refine T.goto (tgt := 105) dX1_line_154 (by decide) ?_
      exact hc9 ((s105.1 + (1 : Int32)), s105.2) h
    · replace h := s_t h120 h
      refine T.ald_0 (q := 124) dX1_line_123 rfl ?_
      refine g_X1_15 rfl dX1_line_124 (q := 127) rfl ?_
      refine T.ald_0 (q := 128) dX1_line_127 rfl ?_
      refine g_X1_31 rfl dX1_line_128 (q := 131) rfl ?_
      refine T.bipush (q := 133) (36) dX1_line_131 rfl (by decide) ?_
      refine T.imul (q := 134) dX1_line_133 rfl ?_
      refine T.ild_5 (q := 136) dX1_line_134 rfl ?_
      refine T.iadd (q := 137) dX1_line_136 rfl ?_
      refine T.dup2 (q := 138) dX1_line_137 rfl rfl rfl ?_
      refine T.iald (n := 108) rfl rfl (by decide) dX1_line_138 (q := 139) rfl h.1 ?_
      replace h := h.2
      refine T.ild_1 (q := 140) dX1_line_139 rfl ?_
      refine T.if_eq (tgt := 148) (q := 143) dX1_line_140 (by decide) rfl (fun h140 => ?_) (fun h140 => ?_)
      · replace h := s_f (fun q => q h140) h
        refine T.ild_2 (q := 149) dX1_line_148 rfl ?_
        refine T.iadd (q := 150) dX1_line_149 rfl ?_
        refine T.iast (n := 108) rfl rfl (by decide) dX1_line_150 (q := 151) rfl h.1 ?_
        refine S.mem h.2 ?_
        intro M150 h
        refine T.inc_5 (q := 154) (1) dX1_line_151 rfl (by decide) (by decide) sk_ok_n ?_
        refine T.goto (tgt := 105) dX1_line_154 (by decide) ?_
        exact hc9 ((s105.1 + (1 : Int32)), M150) h
      · replace h := s_t h140 h
        refine T.ild_2 (q := 144) dX1_line_143 rfl ?_
        refine T.ineg (q := 145) dX1_line_144 rfl ?_
        refine T.goto (tgt := 149) dX1_line_145 (by decide) ?_
        refine T.iadd (q := 150) dX1_line_149 rfl ?_
        refine T.iast (n := 108) rfl rfl (by decide) dX1_line_150 (q := 151) rfl h.1 ?_
        refine S.mem h.2 ?_
        intro M150 h
        refine T.inc_5 (q := 154) (1) dX1_line_151 rfl (by decide) (by decide) sk_ok_n ?_
        refine T.goto (tgt := 105) dX1_line_154 (by decide) ?_
        exact hc9 ((s105.1 + (1 : Int32)), M150) h
theorem t_X1_line {G : sk_G} {M : sk_M}   {Q : Int32 → sk_M → Prop} (h : w_X1_line  M Q) : Ctr G mX1_line 28 0 0 [.ref (G.2.2.1 126)] M (rI Q) noX := by
  unfold w_X1_line at h
  refine Ctr.of 5 (by decide) (Nat.le_of_ble_eq_true rfl) ?_
  show TJ G mX1_line (sk_R 28 0 0) (sk_K G 0 0 (rI Q) noX) 0 0 0 [some (.ref (G.2.2.1 126)), none, none, none, none, none] [] M
  refine T.ald_0 (q := 1) dX1_line_0 rfl ?_
  refine g_X1_9 rfl dX1_line_1 (q := 4) rfl ?_
  refine T.ldcS (q := 6) "mute" 9 dX1_line_4 rfl (by decide +kernel) ?_
  refine k_X1_59 rfl dX1_line_6 (q := 9) rfl (by decide) (by decide) (by decide) (Nat.le_of_ble_eq_true rfl) (t_X6_is ((by decide)) h) ?_
  rintro r6 _ ⟨h, h9⟩
  obtain rfl := h9.symm
  refine T.ist_1 (q := 10) dX1_line_9 rfl (by decide) sk_ok_r ?_
  refine T.ild_1 (q := 11) dX1_line_10 rfl ?_
  refine s_join (fun s34_11 : sk_M => TJ G mX1_line (sk_R 28 0 0) (sk_K G 0 0 (rI Q) noX) 0 0 34 [some (.ref (G.2.2.1 126)), some (.int r6), none, none, none, none] [] s34_11) h (fun s34_11 h => ?_) (fun j34_11 hj34_11 h => ?_)
  · refine T.ald_0 (q := 35) dX1_line_34 rfl ?_
    refine g_X1_9 rfl dX1_line_35 (q := 38) rfl ?_
    refine k_X1_65 rfl dX1_line_38 (q := 41) rfl (by decide) (by decide) (by decide) (Nat.le_of_ble_eq_true rfl) (t_X6_step  h) ?_
    intro M38 h
    refine T.ald_0 (q := 42) dX1_line_41 rfl ?_
    refine g_X1_9 rfl dX1_line_42 (q := 45) rfl ?_
    refine T.bipush (q := 47) (99) dX1_line_45 rfl (by decide) ?_
    refine k_X1_68 rfl dX1_line_47 (q := 50) rfl (by decide) (by decide) (by decide) (Nat.le_of_ble_eq_true rfl) (t_X6_numberUpTo  h) ?_
    intro r47 M47 h
    refine T.ist_2 (q := 51) dX1_line_50 rfl (by decide) sk_ok_i ?_
    refine T.ldc2 (q := 54) (68719476735) dX1_line_51 rfl w_X1_c72 ?_
    refine T.lst_3 (q := 55) dX1_line_54 rfl (by decide) sk_ok_i ?_
    refine T.ald_0 (q := 56) dX1_line_55 rfl ?_
    refine g_X1_9 rfl dX1_line_56 (q := 59) rfl ?_
    refine k_X1_74 rfl dX1_line_59 (q := 62) rfl (by decide) (by decide) (by decide) (Nat.le_of_ble_eq_true rfl) (t_X6_isWrong (P := fun r9 => r9 = (f_X6_isWrong M47)) rfl) ?_
    rintro _ _ ⟨rfl, h9⟩
    obtain rfl := h9.symm
    refine s_join (fun s90_62 : Int64 × sk_M => TJ G mX1_line (sk_R 28 0 0) (sk_K G 0 0 (rI Q) noX) 0 0 90 [some (.ref (G.2.2.1 126)), some (.int r6), some (.int r47), some (.long s90_62.1), none, none] [] s90_62.2) h (fun s90_62 h => ?_) (fun j90_62 hj90_62 h => ?_)
    · refine T.ald_0 (q := 91) dX1_line_90 rfl ?_
      refine g_X1_9 rfl dX1_line_91 (q := 94) rfl ?_
      refine k_X1_74 rfl dX1_line_94 (q := 97) rfl (by decide) (by decide) (by decide) (Nat.le_of_ble_eq_true rfl) (t_X6_isWrong (P := fun r9 => r9 = (f_X6_isWrong s90_62.2)) rfl) ?_
      rintro _ _ ⟨rfl, h9⟩
      obtain rfl := h9.symm
      refine T.if_eq (tgt := 102) (q := 100) dX1_line_97 (by decide) rfl (fun h97 => ?_) (fun h97 => ?_)
      · replace h := s_f (fun q => q h97) h
        refine T.iconst (q := 103) (0) dX1_line_102 rfl (by decide) ?_
        refine T.ist_5 (q := 105) dX1_line_103 rfl (by decide) sk_ok_n ?_
        exact tl_X1_line_L105  (by decide) (by decide) _ ((0 : Int32), s90_62.2) h
      · replace h := s_t h97 h
        refine T.iconst (q := 101) (0) dX1_line_100 rfl (by decide) ?_
        exact T.retZ rfl dX1_line_101 (by decide) (by decide) rfl h
    · refine T.if_ne (tgt := 90) (q := 65) dX1_line_62 (by decide) rfl (fun h62 => ?_) (fun h62 => ?_)
      · replace h := s_f h62 h
        exact hj90_62 ((68719476735 : Int64), M47) h
      · replace h := s_t h62 h
        refine T.ald_0 (q := 66) dX1_line_65 rfl ?_
        refine g_X1_9 rfl dX1_line_66 (q := 69) rfl ?_
        refine T.ldcS (q := 71) "if" 10 dX1_line_69 rfl (by decide +kernel) ?_
        refine k_X1_59 rfl dX1_line_71 (q := 74) rfl (by decide) (by decide) (by decide) (Nat.le_of_ble_eq_true rfl) (t_X6_is ((by decide)) h) ?_
        rintro r71 _ ⟨h, h9⟩
        obtain rfl := h9.symm
        refine T.if_eq (tgt := 90) (q := 77) dX1_line_74 (by decide) rfl (fun h74 => ?_) (fun h74 => ?_)
        · replace h := s_f (fun q => q h74) h
          exact hj90_62 ((68719476735 : Int64), M47) h
        · replace h := s_t h74 h
          refine T.ald_0 (q := 78) dX1_line_77 rfl ?_
          refine g_X1_9 rfl dX1_line_78 (q := 81) rfl ?_
          refine k_X1_65 rfl dX1_line_81 (q := 84) rfl (by decide) (by decide) (by decide) (Nat.le_of_ble_eq_true rfl) (t_X6_step  h) ?_
          intro M81 h
          refine T.ald_0 (q := 85) dX1_line_84 rfl ?_
          refine T.iconst (q := 86) (0) dX1_line_85 rfl (by decide) ?_
          refine k_X1_79 rfl dX1_line_86 (q := 89) rfl (by decide) (by decide) (by decide) (Nat.le_of_ble_eq_true rfl) (t_X1_condition (dA := 26) (by decide) (t_X1_atomN 8)  h) ?_
          intro r86 M86 h
          refine T.lst_3 (q := 90) dX1_line_89 rfl (by decide) sk_ok_i ?_
          exact hj90_62 (r86, M86) h
  · refine T.if_ne (tgt := 34) (q := 14) dX1_line_11 (by decide) rfl (fun h11 => ?_) (fun h11 => ?_)
    · replace h := s_f h11 h
      exact hj34_11 M h
    · replace h := s_t h11 h
      refine T.ald_0 (q := 15) dX1_line_14 rfl ?_
      refine g_X1_9 rfl dX1_line_15 (q := 18) rfl ?_
      refine T.ldcS (q := 20) "click" 8 dX1_line_18 rfl (by decide +kernel) ?_
      refine k_X1_59 rfl dX1_line_20 (q := 23) rfl (by decide) (by decide) (by decide) (Nat.le_of_ble_eq_true rfl) (t_X6_is ((by decide)) h) ?_
      rintro r20 _ ⟨h, h9⟩
      obtain rfl := h9.symm
      refine T.if_ne (tgt := 34) (q := 26) dX1_line_23 (by decide) rfl (fun h23 => ?_) (fun h23 => ?_)
      · replace h := s_f h23 h
        exact hj34_11 M h
      · replace h := s_t h23 h
        refine T.ald_0 (q := 27) dX1_line_26 rfl ?_
        refine g_X1_9 rfl dX1_line_27 (q := 30) rfl ?_
        refine k_X1_54 rfl dX1_line_30 (q := 33) rfl (by decide) (by decide) (by decide) (Nat.le_of_ble_eq_true rfl) (t_X6_refuse  h) ?_
        intro r30 M30 h
        exact T.retZ rfl dX1_line_33 (by decide) (by decide) (nz01 h.1) h.2
theorem tl_X1_read_L48 {G : sk_G} {cells slots : Nat} {s10 : Int32 × sk_M} {Q : Int32 → sk_M → Prop} {k114 : (Int32 × sk_M) → Prop}  (hc0 : cells ≤ 0) (hs0 : slots ≤ 0) (hk114 : ∀ s114 : Int32 × sk_M, k114 s114 → TJ G mX1_read (sk_R 29 0 0) (sk_K G 0 0 (rI Q) noX) cells slots 114 [some (.ref (G.2.2.1 126)), some (.int s10.1), some (.int s114.1)] [] s114.2) : ∀ (F : Nat) (s48 : Int32 × sk_M), lp (w_X1_read_L48 Q k114) F s48 → TJ G mX1_read (sk_R 29 0 0) (sk_K G 0 0 (rI Q) noX) cells slots 48 [some (.ref (G.2.2.1 126)), some (.int s10.1), some (.int s48.1)] [] s48.2 := by
  refine lp_sound (fun c hc9 s48 h => ?_)
  unfold w_X1_read_L48 at h
  refine T.ild_2 (q := 49) dX1_read_48 rfl ?_
  refine T.if_eq (tgt := 114) (q := 52) dX1_read_49 (by decide) rfl (fun h49 => ?_) (fun h49 => ?_)
  · replace h := s_f (fun q => q.1 h49) h
    exact hk114 (s48.1, s48.2) h
  · refine T.ald_0 (q := 53) dX1_read_52 rfl ?_
    refine g_X1_40 rfl dX1_read_53 (q := 56) rfl ?_
    refine T.bipush (q := 58) (12) dX1_read_56 rfl (by decide) ?_
    refine T.ic_ge (tgt := 114) (q := 61) dX1_read_58 (by decide) rfl (fun h58 => ?_) (fun h58 => ?_)
    · replace h := s_f (fun q => (fun q => q h58) q.2) h
      exact hk114 (s48.1, s48.2) h
    · replace h := s_t ⟨h49, h58⟩ h
      refine T.ald_0 (q := 62) dX1_read_61 rfl ?_
      refine k_X1_46 rfl dX1_read_62 (q := 65) rfl (by decide) hc0 hs0 (Nat.le_of_ble_eq_true rfl) (t_X1_line  h) ?_
      intro r62 M62 h
      refine T.if_ne (tgt := 70) (q := 68) dX1_read_65 (by decide) rfl (fun h65 => ?_) (fun h65 => ?_)
      · replace h := s_f h65 h
        refine T.ald_0 (q := 71) dX1_read_70 rfl ?_
        refine T.dup (q := 72) dX1_read_71 rfl rfl ?_
        refine g_X1_40 rfl dX1_read_72 (q := 75) rfl ?_
        refine T.iconst (q := 76) (1) dX1_read_75 rfl (by decide) ?_
        refine T.iadd (q := 77) dX1_read_76 rfl ?_
        refine p_X1_40 rfl dX1_read_77 (q := 80) rfl ?_
        refine S.mem h ?_
        intro M77 h
        refine T.ald_0 (q := 81) dX1_read_80 rfl ?_
        refine g_X1_9 rfl dX1_read_81 (q := 84) rfl ?_
        refine g_X1_43 rfl dX1_read_84 (q := 87) rfl ?_
        refine s_dia (fun s95_87 : Int32 => TJ G mX1_read (sk_R 29 0 0) (sk_K G 0 0 (rI Q) noX) cells slots 95 [some (.ref (G.2.2.1 126)), some (.int s10.1), some (.int s48.1)] [.int s95_87] M77) h (fun s95_87 h => ?_) (fun k9 hJ9 h => ?_)
        · refine T.ist_2 (q := 96) dX1_read_95 rfl (by decide) sk_ok_i ?_
          refine T.ild_2 (q := 97) dX1_read_96 rfl ?_
          refine T.if_eq (tgt := 48) (q := 100) dX1_read_97 (by decide) rfl (fun h97 => ?_) (fun h97 => ?_)
          · replace h := s_f (fun q => q h97) h
            exact hc9 (s95_87, M77) h
          · replace h := s_t h97 h
            refine T.ald_0 (q := 101) dX1_read_100 rfl ?_
            refine g_X1_9 rfl dX1_read_101 (q := 104) rfl ?_
            refine T.bipush (q := 106) (59) dX1_read_104 rfl (by decide) ?_
            refine k_X1_50 rfl dX1_read_106 (q := 109) rfl (by decide) hc0 hs0 (Nat.le_of_ble_eq_true rfl) (t_X6_passSign  h) ?_
            intro r106 M106 h
            refine T.if_ne (tgt := 48) (q := 112) dX1_read_109 (by decide) rfl (fun h109 => ?_) (fun h109 => ?_)
            · replace h := s_f h109 h
              exact hc9 (s95_87, M106) h
            · replace h := s_t h109 h
              refine T.iconst (q := 113) (0) dX1_read_112 rfl (by decide) ?_
              exact T.retZ rfl dX1_read_113 hc0 hs0 rfl h
        · refine T.if_eq (tgt := 94) (q := 90) dX1_read_87 (by decide) rfl (fun h87 => ?_) (fun h87 => ?_)
          · replace h := s_fk (fun q => q h87) h
            refine T.iconst (q := 95) (0) dX1_read_94 rfl (by decide) ?_
            exact hJ9 _ h
          · replace h := s_tk h87 h
            refine T.iconst (q := 91) (1) dX1_read_90 rfl (by decide) ?_
            refine T.goto (tgt := 95) dX1_read_91 (by decide) ?_
            exact hJ9 _ h
      · replace h := s_t h65 h
        refine T.iconst (q := 69) (0) dX1_read_68 rfl (by decide) ?_
        exact T.retZ rfl dX1_read_69 hc0 hs0 rfl h
theorem tl_X1_read_L10 {G : sk_G} {cells slots : Nat}  {Q : Int32 → sk_M → Prop}  (hc0 : cells ≤ 0) (hs0 : slots ≤ 0) : ∀ (F : Nat) (s10 : Int32 × sk_M), lp (w_X1_read_L10 Q) F s10 → TJ G mX1_read (sk_R 29 0 0) (sk_K G 0 0 (rI Q) noX) cells slots 10 [some (.ref (G.2.2.1 126)), some (.int s10.1), none] [] s10.2 := by
  refine lp_sound (fun c hc9 s10 h => ?_)
  unfold w_X1_read_L10 at h
  refine T.ild_1 (q := 11) dX1_read_10 rfl ?_
  refine T.iconst (q := 12) (3) dX1_read_11 rfl (by decide) ?_
  refine T.ic_ge (tgt := 132) (q := 15) dX1_read_12 (by decide) rfl (fun h12 => ?_) (fun h12 => ?_)
  · replace h := s_f (fun q => q h12) h
    refine T.iconst (q := 133) (1) dX1_read_132 rfl (by decide) ?_
    exact T.retZ rfl dX1_read_133 hc0 hs0 rfl h
  · replace h := s_t h12 h
    refine T.ald_0 (q := 16) dX1_read_15 rfl ?_
    refine T.ild_1 (q := 17) dX1_read_16 rfl ?_
    refine p_X1_31 rfl dX1_read_17 (q := 20) rfl ?_
    refine S.mem h ?_
    intro M17 h
    refine T.ald_0 (q := 21) dX1_read_20 rfl ?_
    refine g_X1_9 rfl dX1_read_21 (q := 24) rfl ?_
    refine k_X1_35 rfl dX1_read_24 (q := 27) rfl (by decide) hc0 hs0 (Nat.le_of_ble_eq_true rfl) (t_X6_rewind  h) ?_
    intro M24 h
    refine T.ald_0 (q := 28) dX1_read_27 rfl ?_
    refine T.iconst (q := 29) (0) dX1_read_28 rfl (by decide) ?_
    refine p_X1_40 rfl dX1_read_29 (q := 32) rfl ?_
    refine S.mem h ?_
    intro M29 h
    refine T.ald_0 (q := 33) dX1_read_32 rfl ?_
    refine g_X1_9 rfl dX1_read_33 (q := 36) rfl ?_
    refine g_X1_43 rfl dX1_read_36 (q := 39) rfl ?_
    refine s_dia (fun s47_39 : Int32 => TJ G mX1_read (sk_R 29 0 0) (sk_K G 0 0 (rI Q) noX) cells slots 47 [some (.ref (G.2.2.1 126)), some (.int s10.1), none] [.int s47_39] M29) h (fun s47_39 h => ?_) (fun k9 hJ9 h => ?_)
    · refine T.ist_2 (q := 48) dX1_read_47 rfl (by decide) sk_ok_i ?_
      refine tl_X1_read_L48  hc0 hs0 ?_ _ (s47_39, M29) h
      intro s114 h
      refine T.ild_2 (q := 115) dX1_read_114 rfl ?_
      refine T.if_eq (tgt := 126) (q := 118) dX1_read_115 (by decide) rfl (fun h115 => ?_) (fun h115 => ?_)
      · replace h := s_f (fun q => q h115) h
        refine T.inc_1 (q := 129) (1) dX1_read_126 rfl (by decide) (by decide) sk_ok_r ?_
        refine T.goto (tgt := 10) dX1_read_129 (by decide) ?_
        refine T.drop_2 ?_
        exact hc9 ((s10.1 + (1 : Int32)), s114.2) h
      · replace h := s_t h115 h
        refine T.ald_0 (q := 119) dX1_read_118 rfl ?_
        refine g_X1_9 rfl dX1_read_119 (q := 122) rfl ?_
        refine k_X1_54 rfl dX1_read_122 (q := 125) rfl (by decide) hc0 hs0 (Nat.le_of_ble_eq_true rfl) (t_X6_refuse  h) ?_
        intro r122 M122 h
        exact T.retZ rfl dX1_read_125 hc0 hs0 (nz01 h.1) h.2
    · refine T.if_eq (tgt := 46) (q := 42) dX1_read_39 (by decide) rfl (fun h39 => ?_) (fun h39 => ?_)
      · replace h := s_fk (fun q => q h39) h
        refine T.iconst (q := 47) (0) dX1_read_46 rfl (by decide) ?_
        exact hJ9 _ h
      · replace h := s_tk h39 h
        refine T.iconst (q := 43) (1) dX1_read_42 rfl (by decide) ?_
        refine T.goto (tgt := 47) dX1_read_43 (by decide) ?_
        exact hJ9 _ h
theorem t_X1_read {G : sk_G} {M : sk_M}   {Q : Int32 → sk_M → Prop} (h : w_X1_read  M Q) : Ctr G mX1_read 29 0 0 [.ref (G.2.2.1 126)] M (rI Q) noX := by
  unfold w_X1_read at h
  refine Ctr.of 2 (by decide) (Nat.le_of_ble_eq_true rfl) ?_
  show TJ G mX1_read (sk_R 29 0 0) (sk_K G 0 0 (rI Q) noX) 0 0 0 [some (.ref (G.2.2.1 126)), none, none] [] M
  refine T.ald_0 (q := 1) dX1_read_0 rfl ?_
  refine g_X1_15 rfl dX1_read_1 (q := 4) rfl ?_
  refine T.iconst (q := 5) (0) dX1_read_4 rfl (by decide) ?_
  refine k_X1_25 rfl dX1_read_5 (q := 8) rfl (by decide) (by decide) (by decide) (Nat.le_of_ble_eq_true rfl) (c_fill (d := 0) (N := 108) rfl rfl (by decide) (by decide)) ?_
  rintro _ rfl
  refine S.mem h ?_
  intro M5 h
  refine T.iconst (q := 9) (0) dX1_read_8 rfl (by decide) ?_
  refine T.ist_1 (q := 10) dX1_read_9 rfl (by decide) sk_ok_r ?_
  exact tl_X1_read_L10  (by decide) (by decide) _ ((0 : Int32), M5) h
theorem tl_X4_soundsAlike_L34 {G : sk_G} {M : sk_M} {cells slots : Nat} {y18 : Int32} {y29 : Int32} {Q : Int32 → Prop}  (hc0 : cells ≤ 0) (hs0 : slots ≤ 0) : ∀ (F : Nat) (s34 : Int32), lp (w_X4_soundsAlike_L34 y18 y29 M Q) F s34 → TJ G mX4_soundsAlike (sk_R 0 0 0) (sk_K G 0 0 (rI fun r9 M9 => Q r9 ∧ M9 = M) noX) cells slots 34 [none, none, none, none, some (.ref (G.2.2.1 (0 + 7))), some (.int y18), some (.int y29), some (.int s34)] [] M := by
  refine lp_sound (fun c hc9 s34 h => ?_)
  unfold w_X4_soundsAlike_L34 at h
  refine T.ild_7 (q := 36) dX4_soundsAlike_34 rfl ?_
  refine T.bipush (q := 38) (6) dX4_soundsAlike_36 rfl (by decide) ?_
  refine T.ic_ge (tgt := 80) (q := 41) dX4_soundsAlike_38 (by decide) rfl (fun h38 => ?_) (fun h38 => ?_)
  · replace h := s_f (fun q => q h38) h
    refine T.iconst (q := 81) (1) dX4_soundsAlike_80 rfl (by decide) ?_
    exact T.retZ rfl dX4_soundsAlike_81 hc0 hs0 rfl ⟨h, rfl⟩
  · replace h := s_t h38 h
    refine T.ald_4 (q := 43) dX4_soundsAlike_41 rfl ?_
    refine T.ild_5 (q := 45) dX4_soundsAlike_43 rfl ?_
    refine T.ild_7 (q := 47) dX4_soundsAlike_45 rfl ?_
    refine T.iadd (q := 48) dX4_soundsAlike_47 rfl ?_
    refine T.iald (sk_a7 sk_s0).1 (sk_a7 sk_s0).2.1 (sk_a7 sk_s0).2.2 dX4_soundsAlike_48 (q := 49) rfl h.1 ?_
    replace h := h.2
    refine T.ald_4 (q := 51) dX4_soundsAlike_49 rfl ?_
    refine T.ild_5 (q := 53) dX4_soundsAlike_51 rfl ?_
    refine T.iald (sk_a7 sk_s0).1 (sk_a7 sk_s0).2.1 (sk_a7 sk_s0).2.2 dX4_soundsAlike_53 (q := 54) rfl h.1 ?_
    replace h := h.2
    refine T.isub (q := 55) dX4_soundsAlike_54 rfl ?_
    refine T.ald_4 (q := 57) dX4_soundsAlike_55 rfl ?_
    refine T.ild_6 (q := 59) dX4_soundsAlike_57 rfl ?_
    refine T.ild_7 (q := 61) dX4_soundsAlike_59 rfl ?_
    refine T.iadd (q := 62) dX4_soundsAlike_61 rfl ?_
    refine T.iald (sk_a7 sk_s0).1 (sk_a7 sk_s0).2.1 (sk_a7 sk_s0).2.2 dX4_soundsAlike_62 (q := 63) rfl h.1 ?_
    replace h := h.2
    refine T.ald_4 (q := 65) dX4_soundsAlike_63 rfl ?_
    refine T.ild_6 (q := 67) dX4_soundsAlike_65 rfl ?_
    refine T.iald (sk_a7 sk_s0).1 (sk_a7 sk_s0).2.1 (sk_a7 sk_s0).2.2 dX4_soundsAlike_67 (q := 68) rfl h.1 ?_
    replace h := h.2
    refine T.isub (q := 69) dX4_soundsAlike_68 rfl ?_
    refine T.ic_eq (tgt := 74) (q := 72) dX4_soundsAlike_69 (by decide) rfl (fun h69 => ?_) (fun h69 => ?_)
    · replace h := s_f (fun q => q h69) h
      refine T.inc_7 (q := 77) (1) dX4_soundsAlike_74 rfl (by decide) (by decide) sk_ok_i ?_
      refine T.goto (tgt := 34) dX4_soundsAlike_77 (by decide) ?_
      exact hc9 (s34 + (1 : Int32)) h
    · replace h := s_t h69 h
      refine T.iconst (q := 73) (0) dX4_soundsAlike_72 rfl (by decide) ?_
      exact T.retZ rfl dX4_soundsAlike_73 hc0 hs0 rfl ⟨h, rfl⟩
theorem t_X4_soundsAlike {G : sk_G} {M : sk_M} {a1 : Int32} {a2 : Int32} {a3 : Int32}  {Q : Int32 → Prop} (h : w_X4_soundsAlike a1 a2 a3 M Q) : Ctr G mX4_soundsAlike 0 0 0 [.ref (G.2.2.1 130), .int a1, .int a2, .int a3] M (rI fun r9 M9 => Q r9 ∧ M9 = M) noX := by
  unfold w_X4_soundsAlike at h
  refine Ctr.of 4 (by decide) (Nat.le_of_ble_eq_true rfl) ?_
  show TJ G mX4_soundsAlike (sk_R 0 0 0) (sk_K G 0 0 (rI fun r9 M9 => Q r9 ∧ M9 = M) noX) 0 0 0 [some (.ref (G.2.2.1 130)), some (.int a1), some (.int a2), some (.int a3), none, none, none, none] [] M
  refine T.ald_0 (q := 1) dX4_soundsAlike_0 rfl ?_
  refine g_X4_9 rfl dX4_soundsAlike_1 (q := 4) rfl ?_
  refine g_X4_56 sk_s0 rfl dX4_soundsAlike_4 (q := 7) rfl ?_
  refine T.ast_4 (q := 9) dX4_soundsAlike_7 rfl (by decide) sk_ok_i ?_
  refine T.ild_1 (q := 10) dX4_soundsAlike_9 rfl ?_
  refine T.bipush (q := 12) (36) dX4_soundsAlike_10 rfl (by decide) ?_
  refine T.imul (q := 13) dX4_soundsAlike_12 rfl ?_
  refine T.ild_2 (q := 14) dX4_soundsAlike_13 rfl ?_
  refine T.bipush (q := 16) (6) dX4_soundsAlike_14 rfl (by decide) ?_
  refine T.imul (q := 17) dX4_soundsAlike_16 rfl ?_
  refine T.iadd (q := 18) dX4_soundsAlike_17 rfl ?_
  refine T.ist_5 (q := 20) dX4_soundsAlike_18 rfl (by decide) sk_ok_r ?_
  refine S.i5 h ?_
  intro y18 h
  refine T.ild_1 (q := 21) dX4_soundsAlike_20 rfl ?_
  refine T.bipush (q := 23) (36) dX4_soundsAlike_21 rfl (by decide) ?_
  refine T.imul (q := 24) dX4_soundsAlike_23 rfl ?_
  refine T.ild_3 (q := 25) dX4_soundsAlike_24 rfl ?_
  refine T.bipush (q := 27) (6) dX4_soundsAlike_25 rfl (by decide) ?_
  refine T.imul (q := 28) dX4_soundsAlike_27 rfl ?_
  refine T.iadd (q := 29) dX4_soundsAlike_28 rfl ?_
  refine T.ist_6 (q := 31) dX4_soundsAlike_29 rfl (by decide) sk_ok_i ?_
  refine S.i6 h ?_
  intro y29 h
  refine T.iconst (q := 32) (1) dX4_soundsAlike_31 rfl (by decide) ?_
  refine T.ist_7 (q := 34) dX4_soundsAlike_32 rfl (by decide) sk_ok_i ?_
  refine T.drop_0 ?_
  refine T.drop_1 ?_
  refine T.drop_2 ?_
  refine T.drop_3 ?_
  exact tl_X4_soundsAlike_L34  (by decide) (by decide) _ (1 : Int32) h
theorem tl_X4_findLeaders_L17 {G : sk_G} {cells slots : Nat} {s2 : Int32 × sk_M} {s9 : Int32 × sk_M} {Q : sk_M → Prop} {k38 : Int32 → Prop}  (hc0 : cells ≤ 0) (hs0 : slots ≤ 0) (hk38 : ∀ s38 : Int32, k38 s38 → TJ G mX4_findLeaders (sk_R 1 0 0) (sk_K G 0 0 (rV Q) noX) cells slots 38 [some (.ref (G.2.2.1 130)), some (.int s2.1), some (.int s9.1), some (.int s38)] [] s9.2) : ∀ (F : Nat) (s17 : Int32), lp (w_X4_findLeaders_L17 s2 s9 k38) F s17 → TJ G mX4_findLeaders (sk_R 1 0 0) (sk_K G 0 0 (rV Q) noX) cells slots 17 [some (.ref (G.2.2.1 130)), some (.int s2.1), some (.int s9.1), some (.int s17)] [] s9.2 := by
  refine lp_sound (fun c hc9 s17 h => ?_)
  unfold w_X4_findLeaders_L17 at h
  refine T.ild_3 (q := 18) dX4_findLeaders_17 rfl ?_
  refine T.ild_2 (q := 19) dX4_findLeaders_18 rfl ?_
  refine T.ic_ge (tgt := 38) (q := 22) dX4_findLeaders_19 (by decide) rfl (fun h19 => ?_) (fun h19 => ?_)
  · replace h := s_f (fun q => q h19) h
    exact hk38 s17 h
  · replace h := s_t h19 h
    refine T.ald_0 (q := 23) dX4_findLeaders_22 rfl ?_
    refine T.ild_1 (q := 24) dX4_findLeaders_23 rfl ?_
    refine T.ild_3 (q := 25) dX4_findLeaders_24 rfl ?_
    refine T.ild_2 (q := 26) dX4_findLeaders_25 rfl ?_
    refine k_X4_109 rfl dX4_findLeaders_26 (q := 29) rfl (by decide) hc0 hs0 (Nat.le_of_ble_eq_true rfl) (t_X4_soundsAlike  h) ?_
    rintro r26 _ ⟨h, h9⟩
    obtain rfl := h9.symm
    refine T.if_ne (tgt := 38) (q := 32) dX4_findLeaders_29 (by decide) rfl (fun h29 => ?_) (fun h29 => ?_)
    · replace h := s_f h29 h
      exact hk38 s17 h
    · replace h := s_t h29 h
      refine T.inc_3 (q := 35) (1) dX4_findLeaders_32 rfl (by decide) (by decide) sk_ok_i ?_
      refine T.goto (tgt := 17) dX4_findLeaders_35 (by decide) ?_
      exact hc9 (s17 + (1 : Int32)) h
theorem tl_X4_findLeaders_L9 {G : sk_G} {cells slots : Nat} {s2 : Int32 × sk_M} {Q : sk_M → Prop} {k56 : sk_M → Prop}  (hc0 : cells ≤ 0) (hs0 : slots ≤ 0) (hk56 : ∀ s56 : sk_M, k56 s56 → TJ G mX4_findLeaders (sk_R 1 0 0) (sk_K G 0 0 (rV Q) noX) cells slots 56 [some (.ref (G.2.2.1 130)), some (.int s2.1), none, none] [] s56) : ∀ (F : Nat) (s9 : Int32 × sk_M), lp (w_X4_findLeaders_L9 s2 k56) F s9 → TJ G mX4_findLeaders (sk_R 1 0 0) (sk_K G 0 0 (rV Q) noX) cells slots 9 [some (.ref (G.2.2.1 130)), some (.int s2.1), some (.int s9.1), none] [] s9.2 := by
  refine lp_sound (fun c hc9 s9 h => ?_)
  unfold w_X4_findLeaders_L9 at h
  refine T.ild_2 (q := 10) dX4_findLeaders_9 rfl ?_
  refine T.bipush (q := 12) (6) dX4_findLeaders_10 rfl (by decide) ?_
  refine T.ic_ge (tgt := 56) (q := 15) dX4_findLeaders_12 (by decide) rfl (fun h12 => ?_) (fun h12 => ?_)
  · replace h := s_f (fun q => q h12) h
    refine T.drop_2 ?_
    exact hk56 s9.2 h
  · replace h := s_t h12 h
    refine T.iconst (q := 16) (0) dX4_findLeaders_15 rfl (by decide) ?_
    refine T.ist_3 (q := 17) dX4_findLeaders_16 rfl (by decide) sk_ok_i ?_
    refine tl_X4_findLeaders_L17  hc0 hs0 ?_ _ (0 : Int32) h
    intro s38 h
    refine T.ald_0 (q := 39) dX4_findLeaders_38 rfl ?_
    refine g_X4_35 rfl dX4_findLeaders_39 (q := 42) rfl ?_
    refine T.ild_1 (q := 43) dX4_findLeaders_42 rfl ?_
    refine T.bipush (q := 45) (6) dX4_findLeaders_43 rfl (by decide) ?_
    refine T.imul (q := 46) dX4_findLeaders_45 rfl ?_
    refine T.ild_2 (q := 47) dX4_findLeaders_46 rfl ?_
    refine T.iadd (q := 48) dX4_findLeaders_47 rfl ?_
    refine T.ild_3 (q := 49) dX4_findLeaders_48 rfl ?_
    refine T.iast (n := 18) rfl rfl (by decide) dX4_findLeaders_49 (q := 50) rfl h.1 ?_
    refine S.mem h.2 ?_
    intro M49 h
    refine T.inc_2 (q := 53) (1) dX4_findLeaders_50 rfl (by decide) (by decide) sk_ok_i ?_
    refine T.goto (tgt := 9) dX4_findLeaders_53 (by decide) ?_
    refine T.drop_3 ?_
    exact hc9 ((s9.1 + (1 : Int32)), M49) h
theorem tl_X4_findLeaders_L2 {G : sk_G} {cells slots : Nat}  {Q : sk_M → Prop}  (hc0 : cells ≤ 0) (hs0 : slots ≤ 0) : ∀ (F : Nat) (s2 : Int32 × sk_M), lp (w_X4_findLeaders_L2 Q) F s2 → TJ G mX4_findLeaders (sk_R 1 0 0) (sk_K G 0 0 (rV Q) noX) cells slots 2 [some (.ref (G.2.2.1 130)), some (.int s2.1), none, none] [] s2.2 := by
  refine lp_sound (fun c hc9 s2 h => ?_)
  unfold w_X4_findLeaders_L2 at h
  refine T.ild_1 (q := 3) dX4_findLeaders_2 rfl ?_
  refine T.iconst (q := 4) (3) dX4_findLeaders_3 rfl (by decide) ?_
  refine T.ic_ge (tgt := 62) (q := 7) dX4_findLeaders_4 (by decide) rfl (fun h4 => ?_) (fun h4 => ?_)
  · replace h := s_f (fun q => q h4) h
    exact T.retV rfl dX4_findLeaders_62 hc0 hs0 h
  · replace h := s_t h4 h
    refine T.iconst (q := 8) (0) dX4_findLeaders_7 rfl (by decide) ?_
    refine T.ist_2 (q := 9) dX4_findLeaders_8 rfl (by decide) sk_ok_i ?_
    refine tl_X4_findLeaders_L9  hc0 hs0 ?_ _ ((0 : Int32), s2.2) h
    intro s56 h
    refine T.inc_1 (q := 59) (1) dX4_findLeaders_56 rfl (by decide) (by decide) sk_ok_r ?_
    refine T.goto (tgt := 2) dX4_findLeaders_59 (by decide) ?_
    exact hc9 ((s2.1 + (1 : Int32)), s56) h
theorem t_X4_findLeaders {G : sk_G} {M : sk_M}   {Q : sk_M → Prop} (h : w_X4_findLeaders  M Q) : Ctr G mX4_findLeaders 1 0 0 [.ref (G.2.2.1 130)] M (rV Q) noX := by
  unfold w_X4_findLeaders at h
  refine Ctr.of 3 (by decide) (Nat.le_of_ble_eq_true rfl) ?_
  show TJ G mX4_findLeaders (sk_R 1 0 0) (sk_K G 0 0 (rV Q) noX) 0 0 0 [some (.ref (G.2.2.1 130)), none, none, none] [] M
  refine T.iconst (q := 1) (0) dX4_findLeaders_0 rfl (by decide) ?_
  refine T.ist_1 (q := 2) dX4_findLeaders_1 rfl (by decide) sk_ok_r ?_
  exact tl_X4_findLeaders_L2  (by decide) (by decide) _ ((0 : Int32), M) h
theorem t_X4_leads {G : sk_G} {M : sk_M} {a1 : Int32}  {Q : Int32 → Prop} (h : w_X4_leads a1 M Q) : Ctr G mX4_leads 0 0 0 [.ref (G.2.2.1 130), .int a1] M (rI fun r9 M9 => Q r9 ∧ M9 = M) noX := by
  unfold w_X4_leads at h
  refine Ctr.of 0 (by decide) (Nat.le_of_ble_eq_true rfl) ?_
  show TJ G mX4_leads (sk_R 0 0 0) (sk_K G 0 0 (rI fun r9 M9 => Q r9 ∧ M9 = M) noX) 0 0 0 [some (.ref (G.2.2.1 130)), some (.int a1)] [] M
  refine T.ald_0 (q := 1) dX4_leads_0 rfl ?_
  refine g_X4_35 rfl dX4_leads_1 (q := 4) rfl ?_
  refine T.ild_1 (q := 5) dX4_leads_4 rfl ?_
  refine T.bipush (q := 7) (36) dX4_leads_5 rfl (by decide) ?_
  refine T.idiv (q := 8) dX4_leads_7 rfl (by decide) ?_
  refine T.iald (n := 18) rfl rfl (by decide) dX4_leads_8 (q := 9) rfl h.1 ?_
  replace h := h.2
  refine T.ild_1 (q := 10) dX4_leads_9 rfl ?_
  refine T.bipush (q := 12) (36) dX4_leads_10 rfl (by decide) ?_
  refine T.idiv (q := 13) dX4_leads_12 rfl (by decide) ?_
  refine T.ic_ne (tgt := 64) (q := 16) dX4_leads_13 (by decide) rfl (fun h13 => ?_) (fun h13 => ?_)
  · replace h := s_f h13 h
    refine T.iconst (q := 65) (0) dX4_leads_64 rfl (by decide) ?_
    exact T.retZ rfl dX4_leads_65 (by decide) (by decide) rfl ⟨h, rfl⟩
  · replace h := s_t h13 h
    refine T.ald_0 (q := 17) dX4_leads_16 rfl ?_
    refine g_X4_35 rfl dX4_leads_17 (q := 20) rfl ?_
    refine T.bipush (q := 22) (6) dX4_leads_20 rfl (by decide) ?_
    refine T.ild_1 (q := 23) dX4_leads_22 rfl ?_
    refine T.bipush (q := 25) (6) dX4_leads_23 rfl (by decide) ?_
    refine T.idiv (q := 26) dX4_leads_25 rfl (by decide) ?_
    refine T.bipush (q := 28) (6) dX4_leads_26 rfl (by decide) ?_
    refine T.irem (q := 29) dX4_leads_28 rfl (by decide) ?_
    refine T.iadd (q := 30) dX4_leads_29 rfl ?_
    refine T.iald (n := 18) rfl rfl (by decide) dX4_leads_30 (q := 31) rfl h.1 ?_
    replace h := h.2
    refine T.ild_1 (q := 32) dX4_leads_31 rfl ?_
    refine T.bipush (q := 34) (6) dX4_leads_32 rfl (by decide) ?_
    refine T.idiv (q := 35) dX4_leads_34 rfl (by decide) ?_
    refine T.bipush (q := 37) (6) dX4_leads_35 rfl (by decide) ?_
    refine T.irem (q := 38) dX4_leads_37 rfl (by decide) ?_
    refine T.ic_ne (tgt := 64) (q := 41) dX4_leads_38 (by decide) rfl (fun h38 => ?_) (fun h38 => ?_)
    · replace h := s_f h38 h
      refine T.iconst (q := 65) (0) dX4_leads_64 rfl (by decide) ?_
      exact T.retZ rfl dX4_leads_65 (by decide) (by decide) rfl ⟨h, rfl⟩
    · replace h := s_t h38 h
      refine T.ald_0 (q := 42) dX4_leads_41 rfl ?_
      refine g_X4_35 rfl dX4_leads_42 (q := 45) rfl ?_
      refine T.bipush (q := 47) (12) dX4_leads_45 rfl (by decide) ?_
      refine T.ild_1 (q := 48) dX4_leads_47 rfl ?_
      refine T.bipush (q := 50) (6) dX4_leads_48 rfl (by decide) ?_
      refine T.irem (q := 51) dX4_leads_50 rfl (by decide) ?_
      refine T.iadd (q := 52) dX4_leads_51 rfl ?_
      refine T.iald (n := 18) rfl rfl (by decide) dX4_leads_52 (q := 53) rfl h.1 ?_
      replace h := h.2
      refine T.ild_1 (q := 54) dX4_leads_53 rfl ?_
      refine T.bipush (q := 56) (6) dX4_leads_54 rfl (by decide) ?_
      refine T.irem (q := 57) dX4_leads_56 rfl (by decide) ?_
      refine T.ic_ne (tgt := 64) (q := 60) dX4_leads_57 (by decide) rfl (fun h57 => ?_) (fun h57 => ?_)
      · replace h := s_f h57 h
        refine T.iconst (q := 65) (0) dX4_leads_64 rfl (by decide) ?_
        exact T.retZ rfl dX4_leads_65 (by decide) (by decide) rfl ⟨h, rfl⟩
      · replace h := s_t h57 h
        refine T.iconst (q := 61) (1) dX4_leads_60 rfl (by decide) ?_
        refine T.goto (tgt := 65) dX4_leads_61 (by decide) ?_
        exact T.retZ rfl dX4_leads_65 (by decide) (by decide) rfl ⟨h, rfl⟩
theorem tl_X4_partAll_L26 {G : sk_G} {cells slots : Nat} {a2 : Int32} {Q : Int32 → sk_M → Prop} {k155 : (Int32 × Int32 × sk_M) → Prop}  (hc0 : cells ≤ 0) (hs0 : slots ≤ 0) (hk155 : ∀ s155 : Int32 × Int32 × sk_M, k155 s155 → TJ G mX4_partAll (sk_R 2 0 0) (sk_K G 0 0 (rI Q) noX) cells slots 155 [some (.ref (G.2.2.1 130)), none, some (.int a2), none, some (.int s155.1), some (.int s155.2.1), none, none, none, none, none] [] s155.2.2) : ∀ (F : Nat) (s26 : Int32 × Int32 × Int32 × sk_M), lp (w_X4_partAll_L26 a2 k155) F s26 → TJ G mX4_partAll (sk_R 2 0 0) (sk_K G 0 0 (rI Q) noX) cells slots 26 [some (.ref (G.2.2.1 130)), none, some (.int a2), some (.ref (G.2.2.1 (0 + 7))), some (.int s26.1), some (.int s26.2.1), some (.int s26.2.2.1), none, none, none, none] [] s26.2.2.2 := by
  refine lp_sound (fun c hc9 s26 h => ?_)
  unfold w_X4_partAll_L26 at h
  refine T.ild_6 (q := 28) dX4_partAll_26 rfl ?_
  refine T.ald_0 (q := 29) dX4_partAll_28 rfl ?_
  refine g_X4_38 rfl dX4_partAll_29 (q := 32) rfl ?_
  refine T.ic_ge (tgt := 155) (q := 35) dX4_partAll_32 (by decide) rfl (fun h32 => ?_) (fun h32 => ?_)
  · replace h := s_f (fun q => q.1 h32) h
    refine T.drop_3 ?_
    refine T.drop_6 ?_
    exact hk155 (s26.1, s26.2.1, s26.2.2.2) h
  · refine T.ild_4 (q := 37) dX4_partAll_35 rfl ?_
    refine T.ild_2 (q := 38) dX4_partAll_37 rfl ?_
    refine T.ic_ge (tgt := 155) (q := 41) dX4_partAll_38 (by decide) rfl (fun h38 => ?_) (fun h38 => ?_)
    · replace h := s_f (fun q => (fun q => q h38) q.2) h
      refine T.drop_3 ?_
      refine T.drop_6 ?_
      exact hk155 (s26.1, s26.2.1, s26.2.2.2) h
    · replace h := s_t ⟨h32, h38⟩ h
      refine T.ald_0 (q := 42) dX4_partAll_41 rfl ?_
      refine g_X4_15 rfl dX4_partAll_42 (q := 45) rfl ?_
      refine T.ild_6 (q := 47) dX4_partAll_45 rfl ?_
      refine T.iald (n := 216) rfl rfl (by decide) dX4_partAll_47 (q := 48) rfl h.1 ?_
      replace h := h.2
      refine T.ist_7 (q := 50) dX4_partAll_48 rfl (by decide) sk_ok_i ?_
      refine S.i7 h ?_
      intro y48 h
      refine T.ald_0 (q := 51) dX4_partAll_50 rfl ?_
      refine g_X4_23 rfl dX4_partAll_51 (q := 54) rfl ?_
      refine T.ild_7 (q := 56) dX4_partAll_54 rfl ?_
      refine T.bipush (q := 58) (6) dX4_partAll_56 rfl (by decide) ?_
      refine T.idiv (q := 59) dX4_partAll_58 rfl (by decide) ?_
      refine T.iald (n := 36) rfl rfl (by decide) dX4_partAll_59 (q := 60) rfl h.1 ?_
      replace h := h.2
      refine T.ald_3 (q := 61) dX4_partAll_60 rfl ?_
      refine T.ald_0 (q := 62) dX4_partAll_61 rfl ?_
      refine g_X4_59 rfl dX4_partAll_62 (q := 65) rfl ?_
      refine T.ild_7 (q := 67) dX4_partAll_65 rfl ?_
      refine T.bipush (q := 69) (6) dX4_partAll_67 rfl (by decide) ?_
      refine T.irem (q := 70) dX4_partAll_69 rfl (by decide) ?_
      refine T.iadd (q := 71) dX4_partAll_70 rfl ?_
      refine T.iald (sk_a7 sk_s0).1 (sk_a7 sk_s0).2.1 (sk_a7 sk_s0).2.2 dX4_partAll_71 (q := 72) rfl h.1 ?_
      replace h := h.2
      refine T.iadd (q := 73) dX4_partAll_72 rfl ?_
      refine T.ist_8 (q := 75) dX4_partAll_73 rfl (by decide) sk_ok_i ?_
      refine S.i8 h ?_
      intro y73 h
      refine T.ald_0 (q := 76) dX4_partAll_75 rfl ?_
      refine g_X4_26 rfl dX4_partAll_76 (q := 79) rfl ?_
      refine T.ild_8 (q := 81) dX4_partAll_79 rfl ?_
      refine T.iald (n := 7129) rfl rfl (by decide) dX4_partAll_81 (q := 82) rfl h.1 ?_
      replace h := h.2
      refine T.ist_9 (q := 84) dX4_partAll_82 rfl (by decide) sk_ok_i ?_
      refine S.i9 h ?_
      intro y82 h
      refine T.ild_9 (q := 86) dX4_partAll_84 rfl ?_
      refine T.ald_0 (q := 87) dX4_partAll_86 rfl ?_
      refine g_X4_62 rfl dX4_partAll_87 (q := 90) rfl ?_
      refine s_dia (fun s106_90 : Int32 => TJ G mX4_partAll (sk_R 2 0 0) (sk_K G 0 0 (rI Q) noX) cells slots 106 [some (.ref (G.2.2.1 130)), none, some (.int a2), some (.ref (G.2.2.1 (0 + 7))), some (.int s26.1), some (.int s26.2.1), some (.int s26.2.2.1), some (.int y48), some (.int y73), some (.int y82), none] [.int s106_90] s26.2.2.2) h (fun s106_90 h => ?_) (fun k9 hJ9 h => ?_)
      · refine T.ist_10 (q := 108) dX4_partAll_106 rfl (by decide) sk_ok_i ?_
        refine T.ald_0 (q := 109) dX4_partAll_108 rfl ?_
        refine g_X4_26 rfl dX4_partAll_109 (q := 112) rfl ?_
        refine T.ild_8 (q := 114) dX4_partAll_112 rfl ?_
        refine T.ald_0 (q := 115) dX4_partAll_114 rfl ?_
        refine g_X4_62 rfl dX4_partAll_115 (q := 118) rfl ?_
        refine T.ild_10 (q := 120) dX4_partAll_118 rfl ?_
        refine T.iadd (q := 121) dX4_partAll_120 rfl ?_
        refine T.iast (n := 7129) rfl rfl (by decide) dX4_partAll_121 (q := 122) rfl h.1 ?_
        refine S.mem h.2 ?_
        intro M121 h
        refine T.ild_10 (q := 124) dX4_partAll_122 rfl ?_
        refine T.ild_4 (q := 126) dX4_partAll_124 rfl ?_
        refine T.ic_le (tgt := 139) (q := 129) dX4_partAll_126 (by decide) rfl (fun h126 => ?_) (fun h126 => ?_)
        · replace h := s_f (fun q => q h126) h
          refine T.ild_10 (q := 141) dX4_partAll_139 rfl ?_
          refine T.ild_4 (q := 143) dX4_partAll_141 rfl ?_
          refine T.ic_ne (tgt := 149) (q := 146) dX4_partAll_143 (by decide) rfl (fun h143 => ?_) (fun h143 => ?_)
          · replace h := s_f h143 h
            refine T.inc_6 (q := 152) (1) dX4_partAll_149 rfl (by decide) (by decide) sk_ok_i ?_
            refine T.goto (tgt := 26) dX4_partAll_152 (by decide) ?_
            refine T.drop_7 ?_
            refine T.drop_8 ?_
            refine T.drop_9 ?_
            refine T.drop_10 ?_
            exact hc9 (s26.1, s26.2.1, (s26.2.2.1 + (1 : Int32)), M121) h
          · replace h := s_t h143 h
            refine T.inc_5 (q := 149) (1) dX4_partAll_146 rfl (by decide) (by decide) sk_ok_i ?_
            refine T.inc_6 (q := 152) (1) dX4_partAll_149 rfl (by decide) (by decide) sk_ok_i ?_
            refine T.goto (tgt := 26) dX4_partAll_152 (by decide) ?_
            refine T.drop_7 ?_
            refine T.drop_8 ?_
            refine T.drop_9 ?_
            refine T.drop_10 ?_
            exact hc9 (s26.1, (s26.2.1 + (1 : Int32)), (s26.2.2.1 + (1 : Int32)), M121) h
        · replace h := s_t h126 h
          refine T.ild_10 (q := 131) dX4_partAll_129 rfl ?_
          refine T.ist_4 (q := 133) dX4_partAll_131 rfl (by decide) sk_ok_r ?_
          refine T.iconst (q := 134) (1) dX4_partAll_133 rfl (by decide) ?_
          refine T.ist_5 (q := 136) dX4_partAll_134 rfl (by decide) sk_ok_i ?_
          refine T.goto (tgt := 149) dX4_partAll_136 (by decide) ?_
          refine T.inc_6 (q := 152) (1) dX4_partAll_149 rfl (by decide) (by decide) sk_ok_i ?_
          refine T.goto (tgt := 26) dX4_partAll_152 (by decide) ?_
          refine T.drop_7 ?_
          refine T.drop_8 ?_
          refine T.drop_9 ?_
          refine T.drop_10 ?_
          exact hc9 (s106_90, (1 : Int32), (s26.2.2.1 + (1 : Int32)), M121) h
      · refine T.ic_le (tgt := 105) (q := 93) dX4_partAll_90 (by decide) rfl (fun h90 => ?_) (fun h90 => ?_)
        · replace h := s_fk (fun q => q h90) h
          refine T.iconst (q := 106) (1) dX4_partAll_105 rfl (by decide) ?_
          exact hJ9 _ h
        · replace h := s_tk h90 h
          refine T.ild_9 (q := 95) dX4_partAll_93 rfl ?_
          refine T.ald_0 (q := 96) dX4_partAll_95 rfl ?_
          refine g_X4_62 rfl dX4_partAll_96 (q := 99) rfl ?_
          refine T.isub (q := 100) dX4_partAll_99 rfl ?_
          refine T.iconst (q := 101) (1) dX4_partAll_100 rfl (by decide) ?_
          refine T.iadd (q := 102) dX4_partAll_101 rfl ?_
          refine T.goto (tgt := 106) dX4_partAll_102 (by decide) ?_
          exact hJ9 _ h
theorem t_X4_partAll {G : sk_G} {M : sk_M} {a1 : Int32} {a2 : Int32}  {Q : Int32 → sk_M → Prop} (h : w_X4_partAll a1 a2 M Q) : Ctr G mX4_partAll 2 0 0 [.ref (G.2.2.1 130), .int a1, .int a2] M (rI Q) noX := by
  unfold w_X4_partAll at h
  refine Ctr.of 8 (by decide) (Nat.le_of_ble_eq_true rfl) ?_
  show TJ G mX4_partAll (sk_R 2 0 0) (sk_K G 0 0 (rI Q) noX) 0 0 0 [some (.ref (G.2.2.1 130)), some (.int a1), some (.int a2), none, none, none, none, none, none, none, none] [] M
  refine T.ald_0 (q := 1) dX4_partAll_0 rfl ?_
  refine T.ild_1 (q := 2) dX4_partAll_1 rfl ?_
  refine k_X4_48 rfl dX4_partAll_2 (q := 5) rfl (by decide) (by decide) (by decide) (Nat.le_of_ble_eq_true rfl) (t_X4_face  h) ?_
  intro M2 h
  refine T.ald_0 (q := 6) dX4_partAll_5 rfl ?_
  refine k_X4_78 rfl dX4_partAll_6 (q := 9) rfl (by decide) (by decide) (by decide) (Nat.le_of_ble_eq_true rfl) (t_X4_startTally  h) ?_
  intro M6 h
  refine T.ald_0 (q := 10) dX4_partAll_9 rfl ?_
  refine g_X4_9 rfl dX4_partAll_10 (q := 13) rfl ?_
  refine g_X4_56 sk_s0 rfl dX4_partAll_13 (q := 16) rfl ?_
  refine T.ast_3 (q := 17) dX4_partAll_16 rfl (by decide) sk_ok_i ?_
  refine T.iconst (q := 18) (0) dX4_partAll_17 rfl (by decide) ?_
  refine T.ist_4 (q := 20) dX4_partAll_18 rfl (by decide) sk_ok_r ?_
  refine T.iconst (q := 21) (0) dX4_partAll_20 rfl (by decide) ?_
  refine T.ist_5 (q := 23) dX4_partAll_21 rfl (by decide) sk_ok_i ?_
  refine T.iconst (q := 24) (0) dX4_partAll_23 rfl (by decide) ?_
  refine T.ist_6 (q := 26) dX4_partAll_24 rfl (by decide) sk_ok_i ?_
  refine T.drop_1 ?_
  refine tl_X4_partAll_L26  (by decide) (by decide) ?_ _ ((0 : Int32), (0 : Int32), (0 : Int32), M6) h
  intro s155 h
  refine T.ald_0 (q := 156) dX4_partAll_155 rfl ?_
  refine T.ild_4 (q := 158) dX4_partAll_156 rfl ?_
  refine p_X4_112 rfl dX4_partAll_158 (q := 161) rfl ?_
  refine S.mem h ?_
  intro M158 h
  refine T.ald_0 (q := 162) dX4_partAll_161 rfl ?_
  refine T.ild_5 (q := 164) dX4_partAll_162 rfl ?_
  refine p_X4_115 rfl dX4_partAll_164 (q := 167) rfl ?_
  refine S.mem h ?_
  intro M164 h
  refine T.ild_4 (q := 169) dX4_partAll_167 rfl ?_
  refine T.ild_2 (q := 170) dX4_partAll_169 rfl ?_
  refine T.ic_ge (tgt := 177) (q := 173) dX4_partAll_170 (by decide) rfl (fun h170 => ?_) (fun h170 => ?_)
  · replace h := s_f (fun q => q h170) h
    refine T.iconst (q := 178) (0) dX4_partAll_177 rfl (by decide) ?_
    exact T.retZ rfl dX4_partAll_178 (by decide) (by decide) rfl h
  · replace h := s_t h170 h
    refine T.iconst (q := 174) (1) dX4_partAll_173 rfl (by decide) ?_
    refine T.goto (tgt := 178) dX4_partAll_174 (by decide) ?_
    exact T.retZ rfl dX4_partAll_178 (by decide) (by decide) rfl h
theorem t_X4_weigh {G : sk_G} {M : sk_M} {a1 : Int32}  {Q : sk_M → Prop} (h : w_X4_weigh a1 M Q) : Ctr G mX4_weigh 1 0 0 [.ref (G.2.2.1 130), .int a1] M (rV Q) noX := by
  unfold w_X4_weigh at h
  refine Ctr.of 3 (by decide) (Nat.le_of_ble_eq_true rfl) ?_
  show TJ G mX4_weigh (sk_R 1 0 0) (sk_K G 0 0 (rV Q) noX) 0 0 0 [some (.ref (G.2.2.1 130)), some (.int a1), none, none, none] [] M
  refine T.ald_0 (q := 1) dX4_weigh_0 rfl ?_
  refine g_X4_19 rfl dX4_weigh_1 (q := 4) rfl ?_
  refine T.ild_1 (q := 5) dX4_weigh_4 rfl ?_
  refine T.zald (n := 216) rfl rfl (by decide) dX4_weigh_5 (q := 6) rfl h.1 ?_
  replace h := h.2
  refine T.ist_2 (q := 7) dX4_weigh_6 rfl (by decide) sk_ok_i ?_
  refine S.i2 h ?_
  intro y6 h
  refine T.ald_0 (q := 8) dX4_weigh_7 rfl ?_
  refine g_X4_112 rfl dX4_weigh_8 (q := 11) rfl ?_
  refine T.ist_3 (q := 12) dX4_weigh_11 rfl (by decide) sk_ok_i ?_
  refine S.i3 h ?_
  intro y11 h
  refine T.ild_2 (q := 13) dX4_weigh_12 rfl ?_
  refine s_join (fun s51_13 : Int32 => TJ G mX4_weigh (sk_R 1 0 0) (sk_K G 0 0 (rV Q) noX) 0 0 51 [some (.ref (G.2.2.1 130)), some (.int a1), some (.int y6), some (.int s51_13), none] [] M) h (fun s51_13 h => ?_) (fun j51_13 hj51_13 h => ?_)
  · refine T.ild_2 (q := 52) dX4_weigh_51 rfl ?_
    refine T.ald_0 (q := 53) dX4_weigh_52 rfl ?_
    refine g_X4_93 rfl dX4_weigh_53 (q := 56) rfl ?_
    refine s_dia (fun s76_56 : Int32 => TJ G mX4_weigh (sk_R 1 0 0) (sk_K G 0 0 (rV Q) noX) 0 0 76 [some (.ref (G.2.2.1 130)), some (.int a1), some (.int y6), some (.int s51_13), none] [.int s76_56] M) h (fun s76_56 h => ?_) (fun k9 hJ9 h => ?_)
    · refine T.ist_4 (q := 78) dX4_weigh_76 rfl (by decide) sk_ok_i ?_
      refine T.ild_3 (q := 79) dX4_weigh_78 rfl ?_
      refine T.ald_0 (q := 80) dX4_weigh_79 rfl ?_
      refine g_X4_90 rfl dX4_weigh_80 (q := 83) rfl ?_
      refine T.ic_lt (tgt := 99) (q := 86) dX4_weigh_83 (by decide) rfl (fun h83 => ?_) (fun h83 => ?_)
      · replace h := s_t (Or.inl h83) h
        refine T.ald_0 (q := 100) dX4_weigh_99 rfl ?_
        refine T.ild_1 (q := 101) dX4_weigh_100 rfl ?_
        refine p_X4_87 rfl dX4_weigh_101 (q := 104) rfl ?_
        refine S.mem h ?_
        intro M101 h
        refine T.ald_0 (q := 105) dX4_weigh_104 rfl ?_
        refine T.ild_3 (q := 106) dX4_weigh_105 rfl ?_
        refine p_X4_90 rfl dX4_weigh_106 (q := 109) rfl ?_
        refine S.mem h ?_
        intro M106 h
        refine T.ald_0 (q := 110) dX4_weigh_109 rfl ?_
        refine T.ild_2 (q := 111) dX4_weigh_110 rfl ?_
        refine p_X4_93 h.1 rfl dX4_weigh_111 (q := 114) rfl ?_
        replace h := h.2
        refine S.mem h ?_
        intro M111 h
        exact T.retV rfl dX4_weigh_114 (by decide) (by decide) h
      · refine T.ild_3 (q := 87) dX4_weigh_86 rfl ?_
        refine T.ald_0 (q := 88) dX4_weigh_87 rfl ?_
        refine g_X4_90 rfl dX4_weigh_88 (q := 91) rfl ?_
        refine T.ic_ne (tgt := 114) (q := 94) dX4_weigh_91 (by decide) rfl (fun h91 => ?_) (fun h91 => ?_)
        · replace h := s_f (fun q => q.elim h83 (fun q => h91 q.1)) h
          exact T.retV rfl dX4_weigh_114 (by decide) (by decide) h
        · refine T.ild_4 (q := 96) dX4_weigh_94 rfl ?_
          refine T.if_eq (tgt := 114) (q := 99) dX4_weigh_96 (by decide) rfl (fun h96 => ?_) (fun h96 => ?_)
          · replace h := s_f (fun q => q.elim h83 (fun q => (fun q => q h96) q.2)) h
            exact T.retV rfl dX4_weigh_114 (by decide) (by decide) h
          · replace h := s_t (Or.inr ⟨h91, h96⟩) h
            refine T.ald_0 (q := 100) dX4_weigh_99 rfl ?_
            refine T.ild_1 (q := 101) dX4_weigh_100 rfl ?_
            refine p_X4_87 rfl dX4_weigh_101 (q := 104) rfl ?_
            refine S.mem h ?_
            intro M101 h
            refine T.ald_0 (q := 105) dX4_weigh_104 rfl ?_
            refine T.ild_3 (q := 106) dX4_weigh_105 rfl ?_
            refine p_X4_90 rfl dX4_weigh_106 (q := 109) rfl ?_
            refine S.mem h ?_
            intro M106 h
            refine T.ald_0 (q := 110) dX4_weigh_109 rfl ?_
            refine T.ild_2 (q := 111) dX4_weigh_110 rfl ?_
            refine p_X4_93 h.1 rfl dX4_weigh_111 (q := 114) rfl ?_
            replace h := h.2
            refine S.mem h ?_
            intro M111 h
            exact T.retV rfl dX4_weigh_114 (by decide) (by decide) h
    · refine T.ic_ne (tgt := 75) (q := 59) dX4_weigh_56 (by decide) rfl (fun h56 => ?_) (fun h56 => ?_)
      · replace h := s_fk h56 h
        refine T.ild_2 (q := 76) dX4_weigh_75 rfl ?_
        exact hJ9 _ h
      · replace h := s_tk h56 h
        refine T.ild_1 (q := 60) dX4_weigh_59 rfl ?_
        refine T.ald_0 (q := 61) dX4_weigh_60 rfl ?_
        refine g_X4_87 rfl dX4_weigh_61 (q := 64) rfl ?_
        refine T.ic_ge (tgt := 71) (q := 67) dX4_weigh_64 (by decide) rfl (fun h64 => ?_) (fun h64 => ?_)
        · replace h := s_tk h64 h
          refine T.iconst (q := 72) (0) dX4_weigh_71 rfl (by decide) ?_
          refine T.goto (tgt := 76) dX4_weigh_72 (by decide) ?_
          exact hJ9 _ h
        · replace h := s_fk h64 h
          refine T.iconst (q := 68) (1) dX4_weigh_67 rfl (by decide) ?_
          refine T.goto (tgt := 76) dX4_weigh_68 (by decide) ?_
          exact hJ9 _ h
  · refine T.if_eq (tgt := 51) (q := 16) dX4_weigh_13 (by decide) rfl (fun h13 => ?_) (fun h13 => ?_)
    · replace h := s_f (fun q => q.1 h13) h
      exact hj51_13 y11 h
    · refine T.ald_0 (q := 17) dX4_weigh_16 rfl ?_
      refine g_X4_115 rfl dX4_weigh_17 (q := 20) rfl ?_
      refine T.iconst (q := 21) (1) dX4_weigh_20 rfl (by decide) ?_
      refine T.ic_ne (tgt := 51) (q := 24) dX4_weigh_21 (by decide) rfl (fun h21 => ?_) (fun h21 => ?_)
      · replace h := s_f (fun q => (fun q => h21 q.1) q.2) h
        exact hj51_13 y11 h
      · refine T.ild_3 (q := 25) dX4_weigh_24 rfl ?_
        refine T.iconst (q := 26) (1) dX4_weigh_25 rfl (by decide) ?_
        refine T.ic_le (tgt := 51) (q := 29) dX4_weigh_26 (by decide) rfl (fun h26 => ?_) (fun h26 => ?_)
        · replace h := s_f (fun q => (fun q => (fun q => q h26) q.2) q.2) h
          exact hj51_13 y11 h
        · replace h := s_t ⟨h13, ⟨h21, h26⟩⟩ h
          refine T.ald_0 (q := 30) dX4_weigh_29 rfl ?_
          refine g_X4_26 rfl dX4_weigh_30 (q := 33) rfl ?_
          refine T.ald_0 (q := 34) dX4_weigh_33 rfl ?_
          refine T.ild_1 (q := 35) dX4_weigh_34 rfl ?_
          refine k_X4_52 rfl dX4_weigh_35 (q := 38) rfl (by decide) (by decide) (by decide) (Nat.le_of_ble_eq_true rfl) (t_X4_slotOf  h) ?_
          rintro r35 _ ⟨h, h9⟩
          obtain rfl := h9.symm
          refine T.iald (n := 7129) rfl rfl (by decide) dX4_weigh_38 (q := 39) rfl h.1 ?_
          replace h := h.2
          refine T.ald_0 (q := 40) dX4_weigh_39 rfl ?_
          refine g_X4_62 rfl dX4_weigh_40 (q := 43) rfl ?_
          refine T.ild_3 (q := 44) dX4_weigh_43 rfl ?_
          refine T.iadd (q := 45) dX4_weigh_44 rfl ?_
          refine T.ic_ne (tgt := 51) (q := 48) dX4_weigh_45 (by decide) rfl (fun h45 => ?_) (fun h45 => ?_)
          · replace h := s_f h45 h
            exact hj51_13 y11 h
          · replace h := s_t h45 h
            refine T.inc_3 (q := 51) (-1) dX4_weigh_48 rfl (by decide) (by decide) sk_ok_i ?_
            exact hj51_13 (y11 + (-1 : Int32)) h
theorem tl_X4_weighAlike_L34 {G : sk_G} {cells slots : Nat} {a1 : Int32} {a2 : Int32} {a3 : Int32} {s3 : Int32 × sk_M} {s13 : Int32 × sk_M} {Q : sk_M → Prop} {k93 : sk_M → Prop}  (hc0 : cells ≤ 0) (hs0 : slots ≤ 0) (hk93 : ∀ s93 : sk_M, k93 s93 → TJ G mX4_weighAlike (sk_R 2 0 0) (sk_K G 0 0 (rV Q) noX) cells slots 93 [some (.ref (G.2.2.1 130)), some (.int a1), some (.int a2), some (.int a3), some (.int s3.1), some (.int s13.1), none] [] s93) : ∀ (F : Nat) (s34 : Int32 × sk_M), lp (w_X4_weighAlike_L34 a2 a3 s3 s13 k93) F s34 → TJ G mX4_weighAlike (sk_R 2 0 0) (sk_K G 0 0 (rV Q) noX) cells slots 34 [some (.ref (G.2.2.1 130)), some (.int a1), some (.int a2), some (.int a3), some (.int s3.1), some (.int s13.1), some (.int s34.1)] [] s34.2 := by
  refine lp_sound (fun c hc9 s34 h => ?_)
  unfold w_X4_weighAlike_L34 at h
  refine T.ild_6 (q := 36) dX4_weighAlike_34 rfl ?_
  refine T.bipush (q := 38) (6) dX4_weighAlike_36 rfl (by decide) ?_
  refine T.ic_ge (tgt := 93) (q := 41) dX4_weighAlike_38 (by decide) rfl (fun h38 => ?_) (fun h38 => ?_)
  · replace h := s_f (fun q => q h38) h
    refine T.drop_6 ?_
    exact hk93 s34.2 h
  · replace h := s_t h38 h
    refine T.ald_0 (q := 42) dX4_weighAlike_41 rfl ?_
    refine g_X4_35 rfl dX4_weighAlike_42 (q := 45) rfl ?_
    refine T.bipush (q := 47) (6) dX4_weighAlike_45 rfl (by decide) ?_
    refine T.ild_5 (q := 49) dX4_weighAlike_47 rfl ?_
    refine T.iadd (q := 50) dX4_weighAlike_49 rfl ?_
    refine T.iald (n := 18) rfl rfl (by decide) dX4_weighAlike_50 (q := 51) rfl h.1 ?_
    replace h := h.2
    refine T.ild_2 (q := 52) dX4_weighAlike_51 rfl ?_
    refine T.ic_ne (tgt := 93) (q := 55) dX4_weighAlike_52 (by decide) rfl (fun h52 => ?_) (fun h52 => ?_)
    · replace h := s_f h52 h
      refine T.drop_6 ?_
      exact hk93 s34.2 h
    · replace h := s_t h52 h
      refine T.ald_0 (q := 56) dX4_weighAlike_55 rfl ?_
      refine g_X4_35 rfl dX4_weighAlike_56 (q := 59) rfl ?_
      refine T.bipush (q := 61) (12) dX4_weighAlike_59 rfl (by decide) ?_
      refine T.ild_6 (q := 63) dX4_weighAlike_61 rfl ?_
      refine T.iadd (q := 64) dX4_weighAlike_63 rfl ?_
      refine T.iald (n := 18) rfl rfl (by decide) dX4_weighAlike_64 (q := 65) rfl h.1 ?_
      replace h := h.2
      refine T.ild_3 (q := 66) dX4_weighAlike_65 rfl ?_
      refine T.ic_ne (tgt := 87) (q := 69) dX4_weighAlike_66 (by decide) rfl (fun h66 => ?_) (fun h66 => ?_)
      · replace h := s_f h66 h
        refine T.inc_6 (q := 90) (1) dX4_weighAlike_87 rfl (by decide) (by decide) sk_ok_i ?_
        refine T.goto (tgt := 34) dX4_weighAlike_90 (by decide) ?_
        exact hc9 ((s34.1 + (1 : Int32)), s34.2) h
      · replace h := s_t h66 h
        refine T.ald_0 (q := 70) dX4_weighAlike_69 rfl ?_
        refine T.bipush (q := 72) (36) dX4_weighAlike_70 rfl (by decide) ?_
        refine T.ild_4 (q := 74) dX4_weighAlike_72 rfl ?_
        refine T.imul (q := 75) dX4_weighAlike_74 rfl ?_
        refine T.bipush (q := 77) (6) dX4_weighAlike_75 rfl (by decide) ?_
        refine T.ild_5 (q := 79) dX4_weighAlike_77 rfl ?_
        refine T.imul (q := 80) dX4_weighAlike_79 rfl ?_
        refine T.iadd (q := 81) dX4_weighAlike_80 rfl ?_
        refine T.ild_6 (q := 83) dX4_weighAlike_81 rfl ?_
        refine T.iadd (q := 84) dX4_weighAlike_83 rfl ?_
        refine k_X4_118 rfl dX4_weighAlike_84 (q := 87) rfl (by decide) hc0 hs0 (Nat.le_of_ble_eq_true rfl) (t_X4_weigh  h) ?_
        intro M84 h
        refine T.inc_6 (q := 90) (1) dX4_weighAlike_87 rfl (by decide) (by decide) sk_ok_i ?_
        refine T.goto (tgt := 34) dX4_weighAlike_90 (by decide) ?_
        exact hc9 ((s34.1 + (1 : Int32)), M84) h
theorem tl_X4_weighAlike_L13 {G : sk_G} {cells slots : Nat} {a1 : Int32} {a2 : Int32} {a3 : Int32} {s3 : Int32 × sk_M} {Q : sk_M → Prop} {k99 : sk_M → Prop}  (hc0 : cells ≤ 0) (hs0 : slots ≤ 0) (hk99 : ∀ s99 : sk_M, k99 s99 → TJ G mX4_weighAlike (sk_R 2 0 0) (sk_K G 0 0 (rV Q) noX) cells slots 99 [some (.ref (G.2.2.1 130)), some (.int a1), some (.int a2), some (.int a3), some (.int s3.1), none, none] [] s99) : ∀ (F : Nat) (s13 : Int32 × sk_M), lp (w_X4_weighAlike_L13 a1 a2 a3 s3 k99) F s13 → TJ G mX4_weighAlike (sk_R 2 0 0) (sk_K G 0 0 (rV Q) noX) cells slots 13 [some (.ref (G.2.2.1 130)), some (.int a1), some (.int a2), some (.int a3), some (.int s3.1), some (.int s13.1), none] [] s13.2 := by
  refine lp_sound (fun c hc9 s13 h => ?_)
  unfold w_X4_weighAlike_L13 at h
  refine T.ild_5 (q := 15) dX4_weighAlike_13 rfl ?_
  refine T.bipush (q := 17) (6) dX4_weighAlike_15 rfl (by decide) ?_
  refine T.ic_ge (tgt := 99) (q := 20) dX4_weighAlike_17 (by decide) rfl (fun h17 => ?_) (fun h17 => ?_)
  · replace h := s_f (fun q => q h17) h
    refine T.drop_5 ?_
    exact hk99 s13.2 h
  · replace h := s_t h17 h
    refine T.ald_0 (q := 21) dX4_weighAlike_20 rfl ?_
    refine g_X4_35 rfl dX4_weighAlike_21 (q := 24) rfl ?_
    refine T.ild_4 (q := 26) dX4_weighAlike_24 rfl ?_
    refine T.iald (n := 18) rfl rfl (by decide) dX4_weighAlike_26 (q := 27) rfl h.1 ?_
    replace h := h.2
    refine T.ild_1 (q := 28) dX4_weighAlike_27 rfl ?_
    refine T.ic_ne (tgt := 99) (q := 31) dX4_weighAlike_28 (by decide) rfl (fun h28 => ?_) (fun h28 => ?_)
    · replace h := s_f h28 h
      refine T.drop_5 ?_
      exact hk99 s13.2 h
    · replace h := s_t h28 h
      refine T.ild_3 (q := 32) dX4_weighAlike_31 rfl ?_
      refine T.ist_6 (q := 34) dX4_weighAlike_32 rfl (by decide) sk_ok_i ?_
      refine tl_X4_weighAlike_L34  hc0 hs0 ?_ _ (a3, s13.2) h
      intro s93 h
      refine T.inc_5 (q := 96) (1) dX4_weighAlike_93 rfl (by decide) (by decide) sk_ok_i ?_
      refine T.goto (tgt := 13) dX4_weighAlike_96 (by decide) ?_
      exact hc9 ((s13.1 + (1 : Int32)), s93) h
theorem tl_X4_weighAlike_L3 {G : sk_G} {cells slots : Nat} {a1 : Int32} {a2 : Int32} {a3 : Int32} {Q : sk_M → Prop}  (hc0 : cells ≤ 0) (hs0 : slots ≤ 0) : ∀ (F : Nat) (s3 : Int32 × sk_M), lp (w_X4_weighAlike_L3 a1 a2 a3 Q) F s3 → TJ G mX4_weighAlike (sk_R 2 0 0) (sk_K G 0 0 (rV Q) noX) cells slots 3 [some (.ref (G.2.2.1 130)), some (.int a1), some (.int a2), some (.int a3), some (.int s3.1), none, none] [] s3.2 := by
  refine lp_sound (fun c hc9 s3 h => ?_)
  unfold w_X4_weighAlike_L3 at h
  refine T.ild_4 (q := 5) dX4_weighAlike_3 rfl ?_
  refine T.bipush (q := 7) (6) dX4_weighAlike_5 rfl (by decide) ?_
  refine T.ic_ge (tgt := 105) (q := 10) dX4_weighAlike_7 (by decide) rfl (fun h7 => ?_) (fun h7 => ?_)
  · replace h := s_f (fun q => q h7) h
    exact T.retV rfl dX4_weighAlike_105 hc0 hs0 h
  · replace h := s_t h7 h
    refine T.ild_2 (q := 11) dX4_weighAlike_10 rfl ?_
    refine T.ist_5 (q := 13) dX4_weighAlike_11 rfl (by decide) sk_ok_i ?_
    refine tl_X4_weighAlike_L13  hc0 hs0 ?_ _ (a2, s3.2) h
    intro s99 h
    refine T.inc_4 (q := 102) (1) dX4_weighAlike_99 rfl (by decide) (by decide) sk_ok_i ?_
    refine T.goto (tgt := 3) dX4_weighAlike_102 (by decide) ?_
    exact hc9 ((s3.1 + (1 : Int32)), s99) h
theorem t_X4_weighAlike {G : sk_G} {M : sk_M} {a1 : Int32} {a2 : Int32} {a3 : Int32}  {Q : sk_M → Prop} (h : w_X4_weighAlike a1 a2 a3 M Q) : Ctr G mX4_weighAlike 2 0 0 [.ref (G.2.2.1 130), .int a1, .int a2, .int a3] M (rV Q) noX := by
  unfold w_X4_weighAlike at h
  refine Ctr.of 3 (by decide) (Nat.le_of_ble_eq_true rfl) ?_
  show TJ G mX4_weighAlike (sk_R 2 0 0) (sk_K G 0 0 (rV Q) noX) 0 0 0 [some (.ref (G.2.2.1 130)), some (.int a1), some (.int a2), some (.int a3), none, none, none] [] M
  refine T.ild_1 (q := 1) dX4_weighAlike_0 rfl ?_
  refine T.ist_4 (q := 3) dX4_weighAlike_1 rfl (by decide) sk_ok_i ?_
  exact tl_X4_weighAlike_L3  (by decide) (by decide) _ (a1, M) h
theorem tl_X4_bestTurning_L46 {G : sk_G} {cells slots : Nat}  {Q : Int32 → sk_M → Prop}  (hc0 : cells ≤ 0) (hs0 : slots ≤ 0) : ∀ (F : Nat) (s46 : Int32 × sk_M), lp (w_X4_bestTurning_L46 Q) F s46 → TJ G mX4_bestTurning (sk_R 3 0 0) (sk_K G 0 0 (rI Q) noX) cells slots 46 [some (.ref (G.2.2.1 130)), some (.int s46.1)] [] s46.2 := by
  refine lp_sound (fun c hc9 s46 h => ?_)
  unfold w_X4_bestTurning_L46 at h
  refine T.ild_1 (q := 47) dX4_bestTurning_46 rfl ?_
  refine T.sipush (q := 50) (216) dX4_bestTurning_47 rfl (by decide) ?_
  refine T.ic_ge (tgt := 128) (q := 53) dX4_bestTurning_50 (by decide) rfl (fun h50 => ?_) (fun h50 => ?_)
  · replace h := s_f (fun q => q h50) h
    refine T.ald_0 (q := 129) dX4_bestTurning_128 rfl ?_
    refine g_X4_87 rfl dX4_bestTurning_129 (q := 132) rfl ?_
    exact T.retI rfl dX4_bestTurning_132 hc0 hs0 h
  · replace h := s_t h50 h
    refine T.ald_0 (q := 54) dX4_bestTurning_53 rfl ?_
    refine g_X4_90 rfl dX4_bestTurning_54 (q := 57) rfl ?_
    refine T.iconst (q := 58) (1) dX4_bestTurning_57 rfl (by decide) ?_
    refine T.ic_ne (tgt := 81) (q := 61) dX4_bestTurning_58 (by decide) rfl (fun h58 => ?_) (fun h58 => ?_)
    · replace h := s_f (fun q => h58 q.1) h
      refine T.ald_0 (q := 82) dX4_bestTurning_81 rfl ?_
      refine T.ild_1 (q := 83) dX4_bestTurning_82 rfl ?_
      refine k_X4_97 rfl dX4_bestTurning_83 (q := 86) rfl (by decide) hc0 hs0 (Nat.le_of_ble_eq_true rfl) (t_X4_leads  h) ?_
      rintro r83 _ ⟨h, h9⟩
      obtain rfl := h9.symm
      refine T.if_eq (tgt := 122) (q := 89) dX4_bestTurning_86 (by decide) rfl (fun h86 => ?_) (fun h86 => ?_)
      · replace h := s_f (fun q => q h86) h
        refine T.inc_1 (q := 125) (1) dX4_bestTurning_122 rfl (by decide) (by decide) sk_ok_r ?_
        refine T.goto (tgt := 46) dX4_bestTurning_125 (by decide) ?_
        exact hc9 ((s46.1 + (1 : Int32)), s46.2) h
      · replace h := s_t h86 h
        refine T.ald_0 (q := 90) dX4_bestTurning_89 rfl ?_
        refine T.ild_1 (q := 91) dX4_bestTurning_90 rfl ?_
        refine T.ald_0 (q := 92) dX4_bestTurning_91 rfl ?_
        refine g_X4_90 rfl dX4_bestTurning_92 (q := 95) rfl ?_
        refine T.iconst (q := 96) (2) dX4_bestTurning_95 rfl (by decide) ?_
        refine T.iadd (q := 97) dX4_bestTurning_96 rfl ?_
        refine k_X4_101 rfl dX4_bestTurning_97 (q := 100) rfl (by decide) hc0 hs0 (Nat.le_of_ble_eq_true rfl) (t_X4_partAll  h) ?_
        intro r97 M97 h
        refine T.if_eq (tgt := 122) (q := 103) dX4_bestTurning_100 (by decide) rfl (fun h100 => ?_) (fun h100 => ?_)
        · replace h := s_f (fun q => q h100) h
          refine T.inc_1 (q := 125) (1) dX4_bestTurning_122 rfl (by decide) (by decide) sk_ok_r ?_
          refine T.goto (tgt := 46) dX4_bestTurning_125 (by decide) ?_
          exact hc9 ((s46.1 + (1 : Int32)), M97) h
        · replace h := s_t h100 h
          refine T.ald_0 (q := 104) dX4_bestTurning_103 rfl ?_
          refine T.ild_1 (q := 105) dX4_bestTurning_104 rfl ?_
          refine T.bipush (q := 107) (36) dX4_bestTurning_105 rfl (by decide) ?_
          refine T.idiv (q := 108) dX4_bestTurning_107 rfl (by decide) ?_
          refine T.ild_1 (q := 109) dX4_bestTurning_108 rfl ?_
          refine T.bipush (q := 111) (6) dX4_bestTurning_109 rfl (by decide) ?_
          refine T.idiv (q := 112) dX4_bestTurning_111 rfl (by decide) ?_
          refine T.bipush (q := 114) (6) dX4_bestTurning_112 rfl (by decide) ?_
          refine T.irem (q := 115) dX4_bestTurning_114 rfl (by decide) ?_
          refine T.ild_1 (q := 116) dX4_bestTurning_115 rfl ?_
          refine T.bipush (q := 118) (6) dX4_bestTurning_116 rfl (by decide) ?_
          refine T.irem (q := 119) dX4_bestTurning_118 rfl (by decide) ?_
          refine k_X4_105 rfl dX4_bestTurning_119 (q := 122) rfl (by decide) hc0 hs0 (Nat.le_of_ble_eq_true rfl) (t_X4_weighAlike  h) ?_
          intro M119 h
          refine T.inc_1 (q := 125) (1) dX4_bestTurning_122 rfl (by decide) (by decide) sk_ok_r ?_
          refine T.goto (tgt := 46) dX4_bestTurning_125 (by decide) ?_
          exact hc9 ((s46.1 + (1 : Int32)), M119) h
    · refine T.ald_0 (q := 62) dX4_bestTurning_61 rfl ?_
      refine g_X4_93 rfl dX4_bestTurning_62 (q := 65) rfl ?_
      refine T.if_eq (tgt := 81) (q := 68) dX4_bestTurning_65 (by decide) rfl (fun h65 => ?_) (fun h65 => ?_)
      · replace h := s_f (fun q => (fun q => q.1 h65) q.2) h
        refine T.ald_0 (q := 82) dX4_bestTurning_81 rfl ?_
        refine T.ild_1 (q := 83) dX4_bestTurning_82 rfl ?_
        refine k_X4_97 rfl dX4_bestTurning_83 (q := 86) rfl (by decide) hc0 hs0 (Nat.le_of_ble_eq_true rfl) (t_X4_leads  h) ?_
        rintro r83 _ ⟨h, h9⟩
        obtain rfl := h9.symm
        refine T.if_eq (tgt := 122) (q := 89) dX4_bestTurning_86 (by decide) rfl (fun h86 => ?_) (fun h86 => ?_)
        · replace h := s_f (fun q => q h86) h
          refine T.inc_1 (q := 125) (1) dX4_bestTurning_122 rfl (by decide) (by decide) sk_ok_r ?_
          refine T.goto (tgt := 46) dX4_bestTurning_125 (by decide) ?_
          exact hc9 ((s46.1 + (1 : Int32)), s46.2) h
        · replace h := s_t h86 h
          refine T.ald_0 (q := 90) dX4_bestTurning_89 rfl ?_
          refine T.ild_1 (q := 91) dX4_bestTurning_90 rfl ?_
          refine T.ald_0 (q := 92) dX4_bestTurning_91 rfl ?_
          refine g_X4_90 rfl dX4_bestTurning_92 (q := 95) rfl ?_
          refine T.iconst (q := 96) (2) dX4_bestTurning_95 rfl (by decide) ?_
          refine T.iadd (q := 97) dX4_bestTurning_96 rfl ?_
          refine k_X4_101 rfl dX4_bestTurning_97 (q := 100) rfl (by decide) hc0 hs0 (Nat.le_of_ble_eq_true rfl) (t_X4_partAll  h) ?_
          intro r97 M97 h
          refine T.if_eq (tgt := 122) (q := 103) dX4_bestTurning_100 (by decide) rfl (fun h100 => ?_) (fun h100 => ?_)
          · replace h := s_f (fun q => q h100) h
            refine T.inc_1 (q := 125) (1) dX4_bestTurning_122 rfl (by decide) (by decide) sk_ok_r ?_
            refine T.goto (tgt := 46) dX4_bestTurning_125 (by decide) ?_
            exact hc9 ((s46.1 + (1 : Int32)), M97) h
          · replace h := s_t h100 h
            refine T.ald_0 (q := 104) dX4_bestTurning_103 rfl ?_
            refine T.ild_1 (q := 105) dX4_bestTurning_104 rfl ?_
            refine T.bipush (q := 107) (36) dX4_bestTurning_105 rfl (by decide) ?_
            refine T.idiv (q := 108) dX4_bestTurning_107 rfl (by decide) ?_
            refine T.ild_1 (q := 109) dX4_bestTurning_108 rfl ?_
            refine T.bipush (q := 111) (6) dX4_bestTurning_109 rfl (by decide) ?_
            refine T.idiv (q := 112) dX4_bestTurning_111 rfl (by decide) ?_
            refine T.bipush (q := 114) (6) dX4_bestTurning_112 rfl (by decide) ?_
            refine T.irem (q := 115) dX4_bestTurning_114 rfl (by decide) ?_
            refine T.ild_1 (q := 116) dX4_bestTurning_115 rfl ?_
            refine T.bipush (q := 118) (6) dX4_bestTurning_116 rfl (by decide) ?_
            refine T.irem (q := 119) dX4_bestTurning_118 rfl (by decide) ?_
            refine k_X4_105 rfl dX4_bestTurning_119 (q := 122) rfl (by decide) hc0 hs0 (Nat.le_of_ble_eq_true rfl) (t_X4_weighAlike  h) ?_
            intro M119 h
            refine T.inc_1 (q := 125) (1) dX4_bestTurning_122 rfl (by decide) (by decide) sk_ok_r ?_
            refine T.goto (tgt := 46) dX4_bestTurning_125 (by decide) ?_
            exact hc9 ((s46.1 + (1 : Int32)), M119) h
      · refine T.ald_0 (q := 69) dX4_bestTurning_68 rfl ?_
        refine g_X4_87 rfl dX4_bestTurning_69 (q := 72) rfl ?_
        refine T.ild_1 (q := 73) dX4_bestTurning_72 rfl ?_
        refine T.ic_ge (tgt := 81) (q := 76) dX4_bestTurning_73 (by decide) rfl (fun h73 => ?_) (fun h73 => ?_)
        · replace h := s_f (fun q => (fun q => (fun q => q h73) q.2) q.2) h
          refine T.ald_0 (q := 82) dX4_bestTurning_81 rfl ?_
          refine T.ild_1 (q := 83) dX4_bestTurning_82 rfl ?_
          refine k_X4_97 rfl dX4_bestTurning_83 (q := 86) rfl (by decide) hc0 hs0 (Nat.le_of_ble_eq_true rfl) (t_X4_leads  h) ?_
          rintro r83 _ ⟨h, h9⟩
          obtain rfl := h9.symm
          refine T.if_eq (tgt := 122) (q := 89) dX4_bestTurning_86 (by decide) rfl (fun h86 => ?_) (fun h86 => ?_)
          · replace h := s_f (fun q => q h86) h
            refine T.inc_1 (q := 125) (1) dX4_bestTurning_122 rfl (by decide) (by decide) sk_ok_r ?_
            refine T.goto (tgt := 46) dX4_bestTurning_125 (by decide) ?_
            exact hc9 ((s46.1 + (1 : Int32)), s46.2) h
          · replace h := s_t h86 h
            refine T.ald_0 (q := 90) dX4_bestTurning_89 rfl ?_
            refine T.ild_1 (q := 91) dX4_bestTurning_90 rfl ?_
            refine T.ald_0 (q := 92) dX4_bestTurning_91 rfl ?_
            refine g_X4_90 rfl dX4_bestTurning_92 (q := 95) rfl ?_
            refine T.iconst (q := 96) (2) dX4_bestTurning_95 rfl (by decide) ?_
            refine T.iadd (q := 97) dX4_bestTurning_96 rfl ?_
            refine k_X4_101 rfl dX4_bestTurning_97 (q := 100) rfl (by decide) hc0 hs0 (Nat.le_of_ble_eq_true rfl) (t_X4_partAll  h) ?_
            intro r97 M97 h
            refine T.if_eq (tgt := 122) (q := 103) dX4_bestTurning_100 (by decide) rfl (fun h100 => ?_) (fun h100 => ?_)
            · replace h := s_f (fun q => q h100) h
              refine T.inc_1 (q := 125) (1) dX4_bestTurning_122 rfl (by decide) (by decide) sk_ok_r ?_
              refine T.goto (tgt := 46) dX4_bestTurning_125 (by decide) ?_
              exact hc9 ((s46.1 + (1 : Int32)), M97) h
            · replace h := s_t h100 h
              refine T.ald_0 (q := 104) dX4_bestTurning_103 rfl ?_
              refine T.ild_1 (q := 105) dX4_bestTurning_104 rfl ?_
              refine T.bipush (q := 107) (36) dX4_bestTurning_105 rfl (by decide) ?_
              refine T.idiv (q := 108) dX4_bestTurning_107 rfl (by decide) ?_
              refine T.ild_1 (q := 109) dX4_bestTurning_108 rfl ?_
              refine T.bipush (q := 111) (6) dX4_bestTurning_109 rfl (by decide) ?_
              refine T.idiv (q := 112) dX4_bestTurning_111 rfl (by decide) ?_
              refine T.bipush (q := 114) (6) dX4_bestTurning_112 rfl (by decide) ?_
              refine T.irem (q := 115) dX4_bestTurning_114 rfl (by decide) ?_
              refine T.ild_1 (q := 116) dX4_bestTurning_115 rfl ?_
              refine T.bipush (q := 118) (6) dX4_bestTurning_116 rfl (by decide) ?_
              refine T.irem (q := 119) dX4_bestTurning_118 rfl (by decide) ?_
              refine k_X4_105 rfl dX4_bestTurning_119 (q := 122) rfl (by decide) hc0 hs0 (Nat.le_of_ble_eq_true rfl) (t_X4_weighAlike  h) ?_
              intro M119 h
              refine T.inc_1 (q := 125) (1) dX4_bestTurning_122 rfl (by decide) (by decide) sk_ok_r ?_
              refine T.goto (tgt := 46) dX4_bestTurning_125 (by decide) ?_
              exact hc9 ((s46.1 + (1 : Int32)), M119) h
        · replace h := s_t ⟨h58, ⟨h65, h73⟩⟩ h
          refine T.ald_0 (q := 77) dX4_bestTurning_76 rfl ?_
          refine g_X4_87 rfl dX4_bestTurning_77 (q := 80) rfl ?_
          exact T.retI rfl dX4_bestTurning_80 hc0 hs0 h
theorem t_X4_bestTurning {G : sk_G} {M : sk_M}   {Q : Int32 → sk_M → Prop} (h : w_X4_bestTurning  M Q) : Ctr G mX4_bestTurning 3 0 0 [.ref (G.2.2.1 130)] M (rI Q) noX := by
  unfold w_X4_bestTurning at h
  refine Ctr.of 1 (by decide) (Nat.le_of_ble_eq_true rfl) ?_
  show TJ G mX4_bestTurning (sk_R 3 0 0) (sk_K G 0 0 (rI Q) noX) 0 0 0 [some (.ref (G.2.2.1 130)), none] [] M
  refine T.ald_0 (q := 1) dX4_bestTurning_0 rfl ?_
  refine g_X4_38 rfl dX4_bestTurning_1 (q := 4) rfl ?_
  refine T.iconst (q := 5) (1) dX4_bestTurning_4 rfl (by decide) ?_
  refine T.ic_eq (tgt := 16) (q := 8) dX4_bestTurning_5 (by decide) rfl (fun h5 => ?_) (fun h5 => ?_)
  · replace h := s_t (Or.inl h5) h
    refine T.ald_0 (q := 17) dX4_bestTurning_16 rfl ?_
    refine g_X4_15 rfl dX4_bestTurning_17 (q := 20) rfl ?_
    refine T.iconst (q := 21) (0) dX4_bestTurning_20 rfl (by decide) ?_
    refine T.ialdk (n := 216) rfl rfl (by decide) dX4_bestTurning_21 (q := 22) rfl (k9 := 0) (by decide) ?_
    exact T.retI rfl dX4_bestTurning_22 (by decide) (by decide) h
  · refine T.ald_0 (q := 9) dX4_bestTurning_8 rfl ?_
    refine g_X4_38 rfl dX4_bestTurning_9 (q := 12) rfl ?_
    refine T.iconst (q := 13) (2) dX4_bestTurning_12 rfl (by decide) ?_
    refine T.ic_ne (tgt := 23) (q := 16) dX4_bestTurning_13 (by decide) rfl (fun h13 => ?_) (fun h13 => ?_)
    · replace h := s_f (fun q => q.elim h5 h13) h
      refine T.ald_0 (q := 24) dX4_bestTurning_23 rfl ?_
      refine k_X4_84 rfl dX4_bestTurning_24 (q := 27) rfl (by decide) (by decide) (by decide) (Nat.le_of_ble_eq_true rfl) (t_X4_findLeaders  h) ?_
      intro M24 h
      refine T.ald_0 (q := 28) dX4_bestTurning_27 rfl ?_
      refine T.iconst (q := 29) (0) dX4_bestTurning_28 rfl (by decide) ?_
      refine p_X4_87 rfl dX4_bestTurning_29 (q := 32) rfl ?_
      refine S.mem h ?_
      intro M29 h
      refine T.ald_0 (q := 33) dX4_bestTurning_32 rfl ?_
      refine T.sipush (q := 36) (217) dX4_bestTurning_33 rfl (by decide) ?_
      refine p_X4_90 rfl dX4_bestTurning_36 (q := 39) rfl ?_
      refine S.mem h ?_
      intro M36 h
      refine T.ald_0 (q := 40) dX4_bestTurning_39 rfl ?_
      refine T.iconst (q := 41) (0) dX4_bestTurning_40 rfl (by decide) ?_
      refine p_X4_93 (Or.inl rfl) rfl dX4_bestTurning_41 (q := 44) rfl ?_
      refine S.mem h ?_
      intro M41 h
      refine T.iconst (q := 45) (0) dX4_bestTurning_44 rfl (by decide) ?_
      refine T.ist_1 (q := 46) dX4_bestTurning_45 rfl (by decide) sk_ok_r ?_
      exact tl_X4_bestTurning_L46  (by decide) (by decide) _ ((0 : Int32), M41) h
    · replace h := s_t (Or.inr h13) h
      refine T.ald_0 (q := 17) dX4_bestTurning_16 rfl ?_
      refine g_X4_15 rfl dX4_bestTurning_17 (q := 20) rfl ?_
      refine T.iconst (q := 21) (0) dX4_bestTurning_20 rfl (by decide) ?_
      refine T.ialdk (n := 216) rfl rfl (by decide) dX4_bestTurning_21 (q := 22) rfl (k9 := 0) (by decide) ?_
      exact T.retI rfl dX4_bestTurning_22 (by decide) (by decide) h
theorem tl_X4_mostShared_L11 {G : sk_G} {cells slots : Nat}  {Q : Int32 → sk_M → Prop} {k40 : sk_M → Prop}  (hc0 : cells ≤ 0) (hs0 : slots ≤ 0) (hk40 : ∀ s40 : sk_M, k40 s40 → TJ G mX4_mostShared (sk_R 2 0 0) (sk_K G 0 0 (rI Q) noX) cells slots 40 [some (.ref (G.2.2.1 130)), none, none, none, none, none] [] s40) : ∀ (F : Nat) (s11 : Int32 × sk_M), lp (w_X4_mostShared_L11  k40) F s11 → TJ G mX4_mostShared (sk_R 2 0 0) (sk_K G 0 0 (rI Q) noX) cells slots 11 [some (.ref (G.2.2.1 130)), none, some (.int s11.1), none, none, none] [] s11.2 := by
  refine lp_sound (fun c hc9 s11 h => ?_)
  unfold w_X4_mostShared_L11 at h
  refine T.ild_2 (q := 12) dX4_mostShared_11 rfl ?_
  refine T.ald_0 (q := 13) dX4_mostShared_12 rfl ?_
  refine g_X4_38 rfl dX4_mostShared_13 (q := 16) rfl ?_
  refine T.ic_ge (tgt := 40) (q := 19) dX4_mostShared_16 (by decide) rfl (fun h16 => ?_) (fun h16 => ?_)
  · replace h := s_f (fun q => q h16) h
    refine T.drop_2 ?_
    exact hk40 s11.2 h
  · replace h := s_t h16 h
    refine T.ald_0 (q := 20) dX4_mostShared_19 rfl ?_
    refine T.ald_0 (q := 21) dX4_mostShared_20 rfl ?_
    refine T.ald_0 (q := 22) dX4_mostShared_21 rfl ?_
    refine g_X4_15 rfl dX4_mostShared_22 (q := 25) rfl ?_
    refine T.ild_2 (q := 26) dX4_mostShared_25 rfl ?_
    refine T.iald (n := 216) rfl rfl (by decide) dX4_mostShared_26 (q := 27) rfl h.1 ?_
    replace h := h.2
    refine k_X4_52 rfl dX4_mostShared_27 (q := 30) rfl (by decide) hc0 hs0 (Nat.le_of_ble_eq_true rfl) (t_X4_slotOf  h) ?_
    rintro r27 _ ⟨h, h9⟩
    obtain rfl := h9.symm
    refine k_X4_81 rfl dX4_mostShared_30 (q := 33) rfl (by decide) hc0 hs0 (Nat.le_of_ble_eq_true rfl) (t_X4_countOne  h) ?_
    intro r30 M30 h
    refine T.pop (q := 34) dX4_mostShared_33 rfl rfl ?_
    refine T.inc_2 (q := 37) (1) dX4_mostShared_34 rfl (by decide) (by decide) sk_ok_n ?_
    refine T.goto (tgt := 11) dX4_mostShared_37 (by decide) ?_
    exact hc9 ((s11.1 + (1 : Int32)), M30) h
theorem tl_X4_mostShared_L50 {G : sk_G} {cells slots : Nat} {s40 : sk_M} {Q : Int32 → sk_M → Prop}  (hc0 : cells ≤ 0) (hs0 : slots ≤ 0) : ∀ (F : Nat) (s50 : Int32 × Int32 × Int32), lp (w_X4_mostShared_L50 s40 Q) F s50 → TJ G mX4_mostShared (sk_R 2 0 0) (sk_K G 0 0 (rI Q) noX) cells slots 50 [some (.ref (G.2.2.1 130)), none, some (.int s50.1), some (.int s50.2.1), some (.int s50.2.2), none] [] s40 := by
  refine lp_sound (fun c hc9 s50 h => ?_)
  unfold w_X4_mostShared_L50 at h
  refine T.ild_4 (q := 52) dX4_mostShared_50 rfl ?_
  refine T.ald_0 (q := 53) dX4_mostShared_52 rfl ?_
  refine g_X4_38 rfl dX4_mostShared_53 (q := 56) rfl ?_
  refine T.ic_ge (tgt := 100) (q := 59) dX4_mostShared_56 (by decide) rfl (fun h56 => ?_) (fun h56 => ?_)
  · replace h := s_f (fun q => q h56) h
    refine T.ild_2 (q := 101) dX4_mostShared_100 rfl ?_
    exact T.retI rfl dX4_mostShared_101 hc0 hs0 h
  · replace h := s_t h56 h
    refine T.ald_0 (q := 60) dX4_mostShared_59 rfl ?_
    refine g_X4_26 rfl dX4_mostShared_60 (q := 63) rfl ?_
    refine T.ald_0 (q := 64) dX4_mostShared_63 rfl ?_
    refine T.ald_0 (q := 65) dX4_mostShared_64 rfl ?_
    refine g_X4_15 rfl dX4_mostShared_65 (q := 68) rfl ?_
    refine T.ild_4 (q := 70) dX4_mostShared_68 rfl ?_
    refine T.iald (n := 216) rfl rfl (by decide) dX4_mostShared_70 (q := 71) rfl h.1 ?_
    replace h := h.2
    refine k_X4_52 rfl dX4_mostShared_71 (q := 74) rfl (by decide) hc0 hs0 (Nat.le_of_ble_eq_true rfl) (t_X4_slotOf  h) ?_
    rintro r71 _ ⟨h, h9⟩
    obtain rfl := h9.symm
    refine T.iald (n := 7129) rfl rfl (by decide) dX4_mostShared_74 (q := 75) rfl h.1 ?_
    replace h := h.2
    refine T.ist_5 (q := 77) dX4_mostShared_75 rfl (by decide) sk_ok_i ?_
    refine S.i5 h ?_
    intro y75 h
    refine T.ild_5 (q := 79) dX4_mostShared_77 rfl ?_
    refine T.ild_3 (q := 80) dX4_mostShared_79 rfl ?_
    refine T.ic_le (tgt := 94) (q := 83) dX4_mostShared_80 (by decide) rfl (fun h80 => ?_) (fun h80 => ?_)
    · replace h := s_f (fun q => q h80) h
      refine T.inc_4 (q := 97) (1) dX4_mostShared_94 rfl (by decide) (by decide) sk_ok_i ?_
      refine T.goto (tgt := 50) dX4_mostShared_97 (by decide) ?_
      refine T.drop_5 ?_
      exact hc9 (s50.1, s50.2.1, (s50.2.2 + (1 : Int32))) h
    · replace h := s_t h80 h
      refine T.ald_0 (q := 84) dX4_mostShared_83 rfl ?_
      refine g_X4_15 rfl dX4_mostShared_84 (q := 87) rfl ?_
      refine T.ild_4 (q := 89) dX4_mostShared_87 rfl ?_
      refine T.iald (n := 216) rfl rfl (by decide) dX4_mostShared_89 (q := 90) rfl h.1 ?_
      replace h := h.2
      refine T.ist_2 (q := 91) dX4_mostShared_90 rfl (by decide) sk_ok_n ?_
      refine S.i2 h ?_
      intro y90 h
      refine T.ild_5 (q := 93) dX4_mostShared_91 rfl ?_
      refine T.ist_3 (q := 94) dX4_mostShared_93 rfl (by decide) sk_ok_i ?_
      refine T.inc_4 (q := 97) (1) dX4_mostShared_94 rfl (by decide) (by decide) sk_ok_i ?_
      refine T.goto (tgt := 50) dX4_mostShared_97 (by decide) ?_
      refine T.drop_5 ?_
      exact hc9 (y90, y75, (s50.2.2 + (1 : Int32))) h
theorem t_X4_mostShared {G : sk_G} {M : sk_M} {a1 : Int32}  {Q : Int32 → sk_M → Prop} (h : w_X4_mostShared a1 M Q) : Ctr G mX4_mostShared 2 0 0 [.ref (G.2.2.1 130), .int a1] M (rI Q) noX := by
  unfold w_X4_mostShared at h
  refine Ctr.of 4 (by decide) (Nat.le_of_ble_eq_true rfl) ?_
  show TJ G mX4_mostShared (sk_R 2 0 0) (sk_K G 0 0 (rI Q) noX) 0 0 0 [some (.ref (G.2.2.1 130)), some (.int a1), none, none, none, none] [] M
  refine T.ald_0 (q := 1) dX4_mostShared_0 rfl ?_
  refine T.ild_1 (q := 2) dX4_mostShared_1 rfl ?_
  refine k_X4_48 rfl dX4_mostShared_2 (q := 5) rfl (by decide) (by decide) (by decide) (Nat.le_of_ble_eq_true rfl) (t_X4_face  h) ?_
  intro M2 h
  refine T.ald_0 (q := 6) dX4_mostShared_5 rfl ?_
  refine k_X4_78 rfl dX4_mostShared_6 (q := 9) rfl (by decide) (by decide) (by decide) (Nat.le_of_ble_eq_true rfl) (t_X4_startTally  h) ?_
  intro M6 h
  refine T.iconst (q := 10) (0) dX4_mostShared_9 rfl (by decide) ?_
  refine T.ist_2 (q := 11) dX4_mostShared_10 rfl (by decide) sk_ok_i ?_
  refine T.drop_1 ?_
  refine tl_X4_mostShared_L11  (by decide) (by decide) ?_ _ ((0 : Int32), M6) h
  intro s40 h
  refine T.iconst (q := 41) (-1) dX4_mostShared_40 rfl (by decide) ?_
  refine T.ist_2 (q := 42) dX4_mostShared_41 rfl (by decide) sk_ok_n ?_
  refine T.ald_0 (q := 43) dX4_mostShared_42 rfl ?_
  refine g_X4_62 rfl dX4_mostShared_43 (q := 46) rfl ?_
  refine T.ist_3 (q := 47) dX4_mostShared_46 rfl (by decide) sk_ok_i ?_
  refine S.i3 h ?_
  intro y46 h
  refine T.iconst (q := 48) (0) dX4_mostShared_47 rfl (by decide) ?_
  refine T.ist_4 (q := 50) dX4_mostShared_48 rfl (by decide) sk_ok_i ?_
  exact tl_X4_mostShared_L50  (by decide) (by decide) _ ((-1 : Int32), y46, (0 : Int32)) h
theorem tl_X4_turningsNeeded_L14 {G : sk_G} {cells slots : Nat}  {Q : Int32 → sk_M → Prop} {k32 : sk_M → Prop}  (hc0 : cells ≤ 0) (hs0 : slots ≤ 0) (hk32 : ∀ s32 : sk_M, k32 s32 → TJ G mX4_turningsNeeded (sk_R 2 0 0) (sk_K G 0 0 (rI Q) noX) cells slots 32 [some (.ref (G.2.2.1 130)), none, none, none] [] s32) : ∀ (F : Nat) (s14 : Int32 × sk_M), lp (w_X4_turningsNeeded_L14  k32) F s14 → TJ G mX4_turningsNeeded (sk_R 2 0 0) (sk_K G 0 0 (rI Q) noX) cells slots 14 [some (.ref (G.2.2.1 130)), some (.int s14.1), none, none] [] s14.2 := by
  refine lp_sound (fun c hc9 s14 h => ?_)
  unfold w_X4_turningsNeeded_L14 at h
  refine T.ild_1 (q := 15) dX4_turningsNeeded_14 rfl ?_
  refine T.sipush (q := 18) (216) dX4_turningsNeeded_15 rfl (by decide) ?_
  refine T.ic_ge (tgt := 32) (q := 21) dX4_turningsNeeded_18 (by decide) rfl (fun h18 => ?_) (fun h18 => ?_)
  · replace h := s_f (fun q => q h18) h
    refine T.drop_1 ?_
    exact hk32 s14.2 h
  · replace h := s_t h18 h
    refine T.ald_0 (q := 22) dX4_turningsNeeded_21 rfl ?_
    refine T.ild_1 (q := 23) dX4_turningsNeeded_22 rfl ?_
    refine k_X4_121 rfl dX4_turningsNeeded_23 (q := 26) rfl (by decide) hc0 hs0 (Nat.le_of_ble_eq_true rfl) (t_X4_compare  h) ?_
    intro M23 h
    refine T.inc_1 (q := 29) (1) dX4_turningsNeeded_26 rfl (by decide) (by decide) sk_ok_r ?_
    refine T.goto (tgt := 14) dX4_turningsNeeded_29 (by decide) ?_
    exact hc9 ((s14.1 + (1 : Int32)), M23) h
theorem tl_X4_turningsNeeded_L67 {G : sk_G} {cells slots : Nat} {y40 : Int32} {s50 : Int32 × sk_M} {Q : Int32 → sk_M → Prop} {k113 : sk_M → Prop}  (hc0 : cells ≤ 0) (hs0 : slots ≤ 0) (hk113 : ∀ s113 : sk_M, k113 s113 → TJ G mX4_turningsNeeded (sk_R 2 0 0) (sk_K G 0 0 (rI Q) noX) cells slots 113 [some (.ref (G.2.2.1 130)), some (.int y40), some (.int s50.1), none] [] s113) : ∀ (F : Nat) (s67 : Int32 × sk_M), lp (w_X4_turningsNeeded_L67 s50 k113) F s67 → TJ G mX4_turningsNeeded (sk_R 2 0 0) (sk_K G 0 0 (rI Q) noX) cells slots 67 [some (.ref (G.2.2.1 130)), some (.int y40), some (.int s50.1), some (.int s67.1)] [] s67.2 := by
  refine lp_sound (fun c hc9 s67 h => ?_)
  unfold w_X4_turningsNeeded_L67 at h
  refine T.ild_3 (q := 68) dX4_turningsNeeded_67 rfl ?_
  refine T.sipush (q := 71) (216) dX4_turningsNeeded_68 rfl (by decide) ?_
  refine T.ic_ge (tgt := 113) (q := 74) dX4_turningsNeeded_71 (by decide) rfl (fun h71 => ?_) (fun h71 => ?_)
  · replace h := s_f (fun q => q h71) h
    refine T.drop_3 ?_
    exact hk113 s67.2 h
  · replace h := s_t h71 h
    refine T.ald_0 (q := 75) dX4_turningsNeeded_74 rfl ?_
    refine g_X4_32 rfl dX4_turningsNeeded_75 (q := 78) rfl ?_
    refine T.ild_2 (q := 79) dX4_turningsNeeded_78 rfl ?_
    refine T.iald (n := 64) rfl rfl (by decide) dX4_turningsNeeded_79 (q := 80) rfl h.1 ?_
    replace h := h.2
    refine T.iconst (q := 81) (2) dX4_turningsNeeded_80 rfl (by decide) ?_
    refine T.ic_le (tgt := 113) (q := 84) dX4_turningsNeeded_81 (by decide) rfl (fun h81 => ?_) (fun h81 => ?_)
    · replace h := s_f (fun q => q h81) h
      refine T.drop_3 ?_
      exact hk113 s67.2 h
    · replace h := s_t h81 h
      refine T.ald_0 (q := 85) dX4_turningsNeeded_84 rfl ?_
      refine g_X4_32 rfl dX4_turningsNeeded_85 (q := 88) rfl ?_
      refine T.ild_2 (q := 89) dX4_turningsNeeded_88 rfl ?_
      refine T.ald_0 (q := 90) dX4_turningsNeeded_89 rfl ?_
      refine g_X4_32 rfl dX4_turningsNeeded_90 (q := 93) rfl ?_
      refine T.ild_2 (q := 94) dX4_turningsNeeded_93 rfl ?_
      refine T.iald (n := 64) rfl rfl (by decide) dX4_turningsNeeded_94 (q := 95) rfl h.1 ?_
      replace h := h.2
      refine T.iconst (q := 96) (1) dX4_turningsNeeded_95 rfl (by decide) ?_
      refine T.ald_0 (q := 97) dX4_turningsNeeded_96 rfl ?_
      refine T.ild_3 (q := 98) dX4_turningsNeeded_97 rfl ?_
      refine T.ild_2 (q := 99) dX4_turningsNeeded_98 rfl ?_
      refine k_X4_129 rfl dX4_turningsNeeded_99 (q := 102) rfl (by decide) hc0 hs0 (Nat.le_of_ble_eq_true rfl) (t_X4_neededBehind  h) ?_
      rintro r99 _ ⟨h, h9⟩
      obtain rfl := h9.symm
      refine T.iadd (q := 103) dX4_turningsNeeded_102 rfl ?_
      refine k_X4_132 rfl dX4_turningsNeeded_103 (q := 106) rfl (by decide) hc0 hs0 (Nat.le_of_ble_eq_true rfl) ?_
      refine T.iast (n := 64) rfl rfl (by decide) dX4_turningsNeeded_106 (q := 107) rfl h.1 ?_
      refine S.mem h.2 ?_
      intro M106 h
      refine T.inc_3 (q := 110) (1) dX4_turningsNeeded_107 rfl (by decide) (by decide) sk_ok_i ?_
      refine T.goto (tgt := 67) dX4_turningsNeeded_110 (by decide) ?_
      exact hc9 ((s67.1 + (1 : Int32)), M106) h
theorem tl_X4_turningsNeeded_L50 {G : sk_G} {cells slots : Nat} {y40 : Int32} {Q : Int32 → sk_M → Prop}  (hc0 : cells ≤ 0) (hs0 : slots ≤ 0) : ∀ (F : Nat) (s50 : Int32 × sk_M), lp (w_X4_turningsNeeded_L50 y40 Q) F s50 → TJ G mX4_turningsNeeded (sk_R 2 0 0) (sk_K G 0 0 (rI Q) noX) cells slots 50 [some (.ref (G.2.2.1 130)), some (.int y40), some (.int s50.1), none] [] s50.2 := by
  refine lp_sound (fun c hc9 s50 h => ?_)
  unfold w_X4_turningsNeeded_L50 at h
  refine T.ild_2 (q := 51) dX4_turningsNeeded_50 rfl ?_
  refine T.ild_1 (q := 52) dX4_turningsNeeded_51 rfl ?_
  refine T.ic_gt (tgt := 119) (q := 55) dX4_turningsNeeded_52 (by decide) rfl (fun h52 => ?_) (fun h52 => ?_)
  · replace h := s_f (fun q => q h52) h
    refine T.ald_0 (q := 120) dX4_turningsNeeded_119 rfl ?_
    refine g_X4_32 rfl dX4_turningsNeeded_120 (q := 123) rfl ?_
    refine T.ild_1 (q := 124) dX4_turningsNeeded_123 rfl ?_
    refine T.iald (n := 64) rfl rfl (by decide) dX4_turningsNeeded_124 (q := 125) rfl h.1 ?_
    replace h := h.2
    exact T.retI rfl dX4_turningsNeeded_125 hc0 hs0 h
  · replace h := s_t h52 h
    refine T.ald_0 (q := 56) dX4_turningsNeeded_55 rfl ?_
    refine g_X4_32 rfl dX4_turningsNeeded_56 (q := 59) rfl ?_
    refine T.ild_2 (q := 60) dX4_turningsNeeded_59 rfl ?_
    refine T.ild_2 (q := 61) dX4_turningsNeeded_60 rfl ?_
    refine k_X4_124 rfl dX4_turningsNeeded_61 (q := 64) rfl (by decide) hc0 hs0 (Nat.le_of_ble_eq_true rfl) (t_bc32 (P := fun r9 => r9 = (bc32 s50.1)) rfl) ?_
    rintro _ _ ⟨rfl, h9⟩
    obtain rfl := h9.symm
    refine T.iast (n := 64) rfl rfl (by decide) dX4_turningsNeeded_64 (q := 65) rfl h.1 ?_
    refine S.mem h.2 ?_
    intro M64 h
    refine T.iconst (q := 66) (0) dX4_turningsNeeded_65 rfl (by decide) ?_
    refine T.ist_3 (q := 67) dX4_turningsNeeded_66 rfl (by decide) sk_ok_i ?_
    refine tl_X4_turningsNeeded_L67  hc0 hs0 ?_ _ ((0 : Int32), M64) h
    intro s113 h
    refine T.inc_2 (q := 116) (1) dX4_turningsNeeded_113 rfl (by decide) (by decide) sk_ok_i ?_
    refine T.goto (tgt := 50) dX4_turningsNeeded_116 (by decide) ?_
    exact hc9 ((s50.1 + (1 : Int32)), s113) h
theorem t_X4_turningsNeeded {G : sk_G} {M : sk_M}   {Q : Int32 → sk_M → Prop} (h : w_X4_turningsNeeded  M Q) : Ctr G mX4_turningsNeeded 2 0 0 [.ref (G.2.2.1 130)] M (rI Q) noX := by
  unfold w_X4_turningsNeeded at h
  refine Ctr.of 3 (by decide) (Nat.le_of_ble_eq_true rfl) ?_
  show TJ G mX4_turningsNeeded (sk_R 2 0 0) (sk_K G 0 0 (rI Q) noX) 0 0 0 [some (.ref (G.2.2.1 130)), none, none, none] [] M
  refine T.ald_0 (q := 1) dX4_turningsNeeded_0 rfl ?_
  refine g_X4_38 rfl dX4_turningsNeeded_1 (q := 4) rfl ?_
  refine T.bipush (q := 6) (6) dX4_turningsNeeded_4 rfl (by decide) ?_
  refine T.ic_le (tgt := 12) (q := 9) dX4_turningsNeeded_6 (by decide) rfl (fun h6 => ?_) (fun h6 => ?_)
  · replace h := s_f (fun q => q h6) h
    refine T.iconst (q := 13) (0) dX4_turningsNeeded_12 rfl (by decide) ?_
    refine T.ist_1 (q := 14) dX4_turningsNeeded_13 rfl (by decide) sk_ok_r ?_
    refine tl_X4_turningsNeeded_L14  (by decide) (by decide) ?_ _ ((0 : Int32), M) h
    intro s32 h
    refine T.iconst (q := 33) (1) dX4_turningsNeeded_32 rfl (by decide) ?_
    refine T.ald_0 (q := 34) dX4_turningsNeeded_33 rfl ?_
    refine g_X4_38 rfl dX4_turningsNeeded_34 (q := 37) rfl ?_
    refine T.ishl (q := 38) dX4_turningsNeeded_37 rfl ?_
    refine T.iconst (q := 39) (1) dX4_turningsNeeded_38 rfl (by decide) ?_
    refine T.isub (q := 40) dX4_turningsNeeded_39 rfl ?_
    refine T.ist_1 (q := 41) dX4_turningsNeeded_40 rfl (by decide) sk_ok_r ?_
    refine S.i1 h ?_
    intro y40 h
    refine T.ald_0 (q := 42) dX4_turningsNeeded_41 rfl ?_
    refine g_X4_32 rfl dX4_turningsNeeded_42 (q := 45) rfl ?_
    refine T.iconst (q := 46) (0) dX4_turningsNeeded_45 rfl (by decide) ?_
    refine T.iconst (q := 47) (0) dX4_turningsNeeded_46 rfl (by decide) ?_
    refine T.iastk (n := 64) rfl rfl (by decide) dX4_turningsNeeded_47 (q := 48) rfl (k9 := 0) (by decide) ?_
    refine S.mem h ?_
    intro M47 h
    refine T.iconst (q := 49) (1) dX4_turningsNeeded_48 rfl (by decide) ?_
    refine T.ist_2 (q := 50) dX4_turningsNeeded_49 rfl (by decide) sk_ok_i ?_
    exact tl_X4_turningsNeeded_L50  (by decide) (by decide) _ ((1 : Int32), M47) h
  · replace h := s_t h6 h
    refine T.bipush (q := 11) (-3) dX4_turningsNeeded_9 rfl (by decide) ?_
    exact T.retI rfl dX4_turningsNeeded_11 (by decide) (by decide) h
theorem t_X6_hasRoom {G : sk_G} {M : sk_M} {a1 : Int32}  {P : Int32 → Prop} (h : P (f_X6_hasRoom a1 M)) : Ctr G mX6_hasRoom 0 0 0 [.ref (G.2.2.1 121), .int a1] M (rI fun r9 M9 => P r9 ∧ M9 = M) noX := by
  unfold f_X6_hasRoom at h
  refine Ctr.of 0 (by decide) (Nat.le_of_ble_eq_true rfl) ?_
  show TJ G mX6_hasRoom (sk_R 0 0 0) (sk_K G 0 0 (rI fun r9 M9 => P r9 ∧ M9 = M) noX) 0 0 0 [some (.ref (G.2.2.1 121)), some (.int a1)] [] M
  refine T.ald_0 (q := 1) dX6_hasRoom_0 rfl ?_
  refine g_X6_19 rfl dX6_hasRoom_1 (q := 4) rfl ?_
  refine T.ild_1 (q := 5) dX6_hasRoom_4 rfl ?_
  refine T.iadd (q := 6) dX6_hasRoom_5 rfl ?_
  refine T.sipush (q := 9) (400) dX6_hasRoom_6 rfl (by decide) ?_
  refine T.ic_gt (tgt := 16) (q := 12) dX6_hasRoom_9 (by decide) rfl (fun h9 => ?_) (fun h9 => ?_)
  · replace h := s_fP (fun q => q h9) h
    refine T.iconst (q := 17) (0) dX6_hasRoom_16 rfl (by decide) ?_
    exact T.retZ rfl dX6_hasRoom_17 (by decide) (by decide) rfl ⟨h, rfl⟩
  · replace h := s_tP h9 h
    refine T.iconst (q := 13) (1) dX6_hasRoom_12 rfl (by decide) ?_
    refine T.goto (tgt := 17) dX6_hasRoom_13 (by decide) ?_
    exact T.retZ rfl dX6_hasRoom_17 (by decide) (by decide) rfl ⟨h, rfl⟩
theorem tl_X6_put_L3 {G : sk_G} {cells slots : Nat} {a1 : Int32} {Q : sk_M → Prop}  (hc0 : cells ≤ 0) (hs0 : slots ≤ 0) : ∀ (F : Nat) (s3 : Int32 × sk_M), lp (w_X6_put_L3 a1 Q) F s3 → TJ G mX6_put (sk_R 0 0 0) (sk_K G 0 0 (rV Q) noX) cells slots 3 [some (.ref (G.2.2.1 121)), some (.int a1), some (.int s3.1)] [] s3.2 := by
  refine lp_sound (fun c hc9 s3 h => ?_)
  unfold w_X6_put_L3 at h
  refine T.ild_2 (q := 4) dX6_put_3 rfl ?_
  refine T.if_lt (tgt := 49) (q := 7) dX6_put_4 (by decide) rfl (fun h4 => ?_) (fun h4 => ?_)
  · replace h := s_f (fun q => q.1 h4) h
    exact T.retV rfl dX6_put_49 hc0 hs0 h
  · refine T.ald_0 (q := 8) dX6_put_7 rfl ?_
    refine g_X6_19 rfl dX6_put_8 (q := 11) rfl ?_
    refine T.sipush (q := 14) (400) dX6_put_11 rfl (by decide) ?_
    refine T.ic_ge (tgt := 49) (q := 17) dX6_put_14 (by decide) rfl (fun h14 => ?_) (fun h14 => ?_)
    · replace h := s_f (fun q => (fun q => q h14) q.2) h
      exact T.retV rfl dX6_put_49 hc0 hs0 h
    · replace h := s_t ⟨h4, h14⟩ h
      refine T.ald_0 (q := 18) dX6_put_17 rfl ?_
      refine g_X6_11 rfl dX6_put_18 (q := 21) rfl ?_
      refine T.ald_0 (q := 22) dX6_put_21 rfl ?_
      refine g_X6_19 rfl dX6_put_22 (q := 25) rfl ?_
      refine T.ild_1 (q := 26) dX6_put_25 rfl ?_
      refine T.ild_2 (q := 27) dX6_put_26 rfl ?_
      refine T.iushr (q := 28) dX6_put_27 rfl ?_
      refine T.sipush (q := 31) (255) dX6_put_28 rfl (by decide) ?_
      refine T.iand (q := 32) dX6_put_31 rfl ?_
      refine T.iast (n := 400) rfl rfl (by decide) dX6_put_32 (q := 33) rfl h.1 ?_
      refine S.mem h.2 ?_
      intro M32 h
      refine T.ald_0 (q := 34) dX6_put_33 rfl ?_
      refine T.dup (q := 35) dX6_put_34 rfl rfl ?_
      refine g_X6_19 rfl dX6_put_35 (q := 38) rfl ?_
      refine T.iconst (q := 39) (1) dX6_put_38 rfl (by decide) ?_
      refine T.iadd (q := 40) dX6_put_39 rfl ?_
      refine p_X6_19 rfl dX6_put_40 (q := 43) rfl ?_
      refine S.mem h ?_
      intro M40 h
      refine T.inc_2 (q := 46) (-8) dX6_put_43 rfl (by decide) (by decide) sk_ok_i ?_
      refine T.goto (tgt := 3) dX6_put_46 (by decide) ?_
      exact hc9 ((s3.1 + (-8 : Int32)), M40) h
theorem t_X6_put {G : sk_G} {M : sk_M} {a1 : Int32}  {Q : sk_M → Prop} (h : w_X6_put a1 M Q) : Ctr G mX6_put 0 0 0 [.ref (G.2.2.1 121), .int a1] M (rV Q) noX := by
  unfold w_X6_put at h
  refine Ctr.of 1 (by decide) (Nat.le_of_ble_eq_true rfl) ?_
  show TJ G mX6_put (sk_R 0 0 0) (sk_K G 0 0 (rV Q) noX) 0 0 0 [some (.ref (G.2.2.1 121)), some (.int a1), none] [] M
  refine T.bipush (q := 2) (24) dX6_put_0 rfl (by decide) ?_
  refine T.ist_2 (q := 3) dX6_put_2 rfl (by decide) sk_ok_i ?_
  exact tl_X6_put_L3  (by decide) (by decide) _ ((24 : Int32), M) h
