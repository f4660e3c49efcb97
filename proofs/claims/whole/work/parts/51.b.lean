/-! methods that throw NoSuchElementException -/
theorem tw_X7_155_159 : sk_tx RX7 155 159 "java/util/NoSuchElementException" ["java/lang/RuntimeException", "java/lang/Exception"] = true := by decide +kernel
theorem t_X7_vault {G : sk_G} {M : sk_M} {a1 : Int32} {a2 : Int32}  {Q : Int32 → Prop} {X : String → Prop} (h : w_X7_vault a1 a2 M Q X) : Ctr G mX7_vault 7 2 12 [.ref (G.2.2.1 120), .int a1, .int a2] M (rI fun r9 M9 => Q r9 ∧ M9 = M) (fun e9 M9 => X e9 ∧ M9 = M) := by
  unfold w_X7_vault at h
  refine Ctr.of 0 (by decide) (Nat.le_of_ble_eq_true rfl) ?_
  show TJ G mX7_vault (sk_R 7 2 12) (sk_K G 2 12 (rI fun r9 M9 => Q r9 ∧ M9 = M) (fun e9 M9 => X e9 ∧ M9 = M)) 0 0 0 [some (.ref (G.2.2.1 120)), some (.int a1), some (.int a2)] [] M
  refine T.ald_0 (q := 1) dX7_vault_0 rfl ?_
  refine T.ild_1 (q := 2) dX7_vault_1 rfl ?_
  refine kx_X7_126 rfl dX7_vault_2 (q := 5) rfl (by decide) (by decide) (by decide) (Nat.le_of_ble_eq_true rfl) rfl (by decide) (by decide) (t_X7_needVault  h) (fun _ _ h9 => h9) ?_
  rintro _ ⟨h, h9⟩
  obtain rfl := h9.symm
  refine T.ild_2 (q := 6) dX7_vault_5 rfl ?_
  by_cases e0 : a2 = 0
  · replace h := s_t e0 h
    refine T.swIn (tgt := 48) (off := 42) dX7_vault_6 (by rw [e0]; decide) (by rw [e0]; decide) (by rw [e0]; rfl) (by decide) ?_
    refine T.ald_0 (q := 49) dX7_vault_48 rfl ?_
    refine g_X7_19 rfl dX7_vault_49 (q := 52) rfl ?_
    refine g_X7_129 sk_s0 rfl dX7_vault_52 (q := 55) rfl ?_
    refine T.ild_1 (q := 56) dX7_vault_55 rfl ?_
    refine T.iald (sk_a1 sk_s0).1 (sk_a1 sk_s0).2.1 (sk_a1 sk_s0).2.2 dX7_vault_56 (q := 57) rfl h.1 ?_
    replace h := h.2
    exact T.retI rfl dX7_vault_57 (by decide) (by decide) ⟨h, rfl⟩
  replace h := s_f e0 h
  by_cases e1 : a2 = 1
  · replace h := s_t e1 h
    refine T.swIn (tgt := 58) (off := 52) dX7_vault_6 (by rw [e1]; decide) (by rw [e1]; decide) (by rw [e1]; rfl) (by decide) ?_
    refine T.ald_0 (q := 59) dX7_vault_58 rfl ?_
    refine g_X7_19 rfl dX7_vault_59 (q := 62) rfl ?_
    refine g_X7_132 sk_s0 rfl dX7_vault_62 (q := 65) rfl ?_
    refine T.ild_1 (q := 66) dX7_vault_65 rfl ?_
    refine T.iald (sk_a2 sk_s0).1 (sk_a2 sk_s0).2.1 (sk_a2 sk_s0).2.2 dX7_vault_66 (q := 67) rfl h.1 ?_
    replace h := h.2
    exact T.retI rfl dX7_vault_67 (by decide) (by decide) ⟨h, rfl⟩
  replace h := s_f e1 h
  by_cases e2 : a2 = 2
  · replace h := s_t e2 h
    refine T.swIn (tgt := 68) (off := 62) dX7_vault_6 (by rw [e2]; decide) (by rw [e2]; decide) (by rw [e2]; rfl) (by decide) ?_
    refine T.ald_0 (q := 69) dX7_vault_68 rfl ?_
    refine g_X7_19 rfl dX7_vault_69 (q := 72) rfl ?_
    refine g_X7_135 sk_s0 rfl dX7_vault_72 (q := 75) rfl ?_
    refine T.ild_1 (q := 76) dX7_vault_75 rfl ?_
    refine T.iald (sk_a3 sk_s0).1 (sk_a3 sk_s0).2.1 (sk_a3 sk_s0).2.2 dX7_vault_76 (q := 77) rfl h.1 ?_
    replace h := h.2
    exact T.retI rfl dX7_vault_77 (by decide) (by decide) ⟨h, rfl⟩
  replace h := s_f e2 h
  by_cases e3 : a2 = 3
  · replace h := s_t e3 h
    refine T.swIn (tgt := 78) (off := 72) dX7_vault_6 (by rw [e3]; decide) (by rw [e3]; decide) (by rw [e3]; rfl) (by decide) ?_
    refine T.ald_0 (q := 79) dX7_vault_78 rfl ?_
    refine g_X7_19 rfl dX7_vault_79 (q := 82) rfl ?_
    refine g_X7_138 sk_s0 rfl dX7_vault_82 (q := 85) rfl ?_
    refine T.ild_1 (q := 86) dX7_vault_85 rfl ?_
    refine T.ishr (q := 87) dX7_vault_86 rfl ?_
    refine T.iconst (q := 88) (1) dX7_vault_87 rfl (by decide) ?_
    refine T.iand (q := 89) dX7_vault_88 rfl ?_
    exact T.retI rfl dX7_vault_89 (by decide) (by decide) ⟨h, rfl⟩
  replace h := s_f e3 h
  by_cases e4 : a2 = 4
  · replace h := s_t e4 h
    refine T.swIn (tgt := 90) (off := 84) dX7_vault_6 (by rw [e4]; decide) (by rw [e4]; decide) (by rw [e4]; rfl) (by decide) ?_
    refine T.ald_0 (q := 91) dX7_vault_90 rfl ?_
    refine g_X7_19 rfl dX7_vault_91 (q := 94) rfl ?_
    refine g_X7_132 sk_s0 rfl dX7_vault_94 (q := 97) rfl ?_
    refine T.ild_1 (q := 98) dX7_vault_97 rfl ?_
    refine T.iald (sk_a2 sk_s0).1 (sk_a2 sk_s0).2.1 (sk_a2 sk_s0).2.2 dX7_vault_98 (q := 99) rfl h.1 ?_
    replace h := h.2
    refine k_X7_141 rfl dX7_vault_99 (q := 102) rfl (by decide) (by decide) (by decide) (Nat.le_of_ble_eq_true rfl) (t_X7_gaps (P := fun r9 => r9 = (f_X7_gaps (M.1 (0 + 2) a1.toNatClampNeg))) rfl) ?_
    rintro _ _ ⟨rfl, h9⟩
    obtain rfl := h9.symm
    exact T.retI rfl dX7_vault_102 (by decide) (by decide) ⟨h, rfl⟩
  replace h := s_f e4 h
  by_cases e5 : a2 = 5
  · replace h := s_t e5 h
    refine T.swIn (tgt := 103) (off := 97) dX7_vault_6 (by rw [e5]; decide) (by rw [e5]; decide) (by rw [e5]; rfl) (by decide) ?_
    refine T.ald_0 (q := 104) dX7_vault_103 rfl ?_
    refine g_X7_19 rfl dX7_vault_104 (q := 107) rfl ?_
    refine g_X7_132 sk_s0 rfl dX7_vault_107 (q := 110) rfl ?_
    refine T.ild_1 (q := 111) dX7_vault_110 rfl ?_
    refine T.iald (sk_a2 sk_s0).1 (sk_a2 sk_s0).2.1 (sk_a2 sk_s0).2.2 dX7_vault_111 (q := 112) rfl h.1 ?_
    replace h := h.2
    refine T.ald_0 (q := 113) dX7_vault_112 rfl ?_
    refine g_X7_19 rfl dX7_vault_113 (q := 116) rfl ?_
    refine g_X7_145 sk_s0 rfl dX7_vault_116 (q := 119) rfl ?_
    refine k_X7_148 rfl dX7_vault_119 (q := 122) rfl (by decide) (by decide) (by decide) (Nat.le_of_ble_eq_true rfl) (t_X7_soon  h) ?_
    rintro r119 _ ⟨h, h9⟩
    obtain rfl := h9.symm
    exact T.retI rfl dX7_vault_122 (by decide) (by decide) ⟨h, rfl⟩
  replace h := s_f e5 h
  by_cases e6 : a2 = 6
  · replace h := s_t e6 h
    refine T.swIn (tgt := 123) (off := 117) dX7_vault_6 (by rw [e6]; decide) (by rw [e6]; decide) (by rw [e6]; rfl) (by decide) ?_
    refine T.ald_0 (q := 124) dX7_vault_123 rfl ?_
    refine g_X7_19 rfl dX7_vault_124 (q := 127) rfl ?_
    refine g_X7_132 sk_s0 rfl dX7_vault_127 (q := 130) rfl ?_
    refine T.ild_1 (q := 131) dX7_vault_130 rfl ?_
    refine T.iald (sk_a2 sk_s0).1 (sk_a2 sk_s0).2.1 (sk_a2 sk_s0).2.2 dX7_vault_131 (q := 132) rfl h.1 ?_
    replace h := h.2
    refine k_X7_152 rfl dX7_vault_132 (q := 135) rfl (by decide) (by decide) (by decide) (Nat.le_of_ble_eq_true rfl) (t_X7_longestGap  h) ?_
    rintro r132 _ ⟨h, h9⟩
    obtain rfl := h9.symm
    exact T.retI rfl dX7_vault_135 (by decide) (by decide) ⟨h, rfl⟩
  replace h := s_f e6 h
  refine T.swOut (tgt := 136) dX7_vault_6 (sw_0_6 e0 e1 e2 e3 e4 e5 e6) (by decide) ?_
  exact T.throwN (cls := "java/util/NoSuchElementException") (names := ["java/lang/RuntimeException", "java/lang/Exception"]) (text := "there is no such thing of a vault") (j := 23) tw_X7_155_159 (by decide +kernel) dX7_vault_136 dX7_vault_139 dX7_vault_140 dX7_vault_142 dX7_vault_145 rfl (by decide) (by decide) (by decide) (by decide) (by decide) (by decide) ⟨h, rfl⟩
theorem t_X7_contract {G : sk_G} {M : sk_M} {a1 : Int32} {a2 : Int32}  {Q : Int32 → Prop} {X : String → Prop} (h : w_X7_contract a1 a2 M Q X) : Ctr G mX7_contract 6 1 6 [.ref (G.2.2.1 120), .int a1, .int a2] M (rI fun r9 M9 => Q r9 ∧ M9 = M) (fun e9 M9 => X e9 ∧ M9 = M) := by
  unfold w_X7_contract at h
  refine Ctr.of 0 (by decide) (Nat.le_of_ble_eq_true rfl) ?_
  show TJ G mX7_contract (sk_R 6 1 6) (sk_K G 1 6 (rI fun r9 M9 => Q r9 ∧ M9 = M) (fun e9 M9 => X e9 ∧ M9 = M)) 0 0 0 [some (.ref (G.2.2.1 120)), some (.int a1), some (.int a2)] [] M
  refine T.ild_1 (q := 1) dX7_contract_0 rfl ?_
  refine T.if_lt (tgt := 15) (q := 4) dX7_contract_1 (by decide) rfl (fun h1 => ?_) (fun h1 => ?_)
  · replace h := s_t (Or.inl h1) h
    exact T.throwSW (cls := "java/lang/IndexOutOfBoundsException") (names := ["java/lang/RuntimeException", "java/lang/Exception"]) (text := "there is no such contract") (j := 32) tw_X7_298_302 (by decide +kernel) dX7_contract_15 dX7_contract_18 dX7_contract_19 dX7_contract_22 dX7_contract_25 rfl (by decide) (by decide) (by decide) (by decide) (by decide) (by decide) ⟨h, rfl⟩
  · refine T.ild_1 (q := 5) dX7_contract_4 rfl ?_
    refine T.ald_0 (q := 6) dX7_contract_5 rfl ?_
    refine g_X7_19 rfl dX7_contract_6 (q := 9) rfl ?_
    refine g_X7_295 sk_s0 rfl dX7_contract_9 (q := 12) rfl ?_
    refine T.ic_lt (tgt := 26) (q := 15) dX7_contract_12 (by decide) rfl (fun h12 => ?_) (fun h12 => ?_)
    · replace h := s_f (fun q => q.elim h1 (fun q => q h12)) h
      refine T.ild_2 (q := 27) dX7_contract_26 rfl ?_
      by_cases e0 : a2 = 0
      · replace h := s_t e0 h
        refine T.swIn (tgt := 60) (off := 33) dX7_contract_27 (by rw [e0]; decide) (by rw [e0]; decide) (by rw [e0]; rfl) (by decide) ?_
        refine T.ald_0 (q := 61) dX7_contract_60 rfl ?_
        refine g_X7_19 rfl dX7_contract_61 (q := 64) rfl ?_
        refine T.ild_1 (q := 65) dX7_contract_64 rfl ?_
        refine k_X7_303 sk_s0 rfl dX7_contract_65 (q := 68) rfl (by decide) (by decide) (by decide) (Nat.le_of_ble_eq_true rfl) (t_X5_isOpenContract sk_s0 h) ?_
        rintro r65 _ ⟨h, h9⟩
        obtain rfl := h9.symm
        refine T.if_eq (tgt := 75) (q := 71) dX7_contract_68 (by decide) rfl (fun h68 => ?_) (fun h68 => ?_)
        · replace h := s_f (fun q => q h68) h
          refine T.iconst (q := 76) (0) dX7_contract_75 rfl (by decide) ?_
          exact T.retI rfl dX7_contract_76 (by decide) (by decide) ⟨h, rfl⟩
        · replace h := s_t h68 h
          refine T.iconst (q := 72) (1) dX7_contract_71 rfl (by decide) ?_
          refine T.goto (tgt := 76) dX7_contract_72 (by decide) ?_
          exact T.retI rfl dX7_contract_76 (by decide) (by decide) ⟨h, rfl⟩
      replace h := s_f e0 h
      by_cases e1 : a2 = 1
      · replace h := s_t e1 h
        refine T.swIn (tgt := 77) (off := 50) dX7_contract_27 (by rw [e1]; decide) (by rw [e1]; decide) (by rw [e1]; rfl) (by decide) ?_
        refine T.ald_0 (q := 78) dX7_contract_77 rfl ?_
        refine g_X7_19 rfl dX7_contract_78 (q := 81) rfl ?_
        refine g_X7_306 sk_s0 rfl dX7_contract_81 (q := 84) rfl ?_
        refine T.ild_1 (q := 85) dX7_contract_84 rfl ?_
        refine T.iald (sk_a4 sk_s0).1 (sk_a4 sk_s0).2.1 (sk_a4 sk_s0).2.2 dX7_contract_85 (q := 86) rfl h.1 ?_
        replace h := h.2
        exact T.retI rfl dX7_contract_86 (by decide) (by decide) ⟨h, rfl⟩
      replace h := s_f e1 h
      by_cases e2 : a2 = 2
      · replace h := s_t e2 h
        refine T.swIn (tgt := 87) (off := 60) dX7_contract_27 (by rw [e2]; decide) (by rw [e2]; decide) (by rw [e2]; rfl) (by decide) ?_
        refine T.ald_0 (q := 88) dX7_contract_87 rfl ?_
        refine g_X7_19 rfl dX7_contract_88 (q := 91) rfl ?_
        refine g_X7_309 sk_s0 rfl dX7_contract_91 (q := 94) rfl ?_
        refine T.ild_1 (q := 95) dX7_contract_94 rfl ?_
        refine T.iald (sk_a5 sk_s0).1 (sk_a5 sk_s0).2.1 (sk_a5 sk_s0).2.2 dX7_contract_95 (q := 96) rfl h.1 ?_
        replace h := h.2
        exact T.retI rfl dX7_contract_96 (by decide) (by decide) ⟨h, rfl⟩
      replace h := s_f e2 h
      by_cases e3 : a2 = 3
      · replace h := s_t e3 h
        refine T.swIn (tgt := 97) (off := 70) dX7_contract_27 (by rw [e3]; decide) (by rw [e3]; decide) (by rw [e3]; rfl) (by decide) ?_
        refine T.ald_0 (q := 98) dX7_contract_97 rfl ?_
        refine g_X7_19 rfl dX7_contract_98 (q := 101) rfl ?_
        refine g_X7_312 sk_s0 rfl dX7_contract_101 (q := 104) rfl ?_
        refine T.ild_1 (q := 105) dX7_contract_104 rfl ?_
        refine T.iald (sk_a6 sk_s0).1 (sk_a6 sk_s0).2.1 (sk_a6 sk_s0).2.2 dX7_contract_105 (q := 106) rfl h.1 ?_
        replace h := h.2
        exact T.retI rfl dX7_contract_106 (by decide) (by decide) ⟨h, rfl⟩
      replace h := s_f e3 h
      by_cases e4 : a2 = 4
      · replace h := s_t e4 h
        refine T.swIn (tgt := 107) (off := 80) dX7_contract_27 (by rw [e4]; decide) (by rw [e4]; decide) (by rw [e4]; rfl) (by decide) ?_
        refine T.ald_0 (q := 108) dX7_contract_107 rfl ?_
        refine g_X7_19 rfl dX7_contract_108 (q := 111) rfl ?_
        refine T.ild_1 (q := 112) dX7_contract_111 rfl ?_
        refine k_X7_315 sk_s0 rfl dX7_contract_112 (q := 115) rfl (by decide) (by decide) (by decide) (Nat.le_of_ble_eq_true rfl) (t_X5_quarrelsOf sk_s0 h) ?_
        rintro r112 _ ⟨h, h9⟩
        obtain rfl := h9.symm
        exact T.retI rfl dX7_contract_115 (by decide) (by decide) ⟨h, rfl⟩
      replace h := s_f e4 h
      refine T.swOut (tgt := 116) dX7_contract_27 (sw_0_4 e0 e1 e2 e3 e4) (by decide) ?_
      exact T.throwNW (cls := "java/util/NoSuchElementException") (names := ["java/lang/RuntimeException", "java/lang/Exception"]) (text := "there is no such thing of a contract") (j := 33) tw_X7_155_159 (by decide +kernel) dX7_contract_116 dX7_contract_119 dX7_contract_120 dX7_contract_123 dX7_contract_126 rfl (by decide) (by decide) (by decide) (by decide) (by decide) (by decide) ⟨h, rfl⟩
    · replace h := s_t (Or.inr h12) h
      exact T.throwSW (cls := "java/lang/IndexOutOfBoundsException") (names := ["java/lang/RuntimeException", "java/lang/Exception"]) (text := "there is no such contract") (j := 32) tw_X7_298_302 (by decide +kernel) dX7_contract_15 dX7_contract_18 dX7_contract_19 dX7_contract_22 dX7_contract_25 rfl (by decide) (by decide) (by decide) (by decide) (by decide) (by decide) ⟨h, rfl⟩
theorem t_X7_log {G : sk_G} {M : sk_M} {a1 : Int32} {a2 : Int32}  {Q : Int32 → Prop} {X : String → Prop} (h : w_X7_log a1 a2 M Q X) : Ctr G mX7_log 6 1 6 [.ref (G.2.2.1 120), .int a1, .int a2] M (rI fun r9 M9 => Q r9 ∧ M9 = M) (fun e9 M9 => X e9 ∧ M9 = M) := by
  unfold w_X7_log at h
  refine Ctr.of 0 (by decide) (Nat.le_of_ble_eq_true rfl) ?_
  show TJ G mX7_log (sk_R 6 1 6) (sk_K G 1 6 (rI fun r9 M9 => Q r9 ∧ M9 = M) (fun e9 M9 => X e9 ∧ M9 = M)) 0 0 0 [some (.ref (G.2.2.1 120)), some (.int a1), some (.int a2)] [] M
  refine T.ild_2 (q := 1) dX7_log_0 rfl ?_
  refine T.if_lt (tgt := 10) (q := 4) dX7_log_1 (by decide) rfl (fun h1 => ?_) (fun h1 => ?_)
  · replace h := s_t (Or.inl h1) h
    exact T.throwNW (cls := "java/util/NoSuchElementException") (names := ["java/lang/RuntimeException", "java/lang/Exception"]) (text := "there is no such thing of a row") (j := 36) tw_X7_155_159 (by decide +kernel) dX7_log_10 dX7_log_13 dX7_log_14 dX7_log_17 dX7_log_20 rfl (by decide) (by decide) (by decide) (by decide) (by decide) (by decide) ⟨h, rfl⟩
  · refine T.ild_2 (q := 5) dX7_log_4 rfl ?_
    refine T.bipush (q := 7) (6) dX7_log_5 rfl (by decide) ?_
    refine T.ic_lt (tgt := 21) (q := 10) dX7_log_7 (by decide) rfl (fun h7 => ?_) (fun h7 => ?_)
    · replace h := s_f (fun q => q.elim h1 (fun q => q h7)) h
      refine T.ild_1 (q := 22) dX7_log_21 rfl ?_
      refine T.if_lt (tgt := 48) (q := 25) dX7_log_22 (by decide) rfl (fun h22 => ?_) (fun h22 => ?_)
      · replace h := s_f (fun q => q.1 h22) h
        refine T.sipush (q := 51) (-999) dX7_log_48 rfl (by decide) ?_
        exact T.retI rfl dX7_log_51 (by decide) (by decide) ⟨h, rfl⟩
      · refine T.ild_1 (q := 26) dX7_log_25 rfl ?_
        refine T.ald_0 (q := 27) dX7_log_26 rfl ?_
        refine g_X7_19 rfl dX7_log_27 (q := 30) rfl ?_
        refine g_X7_331 sk_s0 rfl dX7_log_30 (q := 33) rfl ?_
        refine T.ic_ge (tgt := 48) (q := 36) dX7_log_33 (by decide) rfl (fun h33 => ?_) (fun h33 => ?_)
        · replace h := s_f (fun q => (fun q => q h33) q.2) h
          refine T.sipush (q := 51) (-999) dX7_log_48 rfl (by decide) ?_
          exact T.retI rfl dX7_log_51 (by decide) (by decide) ⟨h, rfl⟩
        · replace h := s_t ⟨h22, h33⟩ h
          refine T.ald_0 (q := 37) dX7_log_36 rfl ?_
          refine g_X7_19 rfl dX7_log_37 (q := 40) rfl ?_
          refine T.ild_1 (q := 41) dX7_log_40 rfl ?_
          refine T.ild_2 (q := 42) dX7_log_41 rfl ?_
          refine k_X7_334 sk_s0 rfl dX7_log_42 (q := 45) rfl (by decide) (by decide) (by decide) (Nat.le_of_ble_eq_true rfl) (t_X5_rowCell sk_s0 h) ?_
          rintro r42 _ ⟨h, h9⟩
          obtain rfl := h9.symm
          refine T.goto (tgt := 51) dX7_log_45 (by decide) ?_
          exact T.retI rfl dX7_log_51 (by decide) (by decide) ⟨h, rfl⟩
    · replace h := s_t (Or.inr h7) h
      exact T.throwNW (cls := "java/util/NoSuchElementException") (names := ["java/lang/RuntimeException", "java/lang/Exception"]) (text := "there is no such thing of a row") (j := 36) tw_X7_155_159 (by decide +kernel) dX7_log_10 dX7_log_13 dX7_log_14 dX7_log_17 dX7_log_20 rfl (by decide) (by decide) (by decide) (by decide) (by decide) (by decide) ⟨h, rfl⟩
