theorem TJ.wide {G : sk_G} {X : sk_X} {R : Room} {E : sk_E} {cells slots pc k n : Nat} {xs : List (Option Value)} {st : List Value} {M : sk_M} (h1 : cells ≤ k) (h2 : slots ≤ n) (h : TJ G X R E k n pc xs st M) : TJ G X R E cells slots pc xs st M := fun p e s m args below meth c H locs hcx hP hS ls hl => W.widen h1 h2 (h p e s m args below meth c H locs hcx hP hS ls hl)
/-! SafeKnown, decompiled -/
theorem tw_X7_87_91 : sk_tw RX7 87 91 "java/lang/IllegalArgumentException" ["java/lang/RuntimeException", "java/lang/Exception"] = true := by decide +kernel
theorem tw_X7_97_101 : sk_tw RX7 97 101 "java/lang/UnsupportedOperationException" ["java/lang/RuntimeException", "java/lang/Exception"] = true := by decide +kernel
theorem tw_X7_202_206 : sk_tw RX7 202 206 "java/lang/IllegalStateException" ["java/lang/RuntimeException", "java/lang/Exception"] = true := by decide +kernel
theorem tw_X7_298_302 : sk_tw RX7 298 302 "java/lang/IndexOutOfBoundsException" ["java/lang/RuntimeException", "java/lang/Exception"] = true := by decide +kernel
theorem t_X7_feed {G : sk_G} {M : sk_M} {a1 : Int32} {a2 : Int32} {a3 : Int32} {a4 : Int32} {a5 : Int32}  {Q : Int32 → sk_M → Prop} (h : w_X7_feed a1 a2 a3 a4 a5 M Q) : Ctr G mX7_feed 1 0 0 [.ref (G.2.2.1 120), .int a1, .int a2, .int a3, .int a4, .int a5] M (rI Q) noX := by
  unfold w_X7_feed at h
  refine Ctr.of 0 (by decide) (Nat.le_of_ble_eq_true rfl) ?_
  show TJ G mX7_feed (sk_R 1 0 0) (sk_K G 0 0 (rI Q) noX) 0 0 0 [some (.ref (G.2.2.1 120)), some (.int a1), some (.int a2), some (.int a3), some (.int a4), some (.int a5)] [] M
  refine T.ald_0 (q := 1) dX7_feed_0 rfl ?_
  refine g_X7_10 rfl dX7_feed_1 (q := 4) rfl ?_
  refine T.bipush (q := 6) (20) dX7_feed_4 rfl (by decide) ?_
  refine k_X7_71 rfl dX7_feed_6 (q := 9) rfl (by decide) (by decide) (by decide) (Nat.le_of_ble_eq_true rfl) (t_X6_hasRoom (P := fun r9 => r9 = (f_X6_hasRoom (20 : Int32) M)) rfl) ?_
  rintro _ _ ⟨rfl, h9⟩
  obtain rfl := h9.symm
  refine T.if_ne (tgt := 14) (q := 12) dX7_feed_9 (by decide) rfl (fun h9 => ?_) (fun h9 => ?_)
  · replace h := s_f h9 h
    refine T.ald_0 (q := 15) dX7_feed_14 rfl ?_
    refine g_X7_10 rfl dX7_feed_15 (q := 18) rfl ?_
    refine T.ild_1 (q := 19) dX7_feed_18 rfl ?_
    refine k_X7_75 rfl dX7_feed_19 (q := 22) rfl (by decide) (by decide) (by decide) (Nat.le_of_ble_eq_true rfl) (t_X6_put  h) ?_
    intro M19 h
    refine T.ald_0 (q := 23) dX7_feed_22 rfl ?_
    refine g_X7_10 rfl dX7_feed_23 (q := 26) rfl ?_
    refine T.ild_2 (q := 27) dX7_feed_26 rfl ?_
    refine k_X7_75 rfl dX7_feed_27 (q := 30) rfl (by decide) (by decide) (by decide) (Nat.le_of_ble_eq_true rfl) (t_X6_put  h) ?_
    intro M27 h
    refine T.ald_0 (q := 31) dX7_feed_30 rfl ?_
    refine g_X7_10 rfl dX7_feed_31 (q := 34) rfl ?_
    refine T.ild_3 (q := 35) dX7_feed_34 rfl ?_
    refine k_X7_75 rfl dX7_feed_35 (q := 38) rfl (by decide) (by decide) (by decide) (Nat.le_of_ble_eq_true rfl) (t_X6_put  h) ?_
    intro M35 h
    refine T.ald_0 (q := 39) dX7_feed_38 rfl ?_
    refine g_X7_10 rfl dX7_feed_39 (q := 42) rfl ?_
    refine T.ild_4 (q := 44) dX7_feed_42 rfl ?_
    refine k_X7_75 rfl dX7_feed_44 (q := 47) rfl (by decide) (by decide) (by decide) (Nat.le_of_ble_eq_true rfl) (t_X6_put  h) ?_
    intro M44 h
    refine T.ald_0 (q := 48) dX7_feed_47 rfl ?_
    refine g_X7_10 rfl dX7_feed_48 (q := 51) rfl ?_
    refine T.ild_5 (q := 53) dX7_feed_51 rfl ?_
    refine k_X7_75 rfl dX7_feed_53 (q := 56) rfl (by decide) (by decide) (by decide) (Nat.le_of_ble_eq_true rfl) (t_X6_put  h) ?_
    intro M53 h
    refine T.ald_0 (q := 57) dX7_feed_56 rfl ?_
    refine g_X7_10 rfl dX7_feed_57 (q := 60) rfl ?_
    refine g_X7_79 rfl dX7_feed_60 (q := 63) rfl ?_
    exact T.retI rfl dX7_feed_63 (by decide) (by decide) h
  · replace h := s_t h9 h
    refine T.iconst (q := 13) (-1) dX7_feed_12 rfl (by decide) ?_
    exact T.retI rfl dX7_feed_13 (by decide) (by decide) h
theorem t_X7_end {G : sk_G} {M : sk_M} {a1 : Int32}  {Q : Int32 → sk_M → Prop} (h : w_X7_end a1 M Q) : Ctr G mX7_end 0 0 0 [.ref (G.2.2.1 120), .int a1] M (rI Q) noX := by
  unfold w_X7_end at h
  refine Ctr.of 0 (by decide) (Nat.le_of_ble_eq_true rfl) ?_
  show TJ G mX7_end (sk_R 0 0 0) (sk_K G 0 0 (rI Q) noX) 0 0 0 [some (.ref (G.2.2.1 120)), some (.int a1)] [] M
  refine T.ild_1 (q := 1) dX7_end_0 rfl ?_
  refine T.if_lt (tgt := 15) (q := 4) dX7_end_1 (by decide) rfl (fun h1 => ?_) (fun h1 => ?_)
  · replace h := s_t (Or.inl h1) h
    refine T.iconst (q := 16) (0) dX7_end_15 rfl (by decide) ?_
    exact T.retZ rfl dX7_end_16 (by decide) (by decide) rfl h
  · refine T.ild_1 (q := 5) dX7_end_4 rfl ?_
    refine T.ald_0 (q := 6) dX7_end_5 rfl ?_
    refine g_X7_10 rfl dX7_end_6 (q := 9) rfl ?_
    refine g_X7_79 rfl dX7_end_9 (q := 12) rfl ?_
    refine T.ic_le (tgt := 17) (q := 15) dX7_end_12 (by decide) rfl (fun h12 => ?_) (fun h12 => ?_)
    · replace h := s_f (fun q => q.elim h1 (fun q => q h12)) h
      refine T.ald_0 (q := 18) dX7_end_17 rfl ?_
      refine g_X7_10 rfl dX7_end_18 (q := 21) rfl ?_
      refine T.ild_1 (q := 22) dX7_end_21 rfl ?_
      refine p_X7_79 rfl dX7_end_22 (q := 25) rfl ?_
      refine S.mem h ?_
      intro M22 h
      refine T.iconst (q := 26) (1) dX7_end_25 rfl (by decide) ?_
      exact T.retZ rfl dX7_end_26 (by decide) (by decide) rfl h
    · replace h := s_t (Or.inr h12) h
      refine T.iconst (q := 16) (0) dX7_end_15 rfl (by decide) ?_
      exact T.retZ rfl dX7_end_16 (by decide) (by decide) rfl h
theorem t_X7_bank {G : sk_G} {M : sk_M}   {Q : Int32 → sk_M → Prop} {X : String → sk_M → Prop} (h : w_X7_bank  M Q X) : Ctr G mX7_bank 9 1 6 [.ref (G.2.2.1 120)] M (rI Q) X := by
  unfold w_X7_bank at h
  refine Ctr.of 1 (by decide) (Nat.le_of_ble_eq_true rfl) ?_
  show TJ G mX7_bank (sk_R 9 1 6) (sk_K G 1 6 (rI Q) X) 0 0 0 [some (.ref (G.2.2.1 120)), none] [] M
  refine T.ald_0 (q := 1) dX7_bank_0 rfl ?_
  refine g_X7_38 rfl dX7_bank_1 (q := 4) rfl ?_
  refine k_X7_83 rfl dX7_bank_4 (q := 7) rfl (by decide) (by decide) (by decide) (Nat.le_of_ble_eq_true rfl) (t_X0_read  h) ?_
  intro r4 M4 h
  refine T.ist_1 (q := 8) dX7_bank_7 rfl (by decide) sk_ok_r ?_
  refine T.ald_0 (q := 9) dX7_bank_8 rfl ?_
  refine g_X7_10 rfl dX7_bank_9 (q := 12) rfl ?_
  refine T.iconst (q := 13) (0) dX7_bank_12 rfl (by decide) ?_
  refine p_X7_79 rfl dX7_bank_13 (q := 16) rfl ?_
  refine S.mem h ?_
  intro M13 h
  refine T.ild_1 (q := 17) dX7_bank_16 rfl ?_
  refine T.if_ne (tgt := 30) (q := 20) dX7_bank_17 (by decide) rfl (fun h17 => ?_) (fun h17 => ?_)
  · replace h := s_f h17 h
    refine T.ald_0 (q := 31) dX7_bank_30 rfl ?_
    refine g_X7_19 rfl dX7_bank_31 (q := 34) rfl ?_
    refine g_X7_94 sk_s0 rfl dX7_bank_34 (q := 37) rfl ?_
    refine T.bipush (q := 39) (12) dX7_bank_37 rfl (by decide) ?_
    refine T.ic_lt (tgt := 52) (q := 42) dX7_bank_39 (by decide) rfl (fun h39 => ?_) (fun h39 => ?_)
    · replace h := s_f (fun q => q h39) h
      refine T.ald_0 (q := 53) dX7_bank_52 rfl ?_
      refine g_X7_38 rfl dX7_bank_53 (q := 56) rfl ?_
      refine k_X7_102 rfl dX7_bank_56 (q := 59) rfl (by decide) (by decide) (by decide) (Nat.le_of_ble_eq_true rfl) (t_X0_settle  h) ?_
      intro M56 h
      refine T.ald_0 (q := 60) dX7_bank_59 rfl ?_
      refine g_X7_19 rfl dX7_bank_60 (q := 63) rfl ?_
      refine T.dup (q := 64) dX7_bank_63 rfl rfl ?_
      refine g_X7_94 sk_s0 rfl dX7_bank_64 (q := 67) rfl ?_
      refine T.iconst (q := 68) (1) dX7_bank_67 rfl (by decide) ?_
      refine T.iadd (q := 69) dX7_bank_68 rfl ?_
      refine p_X7_94 sk_s0 rfl dX7_bank_69 (q := 72) rfl ?_
      refine S.mem h ?_
      intro M69 h
      refine T.ald_0 (q := 73) dX7_bank_72 rfl ?_
      refine g_X7_29 rfl dX7_bank_73 (q := 76) rfl ?_
      refine k_X7_105 rfl dX7_bank_76 (q := 79) rfl (by decide) (by decide) (by decide) (Nat.le_of_ble_eq_true rfl) (t_X3_clear  h) ?_
      intro M76 h
      refine T.ald_0 (q := 80) dX7_bank_79 rfl ?_
      refine g_X7_19 rfl dX7_bank_80 (q := 83) rfl ?_
      refine g_X7_94 sk_s0 rfl dX7_bank_83 (q := 86) rfl ?_
      exact T.retI rfl dX7_bank_86 (by decide) (by decide) h
    · replace h := s_t h39 h
      exact T.throwS (cls := "java/lang/UnsupportedOperationException") (names := ["java/lang/RuntimeException", "java/lang/Exception"]) (text := "there are twelve texts") (j := 21) tw_X7_97_101 (by decide +kernel) dX7_bank_42 dX7_bank_45 dX7_bank_46 dX7_bank_48 dX7_bank_51 rfl (by decide) (by decide) (by decide) (by decide) (by decide) (by decide) h
  · replace h := s_t h17 h
    exact T.throwS (cls := "java/lang/IllegalArgumentException") (names := ["java/lang/RuntimeException", "java/lang/Exception"]) (text := "the text is wrong") (j := 20) tw_X7_87_91 (by decide +kernel) dX7_bank_20 dX7_bank_23 dX7_bank_24 dX7_bank_26 dX7_bank_29 rfl (by decide) (by decide) (by decide) (by decide) (by decide) (by decide) h
theorem t_X7_law {G : sk_G} {M : sk_M}   {Q : Int32 → sk_M → Prop} {X : String → sk_M → Prop} (h : w_X7_law  M Q X) : Ctr G mX7_law 30 1 6 [.ref (G.2.2.1 120)] M (rI Q) X := by
  unfold w_X7_law at h
  refine Ctr.of 1 (by decide) (Nat.le_of_ble_eq_true rfl) ?_
  show TJ G mX7_law (sk_R 30 1 6) (sk_K G 1 6 (rI Q) X) 0 0 0 [some (.ref (G.2.2.1 120)), none] [] M
  refine T.ald_0 (q := 1) dX7_law_0 rfl ?_
  refine g_X7_47 rfl dX7_law_1 (q := 4) rfl ?_
  refine k_X7_108 rfl dX7_law_4 (q := 7) rfl (by decide) (by decide) (by decide) (Nat.le_of_ble_eq_true rfl) (t_X1_read  h) ?_
  intro r4 M4 h
  refine T.ist_1 (q := 8) dX7_law_7 rfl (by decide) sk_ok_r ?_
  refine T.ald_0 (q := 9) dX7_law_8 rfl ?_
  refine g_X7_10 rfl dX7_law_9 (q := 12) rfl ?_
  refine T.iconst (q := 13) (0) dX7_law_12 rfl (by decide) ?_
  refine p_X7_79 rfl dX7_law_13 (q := 16) rfl ?_
  refine S.mem h ?_
  intro M13 h
  refine T.ild_1 (q := 17) dX7_law_16 rfl ?_
  refine T.if_ne (tgt := 30) (q := 20) dX7_law_17 (by decide) rfl (fun h17 => ?_) (fun h17 => ?_)
  · replace h := s_f h17 h
    refine T.ald_0 (q := 31) dX7_law_30 rfl ?_
    refine g_X7_19 rfl dX7_law_31 (q := 34) rfl ?_
    refine T.ald_0 (q := 35) dX7_law_34 rfl ?_
    refine g_X7_47 rfl dX7_law_35 (q := 38) rfl ?_
    refine g_X7_109 rfl dX7_law_38 (q := 41) rfl ?_
    refine T.ald_0 (q := 42) dX7_law_41 rfl ?_
    refine g_X7_47 rfl dX7_law_42 (q := 45) rfl ?_
    refine g_X7_113 rfl dX7_law_45 (q := 48) rfl ?_
    refine k_X7_116 sk_s0 rfl dX7_law_48 (q := 51) rfl (by decide) (by decide) (by decide) (Nat.le_of_ble_eq_true rfl) (t_X5_obey sk_s0 (⟨rfl, rfl, by decide⟩) h) ?_
    intro M48 h
    refine T.ald_0 (q := 52) dX7_law_51 rfl ?_
    refine g_X7_29 rfl dX7_law_52 (q := 55) rfl ?_
    refine k_X7_105 rfl dX7_law_55 (q := 58) rfl (by decide) (by decide) (by decide) (Nat.le_of_ble_eq_true rfl) (t_X3_clear  h) ?_
    intro M55 h
    refine T.ald_0 (q := 59) dX7_law_58 rfl ?_
    refine g_X7_19 rfl dX7_law_59 (q := 62) rfl ?_
    refine g_X7_120 sk_s0 rfl dX7_law_62 (q := 65) rfl ?_
    exact T.retI rfl dX7_law_65 (by decide) (by decide) h
  · replace h := s_t h17 h
    exact T.throwS (cls := "java/lang/IllegalArgumentException") (names := ["java/lang/RuntimeException", "java/lang/Exception"]) (text := "the text is wrong") (j := 20) tw_X7_87_91 (by decide +kernel) dX7_law_20 dX7_law_23 dX7_law_24 dX7_law_26 dX7_law_29 rfl (by decide) (by decide) (by decide) (by decide) (by decide) (by decide) h
theorem t_X7_fault {G : sk_G} {M : sk_M}   {P : Int32 → Prop} (h : P (f_X7_fault  M)) : Ctr G mX7_fault 0 0 0 [.ref (G.2.2.1 120)] M (rI fun r9 M9 => P r9 ∧ M9 = M) noX := by
  unfold f_X7_fault at h
  refine Ctr.of 0 (by decide) (Nat.le_of_ble_eq_true rfl) ?_
  show TJ G mX7_fault (sk_R 0 0 0) (sk_K G 0 0 (rI fun r9 M9 => P r9 ∧ M9 = M) noX) 0 0 0 [some (.ref (G.2.2.1 120))] [] M
  refine T.ald_0 (q := 1) dX7_fault_0 rfl ?_
  refine g_X7_10 rfl dX7_fault_1 (q := 4) rfl ?_
  refine g_X7_123 rfl dX7_fault_4 (q := 7) rfl ?_
  exact T.retI rfl dX7_fault_7 (by decide) (by decide) ⟨h, rfl⟩
theorem t_X7_needVault {G : sk_G} {M : sk_M} {a1 : Int32}  {Q : Prop} {X : String → Prop} (h : w_X7_needVault a1 M Q X) : Ctr G mX7_needVault 6 1 6 [.ref (G.2.2.1 120), .int a1] M (rV fun M9 => Q ∧ M9 = M) (fun e9 M9 => X e9 ∧ M9 = M) := by
  unfold w_X7_needVault at h
  refine Ctr.of 0 (by decide) (Nat.le_of_ble_eq_true rfl) ?_
  show TJ G mX7_needVault (sk_R 6 1 6) (sk_K G 1 6 (rV fun M9 => Q ∧ M9 = M) (fun e9 M9 => X e9 ∧ M9 = M)) 0 0 0 [some (.ref (G.2.2.1 120)), some (.int a1)] [] M
  refine T.ild_1 (q := 1) dX7_needVault_0 rfl ?_
  refine T.if_lt (tgt := 15) (q := 4) dX7_needVault_1 (by decide) rfl (fun h1 => ?_) (fun h1 => ?_)
  · replace h := s_t (Or.inl h1) h
    exact T.throwSW (cls := "java/lang/IndexOutOfBoundsException") (names := ["java/lang/RuntimeException", "java/lang/Exception"]) (text := "there is no such vault") (j := 22) tw_X7_298_302 (by decide +kernel) dX7_needVault_15 dX7_needVault_18 dX7_needVault_19 dX7_needVault_22 dX7_needVault_25 rfl (by decide) (by decide) (by decide) (by decide) (by decide) (by decide) ⟨h, rfl⟩
  · refine T.ild_1 (q := 5) dX7_needVault_4 rfl ?_
    refine T.ald_0 (q := 6) dX7_needVault_5 rfl ?_
    refine g_X7_19 rfl dX7_needVault_6 (q := 9) rfl ?_
    refine g_X7_248 sk_s0 rfl dX7_needVault_9 (q := 12) rfl ?_
    refine T.ic_lt (tgt := 26) (q := 15) dX7_needVault_12 (by decide) rfl (fun h12 => ?_) (fun h12 => ?_)
    · replace h := s_f (fun q => q.elim h1 (fun q => q h12)) h
      exact T.retV rfl dX7_needVault_26 (by decide) (by decide) ⟨h, rfl⟩
    · replace h := s_t (Or.inr h12) h
      exact T.throwSW (cls := "java/lang/IndexOutOfBoundsException") (names := ["java/lang/RuntimeException", "java/lang/Exception"]) (text := "there is no such vault") (j := 22) tw_X7_298_302 (by decide +kernel) dX7_needVault_15 dX7_needVault_18 dX7_needVault_19 dX7_needVault_22 dX7_needVault_25 rfl (by decide) (by decide) (by decide) (by decide) (by decide) (by decide) ⟨h, rfl⟩
theorem t_X7_gaps {G : sk_G} {M : sk_M} {a0 : Int32}  {P : Int32 → Prop} (h : P (f_X7_gaps a0)) : Ctr G mX7_gaps 0 0 0 [.int a0] M (rI fun r9 M9 => P r9 ∧ M9 = M) noX := by
  unfold f_X7_gaps at h
  refine Ctr.of 0 (by decide) (Nat.le_of_ble_eq_true rfl) ?_
  show TJ G mX7_gaps (sk_R 0 0 0) (sk_K G 0 0 (rI fun r9 M9 => P r9 ∧ M9 = M) noX) 0 0 0 [some (.int a0)] [] M
  refine T.bipush (q := 2) (127) dX7_gaps_0 rfl (by decide) ?_
  refine T.ild_0 (q := 3) dX7_gaps_2 rfl ?_
  refine T.iconst (q := 4) (-1) dX7_gaps_3 rfl (by decide) ?_
  refine T.ixor (q := 5) dX7_gaps_4 rfl ?_
  refine T.iand (q := 6) dX7_gaps_5 rfl ?_
  exact T.retI rfl dX7_gaps_6 (by decide) (by decide) ⟨h, rfl⟩
theorem tl_X7_soon_L2 {G : sk_G} {M : sk_M} {cells slots : Nat} {a0 : Int32} {a1 : Int32} {Q : Int32 → Prop}  (hc0 : cells ≤ 0) (hs0 : slots ≤ 0) : ∀ (F : Nat) (s2 : Int32), lp (w_X7_soon_L2 a0 a1 Q) F s2 → TJ G mX7_soon (sk_R 1 0 0) (sk_K G 0 0 (rI fun r9 M9 => Q r9 ∧ M9 = M) noX) cells slots 2 [some (.int a0), some (.int a1), some (.int s2), none] [] M := by
  refine lp_sound (fun c hc9 s2 h => ?_)
  unfold w_X7_soon_L2 at h
  refine T.ild_2 (q := 3) dX7_soon_2 rfl ?_
  refine T.bipush (q := 5) (7) dX7_soon_3 rfl (by decide) ?_
  refine T.ic_ge (tgt := 37) (q := 8) dX7_soon_5 (by decide) rfl (fun h5 => ?_) (fun h5 => ?_)
  · replace h := s_f (fun q => q h5) h
    refine T.iconst (q := 38) (-1) dX7_soon_37 rfl (by decide) ?_
    exact T.retI rfl dX7_soon_38 hc0 hs0 ⟨h, rfl⟩
  · replace h := s_t h5 h
    refine T.sipush (q := 11) (9999) dX7_soon_8 rfl (by decide) ?_
    refine T.ild_1 (q := 12) dX7_soon_11 rfl ?_
    refine T.ild_2 (q := 13) dX7_soon_12 rfl ?_
    refine T.iadd (q := 14) dX7_soon_13 rfl ?_
    refine k_X7_259 rfl dX7_soon_14 (q := 17) rfl (by decide) hc0 hs0 (Nat.le_of_ble_eq_true rfl) ?_
    refine T.bipush (q := 19) (7) dX7_soon_17 rfl (by decide) ?_
    refine T.irem (q := 20) dX7_soon_19 rfl (by decide) ?_
    refine T.ist_3 (q := 21) dX7_soon_20 rfl (by decide) sk_ok_i ?_
    refine S.i3 h ?_
    intro y20 h
    refine T.ild_0 (q := 22) dX7_soon_21 rfl ?_
    refine T.ild_3 (q := 23) dX7_soon_22 rfl ?_
    refine T.ishr (q := 24) dX7_soon_23 rfl ?_
    refine T.iconst (q := 25) (1) dX7_soon_24 rfl (by decide) ?_
    refine T.iand (q := 26) dX7_soon_25 rfl ?_
    refine T.if_ne (tgt := 31) (q := 29) dX7_soon_26 (by decide) rfl (fun h26 => ?_) (fun h26 => ?_)
    · replace h := s_f h26 h
      refine T.inc_2 (q := 34) (1) dX7_soon_31 rfl (by decide) (by decide) sk_ok_i ?_
      refine T.goto (tgt := 2) dX7_soon_34 (by decide) ?_
      refine T.drop_3 ?_
      exact hc9 (s2 + (1 : Int32)) h
    · replace h := s_t h26 h
      refine T.ild_2 (q := 30) dX7_soon_29 rfl ?_
      exact T.retI rfl dX7_soon_30 hc0 hs0 ⟨h, rfl⟩
theorem t_X7_soon {G : sk_G} {M : sk_M} {a0 : Int32} {a1 : Int32}  {Q : Int32 → Prop} (h : w_X7_soon a0 a1 M Q) : Ctr G mX7_soon 1 0 0 [.int a0, .int a1] M (rI fun r9 M9 => Q r9 ∧ M9 = M) noX := by
  unfold w_X7_soon at h
  refine Ctr.of 2 (by decide) (Nat.le_of_ble_eq_true rfl) ?_
  show TJ G mX7_soon (sk_R 1 0 0) (sk_K G 0 0 (rI fun r9 M9 => Q r9 ∧ M9 = M) noX) 0 0 0 [some (.int a0), some (.int a1), none, none] [] M
  refine T.iconst (q := 1) (0) dX7_soon_0 rfl (by decide) ?_
  refine T.ist_2 (q := 2) dX7_soon_1 rfl (by decide) sk_ok_i ?_
  exact tl_X7_soon_L2  (by decide) (by decide) _ (0 : Int32) h
theorem tl_X7_longestGap_L16 {G : sk_G} {M : sk_M} {cells slots : Nat} {a0 : Int32} {Q : Int32 → Prop}  (hc0 : cells ≤ 0) (hs0 : slots ≤ 0) : ∀ (F : Nat) (s16 : Int32 × Int32 × Int32), lp (w_X7_longestGap_L16 a0 Q) F s16 → TJ G mX7_longestGap (sk_R 1 0 0) (sk_K G 0 0 (rI fun r9 M9 => Q r9 ∧ M9 = M) noX) cells slots 16 [some (.int a0), some (.int s16.1), some (.int s16.2.1), some (.int s16.2.2)] [] M := by
  refine lp_sound (fun c hc9 s16 h => ?_)
  unfold w_X7_longestGap_L16 at h
  refine T.ild_3 (q := 17) dX7_longestGap_16 rfl ?_
  refine T.bipush (q := 19) (14) dX7_longestGap_17 rfl (by decide) ?_
  refine T.ic_ge (tgt := 53) (q := 22) dX7_longestGap_19 (by decide) rfl (fun h19 => ?_) (fun h19 => ?_)
  · replace h := s_f (fun q => q h19) h
    refine T.ild_2 (q := 54) dX7_longestGap_53 rfl ?_
    exact T.retI rfl dX7_longestGap_54 hc0 hs0 ⟨h, rfl⟩
  · replace h := s_t h19 h
    refine T.ild_0 (q := 23) dX7_longestGap_22 rfl ?_
    refine T.ild_3 (q := 24) dX7_longestGap_23 rfl ?_
    refine T.bipush (q := 26) (7) dX7_longestGap_24 rfl (by decide) ?_
    refine T.irem (q := 27) dX7_longestGap_26 rfl (by decide) ?_
    refine T.ishr (q := 28) dX7_longestGap_27 rfl ?_
    refine T.iconst (q := 29) (1) dX7_longestGap_28 rfl (by decide) ?_
    refine T.iand (q := 30) dX7_longestGap_29 rfl ?_
    refine s_dia (fun s40_30 : Int32 => TJ G mX7_longestGap (sk_R 1 0 0) (sk_K G 0 0 (rI fun r9 M9 => Q r9 ∧ M9 = M) noX) cells slots 40 [some (.int a0), some (.int s16.1), some (.int s16.2.1), some (.int s16.2.2)] [.int s40_30] M) h (fun s40_30 h => ?_) (fun k9 hJ9 h => ?_)
    · refine T.ist_1 (q := 41) dX7_longestGap_40 rfl (by decide) sk_ok_i ?_
      refine T.ild_2 (q := 42) dX7_longestGap_41 rfl ?_
      refine T.ild_1 (q := 43) dX7_longestGap_42 rfl ?_
      refine k_X7_378 rfl dX7_longestGap_43 (q := 46) rfl (by decide) hc0 hs0 (Nat.le_of_ble_eq_true rfl) ?_
      refine T.ist_2 (q := 47) dX7_longestGap_46 rfl (by decide) sk_ok_i ?_
      refine S.i2 h ?_
      intro y46 h
      refine T.inc_3 (q := 50) (1) dX7_longestGap_47 rfl (by decide) (by decide) sk_ok_i ?_
      refine T.goto (tgt := 16) dX7_longestGap_50 (by decide) ?_
      exact hc9 (s40_30, y46, (s16.2.2 + (1 : Int32))) h
    · refine T.if_ne (tgt := 39) (q := 33) dX7_longestGap_30 (by decide) rfl (fun h30 => ?_) (fun h30 => ?_)
      · replace h := s_fk h30 h
        refine T.iconst (q := 40) (0) dX7_longestGap_39 rfl (by decide) ?_
        exact hJ9 _ h
      · replace h := s_tk h30 h
        refine T.ild_1 (q := 34) dX7_longestGap_33 rfl ?_
        refine T.iconst (q := 35) (1) dX7_longestGap_34 rfl (by decide) ?_
        refine T.iadd (q := 36) dX7_longestGap_35 rfl ?_
        refine T.goto (tgt := 40) dX7_longestGap_36 (by decide) ?_
        exact hJ9 _ h
theorem t_X7_longestGap {G : sk_G} {M : sk_M} {a0 : Int32}  {Q : Int32 → Prop} (h : w_X7_longestGap a0 M Q) : Ctr G mX7_longestGap 1 0 0 [.int a0] M (rI fun r9 M9 => Q r9 ∧ M9 = M) noX := by
  unfold w_X7_longestGap at h
  refine Ctr.of 3 (by decide) (Nat.le_of_ble_eq_true rfl) ?_
  show TJ G mX7_longestGap (sk_R 1 0 0) (sk_K G 0 0 (rI fun r9 M9 => Q r9 ∧ M9 = M) noX) 0 0 0 [some (.int a0), none, none, none] [] M
  refine T.ild_0 (q := 1) dX7_longestGap_0 rfl ?_
  refine T.bipush (q := 3) (127) dX7_longestGap_1 rfl (by decide) ?_
  refine T.iand (q := 4) dX7_longestGap_3 rfl ?_
  refine T.if_ne (tgt := 10) (q := 7) dX7_longestGap_4 (by decide) rfl (fun h4 => ?_) (fun h4 => ?_)
  · refine T.iconst (q := 11) (0) dX7_longestGap_10 rfl (by decide) ?_
    refine T.ist_1 (q := 12) dX7_longestGap_11 rfl (by decide) sk_ok_i ?_
    refine T.iconst (q := 13) (0) dX7_longestGap_12 rfl (by decide) ?_
    refine T.ist_2 (q := 14) dX7_longestGap_13 rfl (by decide) sk_ok_i ?_
    refine T.iconst (q := 15) (0) dX7_longestGap_14 rfl (by decide) ?_
    refine T.ist_3 (q := 16) dX7_longestGap_15 rfl (by decide) sk_ok_i ?_
    exact tl_X7_longestGap_L16  (by decide) (by decide) _ ((0 : Int32), (0 : Int32), (0 : Int32)) (s_f h4 h)
  · replace h := s_t h4 h
    refine T.bipush (q := 9) (7) dX7_longestGap_7 rfl (by decide) ?_
    exact T.retI rfl dX7_longestGap_9 (by decide) (by decide) ⟨h, rfl⟩
theorem t_X7_needPerson {G : sk_G} {M : sk_M} {a1 : Int32}  {Q : Prop} {X : String → Prop} (h : w_X7_needPerson a1 M Q X) : Ctr G mX7_needPerson 6 1 6 [.ref (G.2.2.1 120), .int a1] M (rV fun M9 => Q ∧ M9 = M) (fun e9 M9 => X e9 ∧ M9 = M) := by
  unfold w_X7_needPerson at h
  refine Ctr.of 0 (by decide) (Nat.le_of_ble_eq_true rfl) ?_
  show TJ G mX7_needPerson (sk_R 6 1 6) (sk_K G 1 6 (rV fun M9 => Q ∧ M9 = M) (fun e9 M9 => X e9 ∧ M9 = M)) 0 0 0 [some (.ref (G.2.2.1 120)), some (.int a1)] [] M
  refine T.ild_1 (q := 1) dX7_needPerson_0 rfl ?_
  refine T.if_lt (tgt := 15) (q := 4) dX7_needPerson_1 (by decide) rfl (fun h1 => ?_) (fun h1 => ?_)
  · replace h := s_t (Or.inl h1) h
    exact T.throwSW (cls := "java/lang/IndexOutOfBoundsException") (names := ["java/lang/RuntimeException", "java/lang/Exception"]) (text := "there is no such person") (j := 24) tw_X7_298_302 (by decide +kernel) dX7_needPerson_15 dX7_needPerson_18 dX7_needPerson_19 dX7_needPerson_22 dX7_needPerson_25 rfl (by decide) (by decide) (by decide) (by decide) (by decide) (by decide) ⟨h, rfl⟩
  · refine T.ild_1 (q := 5) dX7_needPerson_4 rfl ?_
    refine T.ald_0 (q := 6) dX7_needPerson_5 rfl ?_
    refine g_X7_19 rfl dX7_needPerson_6 (q := 9) rfl ?_
    refine g_X7_289 sk_s0 rfl dX7_needPerson_9 (q := 12) rfl ?_
    refine T.ic_lt (tgt := 26) (q := 15) dX7_needPerson_12 (by decide) rfl (fun h12 => ?_) (fun h12 => ?_)
    · replace h := s_f (fun q => q.elim h1 (fun q => q h12)) h
      exact T.retV rfl dX7_needPerson_26 (by decide) (by decide) ⟨h, rfl⟩
    · replace h := s_t (Or.inr h12) h
      exact T.throwSW (cls := "java/lang/IndexOutOfBoundsException") (names := ["java/lang/RuntimeException", "java/lang/Exception"]) (text := "there is no such person") (j := 24) tw_X7_298_302 (by decide +kernel) dX7_needPerson_15 dX7_needPerson_18 dX7_needPerson_19 dX7_needPerson_22 dX7_needPerson_25 rfl (by decide) (by decide) (by decide) (by decide) (by decide) (by decide) ⟨h, rfl⟩
theorem t_X7_left {G : sk_G} {M : sk_M} {a1 : Int32} {a2 : Int32}  {Q : Int32 → Prop} {X : String → Prop} (h : w_X7_left a1 a2 M Q X) : Ctr G mX7_left 7 2 12 [.ref (G.2.2.1 120), .int a1, .int a2] M (rI fun r9 M9 => Q r9 ∧ M9 = M) (fun e9 M9 => X e9 ∧ M9 = M) := by
  unfold w_X7_left at h
  refine Ctr.of 0 (by decide) (Nat.le_of_ble_eq_true rfl) ?_
  show TJ G mX7_left (sk_R 7 2 12) (sk_K G 2 12 (rI fun r9 M9 => Q r9 ∧ M9 = M) (fun e9 M9 => X e9 ∧ M9 = M)) 0 0 0 [some (.ref (G.2.2.1 120)), some (.int a1), some (.int a2)] [] M
  refine T.ald_0 (q := 1) dX7_left_0 rfl ?_
  refine T.ild_1 (q := 2) dX7_left_1 rfl ?_
  refine kx_X7_160 rfl dX7_left_2 (q := 5) rfl (by decide) (by decide) (by decide) (Nat.le_of_ble_eq_true rfl) rfl (by decide) (by decide) (t_X7_needPerson  h) (fun _ _ h9 => h9) ?_
  rintro _ ⟨h, h9⟩
  obtain rfl := h9.symm
  refine T.ald_0 (q := 6) dX7_left_5 rfl ?_
  refine T.ild_2 (q := 7) dX7_left_6 rfl ?_
  refine kx_X7_126 rfl dX7_left_7 (q := 10) rfl (by decide) (by decide) (by decide) (Nat.le_of_ble_eq_true rfl) rfl (by decide) (by decide) (t_X7_needVault  h) (fun _ _ h9 => h9) ?_
  rintro _ ⟨h, h9⟩
  obtain rfl := h9.symm
  refine T.ald_0 (q := 11) dX7_left_10 rfl ?_
  refine g_X7_19 rfl dX7_left_11 (q := 14) rfl ?_
  refine T.ild_1 (q := 15) dX7_left_14 rfl ?_
  refine T.ild_2 (q := 16) dX7_left_15 rfl ?_
  refine k_X7_163 sk_s0 rfl dX7_left_16 (q := 19) rfl (by decide) (by decide) (by decide) (Nat.le_of_ble_eq_true rfl) (t_X5_leftOf sk_s0 h) ?_
  rintro r16 _ ⟨h, h9⟩
  obtain rfl := h9.symm
  exact T.retI rfl dX7_left_19 (by decide) (by decide) ⟨h, rfl⟩
theorem t_X7_code {G : sk_G} {M : sk_M} {a1 : Int32} {a2 : Int32} {a3 : Int32}  {Q : Int32 → sk_M → Prop} {X : String → sk_M → Prop} (h : w_X7_code a1 a2 a3 M Q X) : Ctr G mX7_code 7 2 12 [.ref (G.2.2.1 120), .int a1, .int a2, .int a3] M (rI Q) X := by
  unfold w_X7_code at h
  refine Ctr.of 0 (by decide) (Nat.le_of_ble_eq_true rfl) ?_
  show TJ G mX7_code (sk_R 7 2 12) (sk_K G 2 12 (rI Q) X) 0 0 0 [some (.ref (G.2.2.1 120)), some (.int a1), some (.int a2), some (.int a3)] [] M
  refine T.ald_0 (q := 1) dX7_code_0 rfl ?_
  refine T.ild_1 (q := 2) dX7_code_1 rfl ?_
  refine kx_X7_160 rfl dX7_code_2 (q := 5) rfl (by decide) (by decide) (by decide) (Nat.le_of_ble_eq_true rfl) rfl (by decide) (by decide) (t_X7_needPerson  h) (by rintro e9 M9 ⟨h9, rfl⟩; exact h9) ?_
  rintro _ ⟨h, h9⟩
  obtain rfl := h9.symm
  refine T.ald_0 (q := 6) dX7_code_5 rfl ?_
  refine T.ild_2 (q := 7) dX7_code_6 rfl ?_
  refine kx_X7_126 rfl dX7_code_7 (q := 10) rfl (by decide) (by decide) (by decide) (Nat.le_of_ble_eq_true rfl) rfl (by decide) (by decide) (t_X7_needVault  h) (by rintro e9 M9 ⟨h9, rfl⟩; exact h9) ?_
  rintro _ ⟨h, h9⟩
  obtain rfl := h9.symm
  refine T.ald_0 (q := 11) dX7_code_10 rfl ?_
  refine g_X7_56 rfl dX7_code_11 (q := 14) rfl ?_
  refine T.ild_1 (q := 15) dX7_code_14 rfl ?_
  refine T.ild_2 (q := 16) dX7_code_15 rfl ?_
  refine k_X7_166 rfl dX7_code_16 (q := 19) rfl (by decide) (by decide) (by decide) (Nat.le_of_ble_eq_true rfl) (t_X4_load  h) ?_
  intro M16 h
  refine T.ild_3 (q := 20) dX7_code_19 rfl ?_
  refine T.if_lt (tgt := 46) (q := 23) dX7_code_20 (by decide) rfl (fun h20 => ?_) (fun h20 => ?_)
  · replace h := s_f (fun q => q.1 h20) h
    refine T.iconst (q := 47) (-1) dX7_code_46 rfl (by decide) ?_
    exact T.retI rfl dX7_code_47 (by decide) (by decide) h
  · refine T.ild_3 (q := 24) dX7_code_23 rfl ?_
    refine T.ald_0 (q := 25) dX7_code_24 rfl ?_
    refine g_X7_56 rfl dX7_code_25 (q := 28) rfl ?_
    refine g_X7_170 rfl dX7_code_28 (q := 31) rfl ?_
    refine T.ic_ge (tgt := 46) (q := 34) dX7_code_31 (by decide) rfl (fun h31 => ?_) (fun h31 => ?_)
    · replace h := s_f (fun q => (fun q => q h31) q.2) h
      refine T.iconst (q := 47) (-1) dX7_code_46 rfl (by decide) ?_
      exact T.retI rfl dX7_code_47 (by decide) (by decide) h
    · replace h := s_t ⟨h20, h31⟩ h
      refine T.ald_0 (q := 35) dX7_code_34 rfl ?_
      refine g_X7_56 rfl dX7_code_35 (q := 38) rfl ?_
      refine g_X7_173 rfl dX7_code_38 (q := 41) rfl ?_
      refine T.ild_3 (q := 42) dX7_code_41 rfl ?_
      refine T.iald (n := 216) rfl rfl (by decide) dX7_code_42 (q := 43) rfl h.1 ?_
      replace h := h.2
      refine T.goto (tgt := 47) dX7_code_43 (by decide) ?_
      exact T.retI rfl dX7_code_47 (by decide) (by decide) h
theorem t_X7_needWheel {G : sk_G} {M : sk_M} {a0 : Int32}  {Q : Prop} {X : String → Prop} (h : w_X7_needWheel a0 M Q X) : Ctr G mX7_needWheel 6 1 6 [.int a0] M (rV fun M9 => Q ∧ M9 = M) (fun e9 M9 => X e9 ∧ M9 = M) := by
  unfold w_X7_needWheel at h
  refine Ctr.of 0 (by decide) (Nat.le_of_ble_eq_true rfl) ?_
  show TJ G mX7_needWheel (sk_R 6 1 6) (sk_K G 1 6 (rV fun M9 => Q ∧ M9 = M) (fun e9 M9 => X e9 ∧ M9 = M)) 0 0 0 [some (.int a0)] [] M
  refine T.ild_0 (q := 1) dX7_needWheel_0 rfl ?_
  refine T.if_lt (tgt := 9) (q := 4) dX7_needWheel_1 (by decide) rfl (fun h1 => ?_) (fun h1 => ?_)
  · replace h := s_t (Or.inl h1) h
    exact T.throwSW (cls := "java/lang/IndexOutOfBoundsException") (names := ["java/lang/RuntimeException", "java/lang/Exception"]) (text := "there is no such wheel") (j := 25) tw_X7_298_302 (by decide +kernel) dX7_needWheel_9 dX7_needWheel_12 dX7_needWheel_13 dX7_needWheel_16 dX7_needWheel_19 rfl (by decide) (by decide) (by decide) (by decide) (by decide) (by decide) ⟨h, rfl⟩
  · refine T.ild_0 (q := 5) dX7_needWheel_4 rfl ?_
    refine T.iconst (q := 6) (3) dX7_needWheel_5 rfl (by decide) ?_
    refine T.ic_lt (tgt := 20) (q := 9) dX7_needWheel_6 (by decide) rfl (fun h6 => ?_) (fun h6 => ?_)
    · replace h := s_f (fun q => q.elim h1 (fun q => q h6)) h
      exact T.retV rfl dX7_needWheel_20 (by decide) (by decide) ⟨h, rfl⟩
    · replace h := s_t (Or.inr h6) h
      exact T.throwSW (cls := "java/lang/IndexOutOfBoundsException") (names := ["java/lang/RuntimeException", "java/lang/Exception"]) (text := "there is no such wheel") (j := 25) tw_X7_298_302 (by decide +kernel) dX7_needWheel_9 dX7_needWheel_12 dX7_needWheel_13 dX7_needWheel_16 dX7_needWheel_19 rfl (by decide) (by decide) (by decide) (by decide) (by decide) (by decide) ⟨h, rfl⟩
theorem t_X7_wheel {G : sk_G} {M : sk_M} {a1 : Int32} {a2 : Int32} {a3 : Int32} {a4 : Int32}  {Q : Int32 → sk_M → Prop} {X : String → sk_M → Prop} (h : w_X7_wheel a1 a2 a3 a4 M Q X) : Ctr G mX7_wheel 7 3 18 [.ref (G.2.2.1 120), .int a1, .int a2, .int a3, .int a4] M (rI Q) X := by
  unfold w_X7_wheel at h
  refine Ctr.of 1 (by decide) (Nat.le_of_ble_eq_true rfl) ?_
  show TJ G mX7_wheel (sk_R 7 3 18) (sk_K G 3 18 (rI Q) X) 0 0 0 [some (.ref (G.2.2.1 120)), some (.int a1), some (.int a2), some (.int a3), some (.int a4), none] [] M
  refine T.ald_0 (q := 1) dX7_wheel_0 rfl ?_
  refine T.ild_1 (q := 2) dX7_wheel_1 rfl ?_
  refine kx_X7_160 rfl dX7_wheel_2 (q := 5) rfl (by decide) (by decide) (by decide) (Nat.le_of_ble_eq_true rfl) rfl (by decide) (by decide) (t_X7_needPerson  h) (by rintro e9 M9 ⟨h9, rfl⟩; exact h9) ?_
  rintro _ ⟨h, h9⟩
  obtain rfl := h9.symm
  refine T.ald_0 (q := 6) dX7_wheel_5 rfl ?_
  refine T.ild_2 (q := 7) dX7_wheel_6 rfl ?_
  refine kx_X7_126 rfl dX7_wheel_7 (q := 10) rfl (by decide) (by decide) (by decide) (Nat.le_of_ble_eq_true rfl) rfl (by decide) (by decide) (t_X7_needVault  h) (by rintro e9 M9 ⟨h9, rfl⟩; exact h9) ?_
  rintro _ ⟨h, h9⟩
  obtain rfl := h9.symm
  refine T.ild_3 (q := 11) dX7_wheel_10 rfl ?_
  refine kx_X7_176 rfl dX7_wheel_11 (q := 14) rfl (by decide) (by decide) (by decide) (Nat.le_of_ble_eq_true rfl) rfl (by decide) (by decide) (t_X7_needWheel  h) (by rintro e9 M9 ⟨h9, rfl⟩; exact h9) ?_
  rintro _ ⟨h, h9⟩
  obtain rfl := h9.symm
  refine T.ald_0 (q := 15) dX7_wheel_14 rfl ?_
  refine g_X7_56 rfl dX7_wheel_15 (q := 18) rfl ?_
  refine T.ild_1 (q := 19) dX7_wheel_18 rfl ?_
  refine T.ild_2 (q := 20) dX7_wheel_19 rfl ?_
  refine k_X7_166 rfl dX7_wheel_20 (q := 23) rfl (by decide) (by decide) (by decide) (Nat.le_of_ble_eq_true rfl) (t_X4_load  h) ?_
  intro M20 h
  refine T.ald_0 (q := 24) dX7_wheel_23 rfl ?_
  refine g_X7_56 rfl dX7_wheel_24 (q := 27) rfl ?_
  refine T.ild_3 (q := 28) dX7_wheel_27 rfl ?_
  refine k_X7_179 rfl dX7_wheel_28 (q := 31) rfl (by decide) (by decide) (by decide) (Nat.le_of_ble_eq_true rfl) (t_X4_sidesOf  h) ?_
  rintro r28 _ ⟨h, h9⟩
  obtain rfl := h9.symm
  refine T.ist_5 (q := 33) dX7_wheel_31 rfl (by decide) sk_ok_i ?_
  refine T.ild_4 (q := 35) dX7_wheel_33 rfl ?_
  refine T.if_eq (tgt := 41) (q := 38) dX7_wheel_35 (by decide) rfl (fun h35 => ?_) (fun h35 => ?_)
  · replace h := s_f (fun q => q h35) h
    refine T.ild_5 (q := 43) dX7_wheel_41 rfl ?_
    refine k_X7_182 rfl dX7_wheel_43 (q := 46) rfl (by decide) (by decide) (by decide) (Nat.le_of_ble_eq_true rfl) (t_bc32 (P := fun r9 => r9 = (bc32 r28)) rfl) ?_
    rintro _ _ ⟨rfl, h9⟩
    obtain rfl := h9.symm
    refine T.iconst (q := 47) (1) dX7_wheel_46 rfl (by decide) ?_
    refine T.ic_ne (tgt := 58) (q := 50) dX7_wheel_47 (by decide) rfl (fun h47 => ?_) (fun h47 => ?_)
    · replace h := s_f h47 h
      refine T.iconst (q := 59) (-1) dX7_wheel_58 rfl (by decide) ?_
      exact T.retI rfl dX7_wheel_59 (by decide) (by decide) h
    · replace h := s_t h47 h
      refine T.ild_5 (q := 52) dX7_wheel_50 rfl ?_
      refine k_X7_187 rfl dX7_wheel_52 (q := 55) rfl (by decide) (by decide) (by decide) (Nat.le_of_ble_eq_true rfl) (t_J6_numberOfTrailingZeros_0f7a4 (P := fun r9 => r9 = (f_J6_numberOfTrailingZeros_0f7a4 r28)) rfl) ?_
      rintro _ _ ⟨rfl, h9⟩
      obtain rfl := h9.symm
      refine T.goto (tgt := 59) dX7_wheel_55 (by decide) ?_
      exact T.retI rfl dX7_wheel_59 (by decide) (by decide) h
  · replace h := s_t h35 h
    refine T.ild_5 (q := 40) dX7_wheel_38 rfl ?_
    exact T.retI rfl dX7_wheel_40 (by decide) (by decide) h
theorem t_X7_click {G : sk_G} {M : sk_M} {a1 : Int32} {a2 : Int32} {a3 : Int32}  {Q : Int32 → Prop} {X : String → Prop} (h : w_X7_click a1 a2 a3 M Q X) : Ctr G mX7_click 7 2 12 [.ref (G.2.2.1 120), .int a1, .int a2, .int a3] M (rI fun r9 M9 => Q r9 ∧ M9 = M) (fun e9 M9 => X e9 ∧ M9 = M) := by
  unfold w_X7_click at h
  refine Ctr.of 0 (by decide) (Nat.le_of_ble_eq_true rfl) ?_
  show TJ G mX7_click (sk_R 7 2 12) (sk_K G 2 12 (rI fun r9 M9 => Q r9 ∧ M9 = M) (fun e9 M9 => X e9 ∧ M9 = M)) 0 0 0 [some (.ref (G.2.2.1 120)), some (.int a1), some (.int a2), some (.int a3)] [] M
  refine T.ild_1 (q := 1) dX7_click_0 rfl ?_
  refine kx_X7_176 rfl dX7_click_1 (q := 4) rfl (by decide) (by decide) (by decide) (Nat.le_of_ble_eq_true rfl) rfl (by decide) (by decide) (t_X7_needWheel  h) (fun _ _ h9 => h9) ?_
  rintro _ ⟨h, h9⟩
  obtain rfl := h9.symm
  refine T.ild_2 (q := 5) dX7_click_4 rfl ?_
  refine T.if_lt (tgt := 24) (q := 8) dX7_click_5 (by decide) rfl (fun h5 => ?_) (fun h5 => ?_)
  · replace h := s_t (Or.inl h5) h
    exact T.throwS (cls := "java/lang/IllegalArgumentException") (names := ["java/lang/RuntimeException", "java/lang/Exception"]) (text := "a wheel goes from 0 to 5") (j := 26) tw_X7_87_91 (by decide +kernel) dX7_click_24 dX7_click_27 dX7_click_28 dX7_click_30 dX7_click_33 rfl (by decide) (by decide) (by decide) (by decide) (by decide) (by decide) ⟨h, rfl⟩
  · refine T.ild_2 (q := 9) dX7_click_8 rfl ?_
    refine T.bipush (q := 11) (6) dX7_click_9 rfl (by decide) ?_
    refine T.ic_ge (tgt := 24) (q := 14) dX7_click_11 (by decide) rfl (fun h11 => ?_) (fun h11 => ?_)
    · replace h := s_t (Or.inr (Or.inl h11)) h
      exact T.throwS (cls := "java/lang/IllegalArgumentException") (names := ["java/lang/RuntimeException", "java/lang/Exception"]) (text := "a wheel goes from 0 to 5") (j := 26) tw_X7_87_91 (by decide +kernel) dX7_click_24 dX7_click_27 dX7_click_28 dX7_click_30 dX7_click_33 rfl (by decide) (by decide) (by decide) (by decide) (by decide) (by decide) ⟨h, rfl⟩
    · refine T.ild_3 (q := 15) dX7_click_14 rfl ?_
      refine T.if_lt (tgt := 24) (q := 18) dX7_click_15 (by decide) rfl (fun h15 => ?_) (fun h15 => ?_)
      · replace h := s_t (Or.inr (Or.inr (Or.inl h15))) h
        exact T.throwS (cls := "java/lang/IllegalArgumentException") (names := ["java/lang/RuntimeException", "java/lang/Exception"]) (text := "a wheel goes from 0 to 5") (j := 26) tw_X7_87_91 (by decide +kernel) dX7_click_24 dX7_click_27 dX7_click_28 dX7_click_30 dX7_click_33 rfl (by decide) (by decide) (by decide) (by decide) (by decide) (by decide) ⟨h, rfl⟩
      · refine T.ild_3 (q := 19) dX7_click_18 rfl ?_
        refine T.bipush (q := 21) (6) dX7_click_19 rfl (by decide) ?_
        refine T.ic_lt (tgt := 34) (q := 24) dX7_click_21 (by decide) rfl (fun h21 => ?_) (fun h21 => ?_)
        · replace h := s_f (fun q => q.elim h5 (fun q => q.elim h11 (fun q => q.elim h15 (fun q => q h21)))) h
          refine T.ald_0 (q := 35) dX7_click_34 rfl ?_
          refine g_X7_19 rfl dX7_click_35 (q := 38) rfl ?_
          refine g_X7_192 sk_s0 rfl dX7_click_38 (q := 41) rfl ?_
          refine T.ild_1 (q := 42) dX7_click_41 rfl ?_
          refine T.bipush (q := 44) (36) dX7_click_42 rfl (by decide) ?_
          refine T.imul (q := 45) dX7_click_44 rfl ?_
          refine T.ild_2 (q := 46) dX7_click_45 rfl ?_
          refine T.bipush (q := 48) (6) dX7_click_46 rfl (by decide) ?_
          refine T.imul (q := 49) dX7_click_48 rfl ?_
          refine T.iadd (q := 50) dX7_click_49 rfl ?_
          refine T.ild_3 (q := 51) dX7_click_50 rfl ?_
          refine T.iadd (q := 52) dX7_click_51 rfl ?_
          refine T.iald (sk_a7 sk_s0).1 (sk_a7 sk_s0).2.1 (sk_a7 sk_s0).2.2 dX7_click_52 (q := 53) rfl h.1 ?_
          replace h := h.2
          exact T.retI rfl dX7_click_53 (by decide) (by decide) ⟨h, rfl⟩
        · replace h := s_t (Or.inr (Or.inr (Or.inr h21))) h
          exact T.throwS (cls := "java/lang/IllegalArgumentException") (names := ["java/lang/RuntimeException", "java/lang/Exception"]) (text := "a wheel goes from 0 to 5") (j := 26) tw_X7_87_91 (by decide +kernel) dX7_click_24 dX7_click_27 dX7_click_28 dX7_click_30 dX7_click_33 rfl (by decide) (by decide) (by decide) (by decide) (by decide) (by decide) ⟨h, rfl⟩
theorem t_X7_needCode {G : sk_G} {M : sk_M} {a0 : Int32}  {Q : Prop} {X : String → Prop} (h : w_X7_needCode a0 M Q X) : Ctr G mX7_needCode 6 1 6 [.int a0] M (rV fun M9 => Q ∧ M9 = M) (fun e9 M9 => X e9 ∧ M9 = M) := by
  unfold w_X7_needCode at h
  refine Ctr.of 0 (by decide) (Nat.le_of_ble_eq_true rfl) ?_
  show TJ G mX7_needCode (sk_R 6 1 6) (sk_K G 1 6 (rV fun M9 => Q ∧ M9 = M) (fun e9 M9 => X e9 ∧ M9 = M)) 0 0 0 [some (.int a0)] [] M
  refine T.ild_0 (q := 1) dX7_needCode_0 rfl ?_
  refine T.if_lt (tgt := 11) (q := 4) dX7_needCode_1 (by decide) rfl (fun h1 => ?_) (fun h1 => ?_)
  · replace h := s_t (Or.inl h1) h
    exact T.throwSW (cls := "java/lang/IndexOutOfBoundsException") (names := ["java/lang/RuntimeException", "java/lang/Exception"]) (text := "there is no such code") (j := 27) tw_X7_298_302 (by decide +kernel) dX7_needCode_11 dX7_needCode_14 dX7_needCode_15 dX7_needCode_18 dX7_needCode_21 rfl (by decide) (by decide) (by decide) (by decide) (by decide) (by decide) ⟨h, rfl⟩
  · refine T.ild_0 (q := 5) dX7_needCode_4 rfl ?_
    refine T.sipush (q := 8) (216) dX7_needCode_5 rfl (by decide) ?_
    refine T.ic_lt (tgt := 22) (q := 11) dX7_needCode_8 (by decide) rfl (fun h8 => ?_) (fun h8 => ?_)
    · replace h := s_f (fun q => q.elim h1 (fun q => q h8)) h
      exact T.retV rfl dX7_needCode_22 (by decide) (by decide) ⟨h, rfl⟩
    · replace h := s_t (Or.inr h8) h
      exact T.throwSW (cls := "java/lang/IndexOutOfBoundsException") (names := ["java/lang/RuntimeException", "java/lang/Exception"]) (text := "there is no such code") (j := 27) tw_X7_298_302 (by decide +kernel) dX7_needCode_11 dX7_needCode_14 dX7_needCode_15 dX7_needCode_18 dX7_needCode_21 rfl (by decide) (by decide) (by decide) (by decide) (by decide) (by decide) ⟨h, rfl⟩
theorem t_X7_sound {G : sk_G} {M : sk_M} {a1 : Int32} {a2 : Int32}  {Q : Int32 → Prop} {X : String → Prop} (h : w_X7_sound a1 a2 M Q X) : Ctr G mX7_sound 7 2 12 [.ref (G.2.2.1 120), .int a1, .int a2] M (rI fun r9 M9 => Q r9 ∧ M9 = M) (fun e9 M9 => X e9 ∧ M9 = M) := by
  unfold w_X7_sound at h
  refine Ctr.of 0 (by decide) (Nat.le_of_ble_eq_true rfl) ?_
  show TJ G mX7_sound (sk_R 7 2 12) (sk_K G 2 12 (rI fun r9 M9 => Q r9 ∧ M9 = M) (fun e9 M9 => X e9 ∧ M9 = M)) 0 0 0 [some (.ref (G.2.2.1 120)), some (.int a1), some (.int a2)] [] M
  refine T.ild_1 (q := 1) dX7_sound_0 rfl ?_
  refine kx_X7_193 rfl dX7_sound_1 (q := 4) rfl (by decide) (by decide) (by decide) (Nat.le_of_ble_eq_true rfl) rfl (by decide) (by decide) (t_X7_needCode  h) (fun _ _ h9 => h9) ?_
  rintro _ ⟨h, h9⟩
  obtain rfl := h9.symm
  refine T.ild_2 (q := 5) dX7_sound_4 rfl ?_
  refine kx_X7_193 rfl dX7_sound_5 (q := 8) rfl (by decide) (by decide) (by decide) (Nat.le_of_ble_eq_true rfl) rfl (by decide) (by decide) (t_X7_needCode  h) (fun _ _ h9 => h9) ?_
  rintro _ ⟨h, h9⟩
  obtain rfl := h9.symm
  refine T.ald_0 (q := 9) dX7_sound_8 rfl ?_
  refine g_X7_19 rfl dX7_sound_9 (q := 12) rfl ?_
  refine T.ild_1 (q := 13) dX7_sound_12 rfl ?_
  refine T.ild_2 (q := 14) dX7_sound_13 rfl ?_
  refine k_X7_196 sk_s0 rfl dX7_sound_14 (q := 17) rfl (by decide) (by decide) (by decide) (Nat.le_of_ble_eq_true rfl) (t_X5_soundOf sk_s0 h) ?_
  rintro r14 _ ⟨h, h9⟩
  obtain rfl := h9.symm
  exact T.retI rfl dX7_sound_17 (by decide) (by decide) ⟨h, rfl⟩
theorem t_X7_turn {G : sk_G} {M : sk_M} {a1 : Int32} {a2 : Int32} {a3 : Int32}  {Q : Int32 → sk_M → Prop} {X : String → sk_M → Prop} (h : w_X7_turn a1 a2 a3 M Q X) : Ctr G mX7_turn 7 4 24 [.ref (G.2.2.1 120), .int a1, .int a2, .int a3] M (rI Q) X := by
  unfold w_X7_turn at h
  refine Ctr.of 2 (by decide) (Nat.le_of_ble_eq_true rfl) ?_
  show TJ G mX7_turn (sk_R 7 4 24) (sk_K G 4 24 (rI Q) X) 0 0 0 [some (.ref (G.2.2.1 120)), some (.int a1), some (.int a2), some (.int a3), none, none] [] M
  refine T.ald_0 (q := 1) dX7_turn_0 rfl ?_
  refine T.ild_1 (q := 2) dX7_turn_1 rfl ?_
  refine kx_X7_160 rfl dX7_turn_2 (q := 5) rfl (by decide) (by decide) (by decide) (Nat.le_of_ble_eq_true rfl) rfl (by decide) (by decide) (t_X7_needPerson  h) (by rintro e9 M9 ⟨h9, rfl⟩; exact h9) ?_
  rintro _ ⟨h, h9⟩
  obtain rfl := h9.symm
  refine T.ald_0 (q := 6) dX7_turn_5 rfl ?_
  refine T.ild_2 (q := 7) dX7_turn_6 rfl ?_
  refine kx_X7_126 rfl dX7_turn_7 (q := 10) rfl (by decide) (by decide) (by decide) (Nat.le_of_ble_eq_true rfl) rfl (by decide) (by decide) (t_X7_needVault  h) (by rintro e9 M9 ⟨h9, rfl⟩; exact h9) ?_
  rintro _ ⟨h, h9⟩
  obtain rfl := h9.symm
  refine T.ild_3 (q := 11) dX7_turn_10 rfl ?_
  refine kx_X7_193 rfl dX7_turn_11 (q := 14) rfl (by decide) (by decide) (by decide) (Nat.le_of_ble_eq_true rfl) rfl (by decide) (by decide) (t_X7_needCode  h) (by rintro e9 M9 ⟨h9, rfl⟩; exact h9) ?_
  rintro _ ⟨h, h9⟩
  obtain rfl := h9.symm
  refine T.ald_0 (q := 15) dX7_turn_14 rfl ?_
  refine g_X7_19 rfl dX7_turn_15 (q := 18) rfl ?_
  refine T.ild_2 (q := 19) dX7_turn_18 rfl ?_
  refine k_X7_199 sk_s0 rfl dX7_turn_19 (q := 22) rfl (by decide) (by decide) (by decide) (Nat.le_of_ble_eq_true rfl) (t_X5_isGuarded sk_s0 h) ?_
  rintro r19 _ ⟨h, h9⟩
  obtain rfl := h9.symm
  refine T.if_eq (tgt := 35) (q := 25) dX7_turn_22 (by decide) rfl (fun h22 => ?_) (fun h22 => ?_)
  · replace h := s_f (fun q => q h22) h
    refine T.ald_0 (q := 36) dX7_turn_35 rfl ?_
    refine g_X7_29 rfl dX7_turn_36 (q := 39) rfl ?_
    refine T.ald_0 (q := 40) dX7_turn_39 rfl ?_
    refine g_X7_19 rfl dX7_turn_40 (q := 43) rfl ?_
    refine k_X7_207 rfl dX7_turn_43 (q := 46) rfl (by decide) (by decide) (by decide) (Nat.le_of_ble_eq_true rfl) (t_X3_keep sk_s0 h) ?_
    intro M43 h
    refine T.ald_0 (q := 47) dX7_turn_46 rfl ?_
    refine g_X7_19 rfl dX7_turn_47 (q := 50) rfl ?_
    refine g_X7_129 sk_s0 rfl dX7_turn_50 (q := 53) rfl ?_
    refine T.ild_2 (q := 54) dX7_turn_53 rfl ?_
    refine T.iald (sk_a1 sk_s0).1 (sk_a1 sk_s0).2.1 (sk_a1 sk_s0).2.2 dX7_turn_54 (q := 55) rfl h.1 ?_
    replace h := h.2
    refine T.ist_4 (q := 57) dX7_turn_55 rfl (by decide) sk_ok_i ?_
    refine S.i4 h ?_
    intro y55 h
    refine T.ald_0 (q := 58) dX7_turn_57 rfl ?_
    refine g_X7_19 rfl dX7_turn_58 (q := 61) rfl ?_
    refine T.ild_3 (q := 62) dX7_turn_61 rfl ?_
    refine T.ild_4 (q := 64) dX7_turn_62 rfl ?_
    refine k_X7_196 sk_s0 rfl dX7_turn_64 (q := 67) rfl (by decide) (by decide) (by decide) (Nat.le_of_ble_eq_true rfl) (t_X5_soundOf sk_s0 h) ?_
    rintro r64 _ ⟨h, h9⟩
    obtain rfl := h9.symm
    refine T.ist_5 (q := 69) dX7_turn_67 rfl (by decide) sk_ok_i ?_
    refine T.ald_0 (q := 70) dX7_turn_69 rfl ?_
    refine g_X7_56 rfl dX7_turn_70 (q := 73) rfl ?_
    refine T.ild_1 (q := 74) dX7_turn_73 rfl ?_
    refine T.ild_2 (q := 75) dX7_turn_74 rfl ?_
    refine k_X7_166 rfl dX7_turn_75 (q := 78) rfl (by decide) (by decide) (by decide) (Nat.le_of_ble_eq_true rfl) (t_X4_load  h) ?_
    intro M75 h
    refine T.ald_0 (q := 79) dX7_turn_78 rfl ?_
    refine g_X7_56 rfl dX7_turn_79 (q := 82) rfl ?_
    refine T.ild_3 (q := 83) dX7_turn_82 rfl ?_
    refine T.ild_4 (q := 85) dX7_turn_83 rfl ?_
    refine k_X7_210 rfl dX7_turn_85 (q := 88) rfl (by decide) (by decide) (by decide) (Nat.le_of_ble_eq_true rfl) (t_X4_hear  h) ?_
    intro M85 h
    refine T.ald_0 (q := 89) dX7_turn_88 rfl ?_
    refine g_X7_19 rfl dX7_turn_89 (q := 92) rfl ?_
    refine T.ild_1 (q := 93) dX7_turn_92 rfl ?_
    refine T.ild_2 (q := 94) dX7_turn_93 rfl ?_
    refine T.ald_0 (q := 95) dX7_turn_94 rfl ?_
    refine g_X7_56 rfl dX7_turn_95 (q := 98) rfl ?_
    refine k_X7_213 sk_s0 rfl dX7_turn_98 (q := 101) rfl (by decide) (by decide) (by decide) (Nat.le_of_ble_eq_true rfl) (t_X5_know sk_s0 h) ?_
    intro M98 h
    refine T.ild_3 (q := 102) dX7_turn_101 rfl ?_
    refine T.ild_4 (q := 104) dX7_turn_102 rfl ?_
    refine s_join (fun s122_104 : sk_M => TJ G mX7_turn (sk_R 7 4 24) (sk_K G 4 24 (rI Q) X) (((0 + 1) + 1) + 1) (((0 + 6) + 6) + 6) 122 [some (.ref (G.2.2.1 120)), some (.int a1), some (.int a2), some (.int a3), none, some (.int r64)] [] s122_104) h (fun s122_104 h => ?_) (fun j122_104 hj122_104 h => ?_)
    · refine T.ald_0 (q := 123) dX7_turn_122 rfl ?_
      refine g_X7_19 rfl dX7_turn_123 (q := 126) rfl ?_
      refine T.ild_1 (q := 127) dX7_turn_126 rfl ?_
      refine T.ild_2 (q := 128) dX7_turn_127 rfl ?_
      refine T.ild_3 (q := 129) dX7_turn_128 rfl ?_
      refine T.ild_5 (q := 131) dX7_turn_129 rfl ?_
      refine k_X7_217 sk_s0 rfl dX7_turn_131 (q := 134) rfl (by decide) (by decide) (by decide) (Nat.le_of_ble_eq_true rfl) (t_X5_write sk_s0 h) ?_
      intro M131 h
      refine T.ild_5 (q := 136) dX7_turn_134 rfl ?_
      exact T.retI rfl dX7_turn_136 (by decide) (by decide) h
    · refine T.ic_ne (tgt := 122) (q := 107) dX7_turn_104 (by decide) rfl (fun h104 => ?_) (fun h104 => ?_)
      · replace h := s_f h104 h
        refine T.drop_4 ?_
        exact hj122_104 M98 h
      · replace h := s_t h104 h
        refine T.ald_0 (q := 108) dX7_turn_107 rfl ?_
        refine g_X7_19 rfl dX7_turn_108 (q := 111) rfl ?_
        refine T.dup (q := 112) dX7_turn_111 rfl rfl ?_
        refine g_X7_138 sk_s0 rfl dX7_turn_112 (q := 115) rfl ?_
        refine T.iconst (q := 116) (1) dX7_turn_115 rfl (by decide) ?_
        refine T.ild_2 (q := 117) dX7_turn_116 rfl ?_
        refine T.ishl (q := 118) dX7_turn_117 rfl ?_
        refine T.ior (q := 119) dX7_turn_118 rfl ?_
        refine p_X7_138 sk_s0 rfl dX7_turn_119 (q := 122) rfl ?_
        refine S.mem h ?_
        intro M119 h
        refine T.drop_4 ?_
        exact hj122_104 M119 h
  · replace h := s_t h22 h
    exact T.throwS (cls := "java/lang/IllegalStateException") (names := ["java/lang/RuntimeException", "java/lang/Exception"]) (text := "the vault is guarded today") (j := 28) tw_X7_202_206 (by decide +kernel) dX7_turn_25 dX7_turn_28 dX7_turn_29 dX7_turn_31 dX7_turn_34 rfl (by decide) (by decide) (by decide) (by decide) (by decide) (by decide) h
theorem t_X7_needTwo {G : sk_G} {M : sk_M} {a1 : Int32} {a2 : Int32} {a3 : Int32}  {Q : Prop} {X : String → Prop} (h : w_X7_needTwo a1 a2 a3 M Q X) : Ctr G mX7_needTwo 7 4 24 [.ref (G.2.2.1 120), .int a1, .int a2, .int a3] M (rV fun M9 => Q ∧ M9 = M) (fun e9 M9 => X e9 ∧ M9 = M) := by
  unfold w_X7_needTwo at h
  refine Ctr.of 0 (by decide) (Nat.le_of_ble_eq_true rfl) ?_
  show TJ G mX7_needTwo (sk_R 7 4 24) (sk_K G 4 24 (rV fun M9 => Q ∧ M9 = M) (fun e9 M9 => X e9 ∧ M9 = M)) 0 0 0 [some (.ref (G.2.2.1 120)), some (.int a1), some (.int a2), some (.int a3)] [] M
  refine T.ald_0 (q := 1) dX7_needTwo_0 rfl ?_
  refine T.ild_1 (q := 2) dX7_needTwo_1 rfl ?_
  refine kx_X7_160 rfl dX7_needTwo_2 (q := 5) rfl (by decide) (by decide) (by decide) (Nat.le_of_ble_eq_true rfl) rfl (by decide) (by decide) (t_X7_needPerson  h) (fun _ _ h9 => h9) ?_
  rintro _ ⟨h, h9⟩
  obtain rfl := h9.symm
  refine T.ald_0 (q := 6) dX7_needTwo_5 rfl ?_
  refine T.ild_2 (q := 7) dX7_needTwo_6 rfl ?_
  refine kx_X7_160 rfl dX7_needTwo_7 (q := 10) rfl (by decide) (by decide) (by decide) (Nat.le_of_ble_eq_true rfl) rfl (by decide) (by decide) (t_X7_needPerson  h) (fun _ _ h9 => h9) ?_
  rintro _ ⟨h, h9⟩
  obtain rfl := h9.symm
  refine T.ald_0 (q := 11) dX7_needTwo_10 rfl ?_
  refine T.ild_3 (q := 12) dX7_needTwo_11 rfl ?_
  refine kx_X7_126 rfl dX7_needTwo_12 (q := 15) rfl (by decide) (by decide) (by decide) (Nat.le_of_ble_eq_true rfl) rfl (by decide) (by decide) (t_X7_needVault  h) (fun _ _ h9 => h9) ?_
  rintro _ ⟨h, h9⟩
  obtain rfl := h9.symm
  refine T.ild_1 (q := 16) dX7_needTwo_15 rfl ?_
  refine T.ild_2 (q := 17) dX7_needTwo_16 rfl ?_
  refine T.ic_ne (tgt := 31) (q := 20) dX7_needTwo_17 (by decide) rfl (fun h17 => ?_) (fun h17 => ?_)
  · replace h := s_f h17 h
    exact T.retV rfl dX7_needTwo_31 (by decide) (by decide) ⟨h, rfl⟩
  · replace h := s_t h17 h
    exact T.throwSW (cls := "java/lang/IllegalArgumentException") (names := ["java/lang/RuntimeException", "java/lang/Exception"]) (text := "both are one") (j := 29) tw_X7_87_91 (by decide +kernel) dX7_needTwo_20 dX7_needTwo_23 dX7_needTwo_24 dX7_needTwo_27 dX7_needTwo_30 rfl (by decide) (by decide) (by decide) (by decide) (by decide) (by decide) ⟨h, rfl⟩
theorem t_X7_tell {G : sk_G} {M : sk_M} {a1 : Int32} {a2 : Int32} {a3 : Int32}  {Q : Int32 → sk_M → Prop} {X : String → sk_M → Prop} (h : w_X7_tell a1 a2 a3 M Q X) : Ctr G mX7_tell 8 4 24 [.ref (G.2.2.1 120), .int a1, .int a2, .int a3] M (rI Q) X := by
  unfold w_X7_tell at h
  refine Ctr.of 0 (by decide) (Nat.le_of_ble_eq_true rfl) ?_
  show TJ G mX7_tell (sk_R 8 4 24) (sk_K G 4 24 (rI Q) X) 0 0 0 [some (.ref (G.2.2.1 120)), some (.int a1), some (.int a2), some (.int a3)] [] M
  refine T.ald_0 (q := 1) dX7_tell_0 rfl ?_
  refine T.ild_1 (q := 2) dX7_tell_1 rfl ?_
  refine T.ild_2 (q := 3) dX7_tell_2 rfl ?_
  refine T.ild_3 (q := 4) dX7_tell_3 rfl ?_
  refine kx_X7_221 rfl dX7_tell_4 (q := 7) rfl (by decide) (by decide) (by decide) (Nat.le_of_ble_eq_true rfl) rfl (by decide) (by decide) (t_X7_needTwo  h) (by rintro e9 M9 ⟨h9, rfl⟩; exact h9) ?_
  rintro _ ⟨h, h9⟩
  obtain rfl := h9.symm
  refine T.ald_0 (q := 8) dX7_tell_7 rfl ?_
  refine g_X7_29 rfl dX7_tell_8 (q := 11) rfl ?_
  refine T.ald_0 (q := 12) dX7_tell_11 rfl ?_
  refine g_X7_19 rfl dX7_tell_12 (q := 15) rfl ?_
  refine k_X7_207 rfl dX7_tell_15 (q := 18) rfl (by decide) (by decide) (by decide) (Nat.le_of_ble_eq_true rfl) (t_X3_keep sk_s0 h) ?_
  intro M15 h
  refine T.ald_0 (q := 19) dX7_tell_18 rfl ?_
  refine g_X7_19 rfl dX7_tell_19 (q := 22) rfl ?_
  refine T.ild_2 (q := 23) dX7_tell_22 rfl ?_
  refine T.ild_1 (q := 24) dX7_tell_23 rfl ?_
  refine T.ild_3 (q := 25) dX7_tell_24 rfl ?_
  refine k_X7_225 sk_s0 rfl dX7_tell_25 (q := 28) rfl (by decide) (by decide) (by decide) (Nat.le_of_ble_eq_true rfl) (t_X5_learnFrom sk_s0 h) ?_
  intro M25 h
  refine T.ald_0 (q := 29) dX7_tell_28 rfl ?_
  refine g_X7_19 rfl dX7_tell_29 (q := 32) rfl ?_
  refine T.ild_2 (q := 33) dX7_tell_32 rfl ?_
  refine T.ild_3 (q := 34) dX7_tell_33 rfl ?_
  refine k_X7_163 sk_s0 rfl dX7_tell_34 (q := 37) rfl (by decide) (by decide) (by decide) (Nat.le_of_ble_eq_true rfl) (t_X5_leftOf sk_s0 h) ?_
  rintro r34 _ ⟨h, h9⟩
  obtain rfl := h9.symm
  exact T.retI rfl dX7_tell_37 (by decide) (by decide) h
theorem t_X7_forget {G : sk_G} {M : sk_M} {a1 : Int32} {a2 : Int32}  {Q : Int32 → sk_M → Prop} {X : String → sk_M → Prop} (h : w_X7_forget a1 a2 M Q X) : Ctr G mX7_forget 7 2 12 [.ref (G.2.2.1 120), .int a1, .int a2] M (rI Q) X := by
  unfold w_X7_forget at h
  refine Ctr.of 1 (by decide) (Nat.le_of_ble_eq_true rfl) ?_
  show TJ G mX7_forget (sk_R 7 2 12) (sk_K G 2 12 (rI Q) X) 0 0 0 [some (.ref (G.2.2.1 120)), some (.int a1), some (.int a2), none] [] M
  refine T.ald_0 (q := 1) dX7_forget_0 rfl ?_
  refine T.ild_1 (q := 2) dX7_forget_1 rfl ?_
  refine kx_X7_160 rfl dX7_forget_2 (q := 5) rfl (by decide) (by decide) (by decide) (Nat.le_of_ble_eq_true rfl) rfl (by decide) (by decide) (t_X7_needPerson  h) (by rintro e9 M9 ⟨h9, rfl⟩; exact h9) ?_
  rintro _ ⟨h, h9⟩
  obtain rfl := h9.symm
  refine T.ald_0 (q := 6) dX7_forget_5 rfl ?_
  refine T.ild_2 (q := 7) dX7_forget_6 rfl ?_
  refine kx_X7_126 rfl dX7_forget_7 (q := 10) rfl (by decide) (by decide) (by decide) (Nat.le_of_ble_eq_true rfl) rfl (by decide) (by decide) (t_X7_needVault  h) (by rintro e9 M9 ⟨h9, rfl⟩; exact h9) ?_
  rintro _ ⟨h, h9⟩
  obtain rfl := h9.symm
  refine T.ald_0 (q := 11) dX7_forget_10 rfl ?_
  refine g_X7_29 rfl dX7_forget_11 (q := 14) rfl ?_
  refine T.ald_0 (q := 15) dX7_forget_14 rfl ?_
  refine g_X7_19 rfl dX7_forget_15 (q := 18) rfl ?_
  refine k_X7_207 rfl dX7_forget_18 (q := 21) rfl (by decide) (by decide) (by decide) (Nat.le_of_ble_eq_true rfl) (t_X3_keep sk_s0 h) ?_
  intro M18 h
  refine T.ald_0 (q := 22) dX7_forget_21 rfl ?_
  refine g_X7_19 rfl dX7_forget_22 (q := 25) rfl ?_
  refine T.ild_1 (q := 26) dX7_forget_25 rfl ?_
  refine T.ild_2 (q := 27) dX7_forget_26 rfl ?_
  refine k_X7_163 sk_s0 rfl dX7_forget_27 (q := 30) rfl (by decide) (by decide) (by decide) (Nat.le_of_ble_eq_true rfl) (t_X5_leftOf sk_s0 h) ?_
  rintro r27 _ ⟨h, h9⟩
  obtain rfl := h9.symm
  refine T.ist_3 (q := 31) dX7_forget_30 rfl (by decide) sk_ok_i ?_
  refine T.ald_0 (q := 32) dX7_forget_31 rfl ?_
  refine g_X7_19 rfl dX7_forget_32 (q := 35) rfl ?_
  refine T.ild_1 (q := 36) dX7_forget_35 rfl ?_
  refine T.ild_2 (q := 37) dX7_forget_36 rfl ?_
  refine k_X7_228 sk_s0 rfl dX7_forget_37 (q := 40) rfl (by decide) (by decide) (by decide) (Nat.le_of_ble_eq_true rfl) (t_X5_knowNothing sk_s0 h) ?_
  intro M37 h
  refine T.ild_3 (q := 41) dX7_forget_40 rfl ?_
  exact T.retI rfl dX7_forget_41 (by decide) (by decide) h
theorem t_X7_change {G : sk_G} {M : sk_M} {a1 : Int32} {a2 : Int32}  {Q : Int32 → sk_M → Prop} {X : String → sk_M → Prop} (h : w_X7_change a1 a2 M Q X) : Ctr G mX7_change 7 2 12 [.ref (G.2.2.1 120), .int a1, .int a2] M (rI Q) X := by
  unfold w_X7_change at h
  refine Ctr.of 1 (by decide) (Nat.le_of_ble_eq_true rfl) ?_
  show TJ G mX7_change (sk_R 7 2 12) (sk_K G 2 12 (rI Q) X) 0 0 0 [some (.ref (G.2.2.1 120)), some (.int a1), some (.int a2), none] [] M
  refine T.ald_0 (q := 1) dX7_change_0 rfl ?_
  refine T.ild_1 (q := 2) dX7_change_1 rfl ?_
  refine kx_X7_126 rfl dX7_change_2 (q := 5) rfl (by decide) (by decide) (by decide) (Nat.le_of_ble_eq_true rfl) rfl (by decide) (by decide) (t_X7_needVault  h) (by rintro e9 M9 ⟨h9, rfl⟩; exact h9) ?_
  rintro _ ⟨h, h9⟩
  obtain rfl := h9.symm
  refine T.ild_2 (q := 6) dX7_change_5 rfl ?_
  refine kx_X7_193 rfl dX7_change_6 (q := 9) rfl (by decide) (by decide) (by decide) (Nat.le_of_ble_eq_true rfl) rfl (by decide) (by decide) (t_X7_needCode  h) (by rintro e9 M9 ⟨h9, rfl⟩; exact h9) ?_
  rintro _ ⟨h, h9⟩
  obtain rfl := h9.symm
  refine T.ald_0 (q := 10) dX7_change_9 rfl ?_
  refine g_X7_29 rfl dX7_change_10 (q := 13) rfl ?_
  refine T.ald_0 (q := 14) dX7_change_13 rfl ?_
  refine g_X7_19 rfl dX7_change_14 (q := 17) rfl ?_
  refine k_X7_207 rfl dX7_change_17 (q := 20) rfl (by decide) (by decide) (by decide) (Nat.le_of_ble_eq_true rfl) (t_X3_keep sk_s0 h) ?_
  intro M17 h
  refine T.ald_0 (q := 21) dX7_change_20 rfl ?_
  refine g_X7_19 rfl dX7_change_21 (q := 24) rfl ?_
  refine g_X7_129 sk_s0 rfl dX7_change_24 (q := 27) rfl ?_
  refine T.ild_1 (q := 28) dX7_change_27 rfl ?_
  refine T.iald (sk_a1 sk_s0).1 (sk_a1 sk_s0).2.1 (sk_a1 sk_s0).2.2 dX7_change_28 (q := 29) rfl h.1 ?_
  replace h := h.2
  refine T.ist_3 (q := 30) dX7_change_29 rfl (by decide) sk_ok_i ?_
  refine S.i3 h ?_
  intro y29 h
  refine T.ald_0 (q := 31) dX7_change_30 rfl ?_
  refine g_X7_19 rfl dX7_change_31 (q := 34) rfl ?_
  refine T.ild_1 (q := 35) dX7_change_34 rfl ?_
  refine T.ild_2 (q := 36) dX7_change_35 rfl ?_
  refine k_X7_231 sk_s0 rfl dX7_change_36 (q := 39) rfl (by decide) (by decide) (by decide) (Nat.le_of_ble_eq_true rfl) (t_X5_tellAnew sk_s0 h) ?_
  intro M36 h
  refine T.ald_0 (q := 40) dX7_change_39 rfl ?_
  refine g_X7_19 rfl dX7_change_40 (q := 43) rfl ?_
  refine T.dup (q := 44) dX7_change_43 rfl rfl ?_
  refine g_X7_234 sk_s0 rfl dX7_change_44 (q := 47) rfl ?_
  refine T.iconst (q := 48) (1) dX7_change_47 rfl (by decide) ?_
  refine T.iadd (q := 49) dX7_change_48 rfl ?_
  refine p_X7_234 sk_s0 rfl dX7_change_49 (q := 52) rfl ?_
  refine S.mem h ?_
  intro M49 h
  refine T.ild_3 (q := 53) dX7_change_52 rfl ?_
  exact T.retI rfl dX7_change_53 (by decide) (by decide) h
theorem t_X7_guard {G : sk_G} {M : sk_M} {a1 : Int32} {a2 : Int32} {a3 : Int32}  {Q : Int32 → sk_M → Prop} {X : String → sk_M → Prop} (h : w_X7_guard a1 a2 a3 M Q X) : Ctr G mX7_guard 7 2 12 [.ref (G.2.2.1 120), .int a1, .int a2, .int a3] M (rI Q) X := by
  unfold w_X7_guard at h
  refine Ctr.of 2 (by decide) (Nat.le_of_ble_eq_true rfl) ?_
  show TJ G mX7_guard (sk_R 7 2 12) (sk_K G 2 12 (rI Q) X) 0 0 0 [some (.ref (G.2.2.1 120)), some (.int a1), some (.int a2), some (.int a3), none, none] [] M
  refine T.ald_0 (q := 1) dX7_guard_0 rfl ?_
  refine T.ild_1 (q := 2) dX7_guard_1 rfl ?_
  refine kx_X7_126 rfl dX7_guard_2 (q := 5) rfl (by decide) (by decide) (by decide) (Nat.le_of_ble_eq_true rfl) rfl (by decide) (by decide) (t_X7_needVault  h) (by rintro e9 M9 ⟨h9, rfl⟩; exact h9) ?_
  rintro _ ⟨h, h9⟩
  obtain rfl := h9.symm
  refine T.ild_2 (q := 6) dX7_guard_5 rfl ?_
  refine T.if_lt (tgt := 15) (q := 9) dX7_guard_6 (by decide) rfl (fun h6 => ?_) (fun h6 => ?_)
  · replace h := s_t (Or.inl h6) h
    exact T.throwS (cls := "java/lang/IllegalArgumentException") (names := ["java/lang/RuntimeException", "java/lang/Exception"]) (text := "a weekday is 0 to 6") (j := 30) tw_X7_87_91 (by decide +kernel) dX7_guard_15 dX7_guard_18 dX7_guard_19 dX7_guard_21 dX7_guard_24 rfl (by decide) (by decide) (by decide) (by decide) (by decide) (by decide) h
  · refine T.ild_2 (q := 10) dX7_guard_9 rfl ?_
    refine T.bipush (q := 12) (7) dX7_guard_10 rfl (by decide) ?_
    refine T.ic_lt (tgt := 25) (q := 15) dX7_guard_12 (by decide) rfl (fun h12 => ?_) (fun h12 => ?_)
    · replace h := s_f (fun q => q.elim h6 (fun q => q h12)) h
      refine T.ald_0 (q := 26) dX7_guard_25 rfl ?_
      refine g_X7_29 rfl dX7_guard_26 (q := 29) rfl ?_
      refine T.ald_0 (q := 30) dX7_guard_29 rfl ?_
      refine g_X7_19 rfl dX7_guard_30 (q := 33) rfl ?_
      refine k_X7_207 rfl dX7_guard_33 (q := 36) rfl (by decide) (by decide) (by decide) (Nat.le_of_ble_eq_true rfl) (t_X3_keep sk_s0 h) ?_
      intro M33 h
      refine T.ald_0 (q := 37) dX7_guard_36 rfl ?_
      refine g_X7_19 rfl dX7_guard_37 (q := 40) rfl ?_
      refine g_X7_132 sk_s0 rfl dX7_guard_40 (q := 43) rfl ?_
      refine T.ild_1 (q := 44) dX7_guard_43 rfl ?_
      refine T.iald (sk_a2 sk_s0).1 (sk_a2 sk_s0).2.1 (sk_a2 sk_s0).2.2 dX7_guard_44 (q := 45) rfl h.1 ?_
      replace h := h.2
      refine T.ist_4 (q := 47) dX7_guard_45 rfl (by decide) sk_ok_i ?_
      refine S.i4 h ?_
      intro y45 h
      refine T.ild_3 (q := 48) dX7_guard_47 rfl ?_
      refine s_dia (fun s68_48 : Int32 => TJ G mX7_guard (sk_R 7 2 12) (sk_K G 2 12 (rI Q) X) (0 + 1) (0 + 6) 68 [some (.ref (G.2.2.1 120)), some (.int a1), some (.int a2), some (.int a3), some (.int y45), none] [.int s68_48] M33) h (fun s68_48 h => ?_) (fun k9 hJ9 h => ?_)
      · refine T.ist_5 (q := 70) dX7_guard_68 rfl (by decide) sk_ok_i ?_
        refine T.ald_0 (q := 71) dX7_guard_70 rfl ?_
        refine g_X7_19 rfl dX7_guard_71 (q := 74) rfl ?_
        refine g_X7_132 sk_s0 rfl dX7_guard_74 (q := 77) rfl ?_
        refine T.ild_1 (q := 78) dX7_guard_77 rfl ?_
        refine T.ild_5 (q := 80) dX7_guard_78 rfl ?_
        refine T.iast (sk_a2 sk_s0).1 (sk_a2 sk_s0).2.1 (sk_a2 sk_s0).2.2 dX7_guard_80 (q := 81) rfl h.1 ?_
        refine S.mem h.2 ?_
        intro M80 h
        refine T.ild_5 (q := 83) dX7_guard_81 rfl ?_
        refine T.ild_4 (q := 85) dX7_guard_83 rfl ?_
        refine T.ic_eq (tgt := 92) (q := 88) dX7_guard_85 (by decide) rfl (fun h85 => ?_) (fun h85 => ?_)
        · replace h := s_f (fun q => q h85) h
          refine T.iconst (q := 93) (0) dX7_guard_92 rfl (by decide) ?_
          exact T.retZ rfl dX7_guard_93 (by decide) (by decide) rfl h
        · replace h := s_t h85 h
          refine T.iconst (q := 89) (1) dX7_guard_88 rfl (by decide) ?_
          refine T.goto (tgt := 93) dX7_guard_89 (by decide) ?_
          exact T.retZ rfl dX7_guard_93 (by decide) (by decide) rfl h
      · refine T.if_eq (tgt := 60) (q := 51) dX7_guard_48 (by decide) rfl (fun h48 => ?_) (fun h48 => ?_)
        · replace h := s_fk (fun q => q h48) h
          refine T.ild_4 (q := 62) dX7_guard_60 rfl ?_
          refine T.iconst (q := 63) (1) dX7_guard_62 rfl (by decide) ?_
          refine T.ild_2 (q := 64) dX7_guard_63 rfl ?_
          refine T.ishl (q := 65) dX7_guard_64 rfl ?_
          refine T.iconst (q := 66) (-1) dX7_guard_65 rfl (by decide) ?_
          refine T.ixor (q := 67) dX7_guard_66 rfl ?_
          refine T.iand (q := 68) dX7_guard_67 rfl ?_
          exact hJ9 _ h
        · replace h := s_tk h48 h
          refine T.ild_4 (q := 53) dX7_guard_51 rfl ?_
          refine T.iconst (q := 54) (1) dX7_guard_53 rfl (by decide) ?_
          refine T.ild_2 (q := 55) dX7_guard_54 rfl ?_
          refine T.ishl (q := 56) dX7_guard_55 rfl ?_
          refine T.ior (q := 57) dX7_guard_56 rfl ?_
          refine T.goto (tgt := 68) dX7_guard_57 (by decide) ?_
          exact hJ9 _ h
    · replace h := s_t (Or.inr h12) h
      exact T.throwS (cls := "java/lang/IllegalArgumentException") (names := ["java/lang/RuntimeException", "java/lang/Exception"]) (text := "a weekday is 0 to 6") (j := 30) tw_X7_87_91 (by decide +kernel) dX7_guard_15 dX7_guard_18 dX7_guard_19 dX7_guard_21 dX7_guard_24 rfl (by decide) (by decide) (by decide) (by decide) (by decide) (by decide) h
theorem tl_X7_days_L53 {G : sk_G} {cells slots : Nat} {a1 : Int32} {Q : Int32 → sk_M → Prop} {X : String → sk_M → Prop} {k98 : sk_M → Prop}  (hc0 : cells ≤ 1) (hs0 : slots ≤ 6) (hk98 : ∀ s98 : sk_M, k98 s98 → TJ G mX7_days (sk_R 6 1 6) (sk_K G 1 6 (rI Q) X) cells slots 98 [some (.ref (G.2.2.1 120)), some (.int a1), none] [] s98) : ∀ (F : Nat) (s53 : Int32 × sk_M), lp (w_X7_days_L53  k98) F s53 → TJ G mX7_days (sk_R 6 1 6) (sk_K G 1 6 (rI Q) X) cells slots 53 [some (.ref (G.2.2.1 120)), some (.int a1), some (.int s53.1)] [] s53.2 := by
  refine lp_sound (fun c hc9 s53 h => ?_)
  unfold w_X7_days_L53 at h
  refine T.ild_2 (q := 54) dX7_days_53 rfl ?_
  refine T.ald_0 (q := 55) dX7_days_54 rfl ?_
  refine g_X7_19 rfl dX7_days_55 (q := 58) rfl ?_
  refine g_X7_248 sk_s0 rfl dX7_days_58 (q := 61) rfl ?_
  refine T.ic_ge (tgt := 98) (q := 64) dX7_days_61 (by decide) rfl (fun h61 => ?_) (fun h61 => ?_)
  · replace h := s_f (fun q => q h61) h
    refine T.drop_2 ?_
    exact hk98 s53.2 h
  · replace h := s_t h61 h
    refine T.ald_0 (q := 65) dX7_days_64 rfl ?_
    refine g_X7_63 rfl dX7_days_65 (q := 68) rfl ?_
    refine T.ild_2 (q := 69) dX7_days_68 rfl ?_
    refine k_X7_251 rfl dX7_days_69 (q := 72) rfl (by decide) hc0 hs0 (Nat.le_of_ble_eq_true rfl) (t_X2_hasTold  h) ?_
    rintro r69 _ ⟨h, h9⟩
    obtain rfl := h9.symm
    refine T.if_eq (tgt := 92) (q := 75) dX7_days_72 (by decide) rfl (fun h72 => ?_) (fun h72 => ?_)
    · replace h := s_f (fun q => q h72) h
      refine T.inc_2 (q := 95) (1) dX7_days_92 rfl (by decide) (by decide) sk_ok_i ?_
      refine T.goto (tgt := 53) dX7_days_95 (by decide) ?_
      exact hc9 ((s53.1 + (1 : Int32)), s53.2) h
    · replace h := s_t h72 h
      refine T.ald_0 (q := 76) dX7_days_75 rfl ?_
      refine g_X7_19 rfl dX7_days_76 (q := 79) rfl ?_
      refine T.ild_2 (q := 80) dX7_days_79 rfl ?_
      refine T.ald_0 (q := 81) dX7_days_80 rfl ?_
      refine g_X7_63 rfl dX7_days_81 (q := 84) rfl ?_
      refine g_X7_254 rfl dX7_days_84 (q := 87) rfl ?_
      refine T.ild_2 (q := 88) dX7_days_87 rfl ?_
      refine T.iald (n := 6) rfl rfl (by decide) dX7_days_88 (q := 89) rfl h.1 ?_
      replace h := h.2
      refine k_X7_231 sk_s0 rfl dX7_days_89 (q := 92) rfl (by decide) hc0 hs0 (Nat.le_of_ble_eq_true rfl) (t_X5_tellAnew sk_s0 h) ?_
      intro M89 h
      refine T.inc_2 (q := 95) (1) dX7_days_92 rfl (by decide) (by decide) sk_ok_i ?_
      refine T.goto (tgt := 53) dX7_days_95 (by decide) ?_
      exact hc9 ((s53.1 + (1 : Int32)), M89) h
theorem t_X7_days {G : sk_G} {M : sk_M} {a1 : Int32}  {Q : Int32 → sk_M → Prop} {X : String → sk_M → Prop} (h : w_X7_days a1 M Q X) : Ctr G mX7_days 6 1 6 [.ref (G.2.2.1 120), .int a1] M (rI Q) X := by
  unfold w_X7_days at h
  refine Ctr.of 1 (by decide) (Nat.le_of_ble_eq_true rfl) ?_
  show TJ G mX7_days (sk_R 6 1 6) (sk_K G 1 6 (rI Q) X) 0 0 0 [some (.ref (G.2.2.1 120)), some (.int a1), none] [] M
  refine T.ild_1 (q := 1) dX7_days_0 rfl ?_
  refine T.iconst (q := 2) (1) dX7_days_1 rfl (by decide) ?_
  refine T.ic_lt (tgt := 11) (q := 5) dX7_days_2 (by decide) rfl (fun h2 => ?_) (fun h2 => ?_)
  · replace h := s_t (Or.inl h2) h
    exact T.throwS (cls := "java/lang/IllegalArgumentException") (names := ["java/lang/RuntimeException", "java/lang/Exception"]) (text := "days are 1 to 60") (j := 31) tw_X7_87_91 (by decide +kernel) dX7_days_11 dX7_days_14 dX7_days_15 dX7_days_17 dX7_days_20 rfl (by decide) (by decide) (by decide) (by decide) (by decide) (by decide) h
  · refine T.ild_1 (q := 6) dX7_days_5 rfl ?_
    refine T.bipush (q := 8) (60) dX7_days_6 rfl (by decide) ?_
    refine T.ic_le (tgt := 21) (q := 11) dX7_days_8 (by decide) rfl (fun h8 => ?_) (fun h8 => ?_)
    · replace h := s_f (fun q => q.elim h2 (fun q => q h8)) h
      refine T.ald_0 (q := 22) dX7_days_21 rfl ?_
      refine g_X7_29 rfl dX7_days_22 (q := 25) rfl ?_
      refine T.ald_0 (q := 26) dX7_days_25 rfl ?_
      refine g_X7_19 rfl dX7_days_26 (q := 29) rfl ?_
      refine k_X7_207 rfl dX7_days_29 (q := 32) rfl (by decide) (by decide) (by decide) (Nat.le_of_ble_eq_true rfl) (t_X3_keep sk_s0 h) ?_
      intro M29 h
      refine T.ald_0 (q := 33) dX7_days_32 rfl ?_
      refine g_X7_63 rfl dX7_days_33 (q := 36) rfl ?_
      refine T.ald_0 (q := 37) dX7_days_36 rfl ?_
      refine g_X7_19 rfl dX7_days_37 (q := 40) rfl ?_
      refine T.ald_0 (q := 41) dX7_days_40 rfl ?_
      refine g_X7_19 rfl dX7_days_41 (q := 44) rfl ?_
      refine g_X7_241 sk_s0 rfl dX7_days_44 (q := 47) rfl ?_
      refine T.ild_1 (q := 48) dX7_days_47 rfl ?_
      refine k_X7_244 rfl dX7_days_48 (q := 51) rfl (by decide) (by decide) (by decide) (Nat.le_of_ble_eq_true rfl) (t_X2_work sk_s0 h) ?_
      intro M48 h
      refine T.iconst (q := 52) (0) dX7_days_51 rfl (by decide) ?_
      refine T.ist_2 (q := 53) dX7_days_52 rfl (by decide) sk_ok_i ?_
      refine tl_X7_days_L53  (by decide) (by decide) ?_ _ ((0 : Int32), M48) h
      intro s98 h
      refine T.ald_0 (q := 99) dX7_days_98 rfl ?_
      refine g_X7_19 rfl dX7_days_99 (q := 102) rfl ?_
      refine T.dup (q := 103) dX7_days_102 rfl rfl ?_
      refine g_X7_234 sk_s0 rfl dX7_days_103 (q := 106) rfl ?_
      refine T.ald_0 (q := 107) dX7_days_106 rfl ?_
      refine g_X7_63 rfl dX7_days_107 (q := 110) rfl ?_
      refine g_X7_255 rfl dX7_days_110 (q := 113) rfl ?_
      refine T.iadd (q := 114) dX7_days_113 rfl ?_
      refine p_X7_234 sk_s0 rfl dX7_days_114 (q := 117) rfl ?_
      refine S.mem h ?_
      intro M114 h
      refine T.ald_0 (q := 118) dX7_days_117 rfl ?_
      refine g_X7_19 rfl dX7_days_118 (q := 121) rfl ?_
      refine T.ald_0 (q := 122) dX7_days_121 rfl ?_
      refine g_X7_63 rfl dX7_days_122 (q := 125) rfl ?_
      refine g_X7_258 rfl dX7_days_125 (q := 128) rfl ?_
      refine p_X7_241 sk_s0 rfl dX7_days_128 (q := 131) rfl ?_
      refine S.mem h ?_
      intro M128 h
      refine T.ald_0 (q := 132) dX7_days_131 rfl ?_
      refine g_X7_19 rfl dX7_days_132 (q := 135) rfl ?_
      refine T.sipush (q := 138) (9999) dX7_days_135 rfl (by decide) ?_
      refine T.ald_0 (q := 139) dX7_days_138 rfl ?_
      refine g_X7_19 rfl dX7_days_139 (q := 142) rfl ?_
      refine g_X7_145 sk_s0 rfl dX7_days_142 (q := 145) rfl ?_
      refine T.ild_1 (q := 146) dX7_days_145 rfl ?_
      refine T.iadd (q := 147) dX7_days_146 rfl ?_
      refine k_X7_259 rfl dX7_days_147 (q := 150) rfl (by decide) (by decide) (by decide) (Nat.le_of_ble_eq_true rfl) ?_
      refine p_X7_145 sk_s0 rfl dX7_days_150 (q := 153) rfl ?_
      refine S.mem h ?_
      intro M150 h
      refine T.ald_0 (q := 154) dX7_days_153 rfl ?_
      refine g_X7_63 rfl dX7_days_154 (q := 157) rfl ?_
      refine g_X7_255 rfl dX7_days_157 (q := 160) rfl ?_
      exact T.retI rfl dX7_days_160 (by decide) (by decide) h
    · replace h := s_t (Or.inr h8) h
      exact T.throwS (cls := "java/lang/IllegalArgumentException") (names := ["java/lang/RuntimeException", "java/lang/Exception"]) (text := "days are 1 to 60") (j := 31) tw_X7_87_91 (by decide +kernel) dX7_days_11 dX7_days_14 dX7_days_15 dX7_days_17 dX7_days_20 rfl (by decide) (by decide) (by decide) (by decide) (by decide) (by decide) h
theorem t_X7_parts {G : sk_G} {M : sk_M} {a1 : Int32} {a2 : Int32} {a3 : Int32} {a4 : Int32}  {Q : Int32 → sk_M → Prop} {X : String → sk_M → Prop} (h : w_X7_parts a1 a2 a3 a4 M Q X) : Ctr G mX7_parts 7 3 18 [.ref (G.2.2.1 120), .int a1, .int a2, .int a3, .int a4] M (rI Q) X := by
  unfold w_X7_parts at h
  refine Ctr.of 0 (by decide) (Nat.le_of_ble_eq_true rfl) ?_
  show TJ G mX7_parts (sk_R 7 3 18) (sk_K G 3 18 (rI Q) X) 0 0 0 [some (.ref (G.2.2.1 120)), some (.int a1), some (.int a2), some (.int a3), some (.int a4)] [] M
  refine T.ald_0 (q := 1) dX7_parts_0 rfl ?_
  refine T.ild_1 (q := 2) dX7_parts_1 rfl ?_
  refine kx_X7_160 rfl dX7_parts_2 (q := 5) rfl (by decide) (by decide) (by decide) (Nat.le_of_ble_eq_true rfl) rfl (by decide) (by decide) (t_X7_needPerson  h) (by rintro e9 M9 ⟨h9, rfl⟩; exact h9) ?_
  rintro _ ⟨h, h9⟩
  obtain rfl := h9.symm
  refine T.ald_0 (q := 6) dX7_parts_5 rfl ?_
  refine T.ild_2 (q := 7) dX7_parts_6 rfl ?_
  refine kx_X7_126 rfl dX7_parts_7 (q := 10) rfl (by decide) (by decide) (by decide) (Nat.le_of_ble_eq_true rfl) rfl (by decide) (by decide) (t_X7_needVault  h) (by rintro e9 M9 ⟨h9, rfl⟩; exact h9) ?_
  rintro _ ⟨h, h9⟩
  obtain rfl := h9.symm
  refine T.ild_3 (q := 11) dX7_parts_10 rfl ?_
  refine kx_X7_193 rfl dX7_parts_11 (q := 14) rfl (by decide) (by decide) (by decide) (Nat.le_of_ble_eq_true rfl) rfl (by decide) (by decide) (t_X7_needCode  h) (by rintro e9 M9 ⟨h9, rfl⟩; exact h9) ?_
  rintro _ ⟨h, h9⟩
  obtain rfl := h9.symm
  refine T.ald_0 (q := 15) dX7_parts_14 rfl ?_
  refine g_X7_56 rfl dX7_parts_15 (q := 18) rfl ?_
  refine T.ild_1 (q := 19) dX7_parts_18 rfl ?_
  refine T.ild_2 (q := 20) dX7_parts_19 rfl ?_
  refine k_X7_166 rfl dX7_parts_20 (q := 23) rfl (by decide) (by decide) (by decide) (Nat.le_of_ble_eq_true rfl) (t_X4_load  h) ?_
  intro M20 h
  refine T.ild_4 (q := 25) dX7_parts_23 rfl ?_
  refine T.if_eq (tgt := 42) (q := 28) dX7_parts_25 (by decide) rfl (fun h25 => ?_) (fun h25 => ?_)
  · replace h := s_f (fun q => q h25) h
    refine T.ald_0 (q := 43) dX7_parts_42 rfl ?_
    refine g_X7_56 rfl dX7_parts_43 (q := 46) rfl ?_
    refine T.ild_3 (q := 47) dX7_parts_46 rfl ?_
    refine k_X7_267 rfl dX7_parts_47 (q := 50) rfl (by decide) (by decide) (by decide) (Nat.le_of_ble_eq_true rfl) (t_X4_partsBy  h) ?_
    intro r47 M47 h
    exact T.retI rfl dX7_parts_50 (by decide) (by decide) h
  · replace h := s_t h25 h
    refine T.ald_0 (q := 29) dX7_parts_28 rfl ?_
    refine g_X7_56 rfl dX7_parts_29 (q := 32) rfl ?_
    refine T.ild_3 (q := 33) dX7_parts_32 rfl ?_
    refine T.sipush (q := 36) (217) dX7_parts_33 rfl (by decide) ?_
    refine k_X7_264 rfl dX7_parts_36 (q := 39) rfl (by decide) (by decide) (by decide) (Nat.le_of_ble_eq_true rfl) (t_X4_greatestPart  h) ?_
    intro r36 M36 h
    refine T.goto (tgt := 50) dX7_parts_39 (by decide) ?_
    exact T.retI rfl dX7_parts_50 (by decide) (by decide) h
theorem t_X7_next {G : sk_G} {M : sk_M} {a1 : Int32} {a2 : Int32}  {Q : Int32 → sk_M → Prop} {X : String → sk_M → Prop} (h : w_X7_next a1 a2 M Q X) : Ctr G mX7_next 7 2 12 [.ref (G.2.2.1 120), .int a1, .int a2] M (rI Q) X := by
  unfold w_X7_next at h
  refine Ctr.of 0 (by decide) (Nat.le_of_ble_eq_true rfl) ?_
  show TJ G mX7_next (sk_R 7 2 12) (sk_K G 2 12 (rI Q) X) 0 0 0 [some (.ref (G.2.2.1 120)), some (.int a1), some (.int a2)] [] M
  refine T.ald_0 (q := 1) dX7_next_0 rfl ?_
  refine T.ild_1 (q := 2) dX7_next_1 rfl ?_
  refine kx_X7_160 rfl dX7_next_2 (q := 5) rfl (by decide) (by decide) (by decide) (Nat.le_of_ble_eq_true rfl) rfl (by decide) (by decide) (t_X7_needPerson  h) (by rintro e9 M9 ⟨h9, rfl⟩; exact h9) ?_
  rintro _ ⟨h, h9⟩
  obtain rfl := h9.symm
  refine T.ald_0 (q := 6) dX7_next_5 rfl ?_
  refine T.ild_2 (q := 7) dX7_next_6 rfl ?_
  refine kx_X7_126 rfl dX7_next_7 (q := 10) rfl (by decide) (by decide) (by decide) (Nat.le_of_ble_eq_true rfl) rfl (by decide) (by decide) (t_X7_needVault  h) (by rintro e9 M9 ⟨h9, rfl⟩; exact h9) ?_
  rintro _ ⟨h, h9⟩
  obtain rfl := h9.symm
  refine T.ald_0 (q := 11) dX7_next_10 rfl ?_
  refine g_X7_56 rfl dX7_next_11 (q := 14) rfl ?_
  refine T.ild_1 (q := 15) dX7_next_14 rfl ?_
  refine T.ild_2 (q := 16) dX7_next_15 rfl ?_
  refine k_X7_166 rfl dX7_next_16 (q := 19) rfl (by decide) (by decide) (by decide) (Nat.le_of_ble_eq_true rfl) (t_X4_load  h) ?_
  intro M16 h
  refine T.ald_0 (q := 20) dX7_next_19 rfl ?_
  refine g_X7_56 rfl dX7_next_20 (q := 23) rfl ?_
  refine k_X7_270 rfl dX7_next_23 (q := 26) rfl (by decide) (by decide) (by decide) (Nat.le_of_ble_eq_true rfl) (t_X4_bestTurning  h) ?_
  intro r23 M23 h
  exact T.retI rfl dX7_next_26 (by decide) (by decide) h
theorem tl_X7_outright_L21 {G : sk_G} {cells slots : Nat}  {Q : Int32 → sk_M → Prop} {X : String → sk_M → Prop}  (hc0 : cells ≤ 2) (hs0 : slots ≤ 12) : ∀ (F : Nat) (s21 : Int32 × sk_M), lp (w_X7_outright_L21 Q) F s21 → TJ G mX7_outright (sk_R 7 2 12) (sk_K G 2 12 (rI Q) X) cells slots 21 [some (.ref (G.2.2.1 120)), none, none, some (.int s21.1)] [] s21.2 := by
  refine lp_sound (fun c hc9 s21 h => ?_)
  unfold w_X7_outright_L21 at h
  refine T.ild_3 (q := 22) dX7_outright_21 rfl ?_
  refine T.sipush (q := 25) (216) dX7_outright_22 rfl (by decide) ?_
  refine T.ic_ge (tgt := 49) (q := 28) dX7_outright_25 (by decide) rfl (fun h25 => ?_) (fun h25 => ?_)
  · replace h := s_f (fun q => q h25) h
    refine T.iconst (q := 50) (-1) dX7_outright_49 rfl (by decide) ?_
    exact T.retI rfl dX7_outright_50 hc0 hs0 h
  · replace h := s_t h25 h
    refine T.ald_0 (q := 29) dX7_outright_28 rfl ?_
    refine g_X7_56 rfl dX7_outright_29 (q := 32) rfl ?_
    refine T.ild_3 (q := 33) dX7_outright_32 rfl ?_
    refine T.iconst (q := 34) (2) dX7_outright_33 rfl (by decide) ?_
    refine k_X7_264 rfl dX7_outright_34 (q := 37) rfl (by decide) hc0 hs0 (Nat.le_of_ble_eq_true rfl) (t_X4_greatestPart  h) ?_
    intro r34 M34 h
    refine T.iconst (q := 38) (2) dX7_outright_37 rfl (by decide) ?_
    refine T.ic_ge (tgt := 43) (q := 41) dX7_outright_38 (by decide) rfl (fun h38 => ?_) (fun h38 => ?_)
    · replace h := s_f (fun q => q h38) h
      refine T.inc_3 (q := 46) (1) dX7_outright_43 rfl (by decide) (by decide) sk_ok_n ?_
      refine T.goto (tgt := 21) dX7_outright_46 (by decide) ?_
      exact hc9 ((s21.1 + (1 : Int32)), M34) h
    · replace h := s_t h38 h
      refine T.ild_3 (q := 42) dX7_outright_41 rfl ?_
      exact T.retI rfl dX7_outright_42 hc0 hs0 h
theorem t_X7_outright {G : sk_G} {M : sk_M} {a1 : Int32} {a2 : Int32}  {Q : Int32 → sk_M → Prop} {X : String → sk_M → Prop} (h : w_X7_outright a1 a2 M Q X) : Ctr G mX7_outright 7 2 12 [.ref (G.2.2.1 120), .int a1, .int a2] M (rI Q) X := by
  unfold w_X7_outright at h
  refine Ctr.of 1 (by decide) (Nat.le_of_ble_eq_true rfl) ?_
  show TJ G mX7_outright (sk_R 7 2 12) (sk_K G 2 12 (rI Q) X) 0 0 0 [some (.ref (G.2.2.1 120)), some (.int a1), some (.int a2), none] [] M
  refine T.ald_0 (q := 1) dX7_outright_0 rfl ?_
  refine T.ild_1 (q := 2) dX7_outright_1 rfl ?_
  refine kx_X7_160 rfl dX7_outright_2 (q := 5) rfl (by decide) (by decide) (by decide) (Nat.le_of_ble_eq_true rfl) rfl (by decide) (by decide) (t_X7_needPerson  h) (by rintro e9 M9 ⟨h9, rfl⟩; exact h9) ?_
  rintro _ ⟨h, h9⟩
  obtain rfl := h9.symm
  refine T.ald_0 (q := 6) dX7_outright_5 rfl ?_
  refine T.ild_2 (q := 7) dX7_outright_6 rfl ?_
  refine kx_X7_126 rfl dX7_outright_7 (q := 10) rfl (by decide) (by decide) (by decide) (Nat.le_of_ble_eq_true rfl) rfl (by decide) (by decide) (t_X7_needVault  h) (by rintro e9 M9 ⟨h9, rfl⟩; exact h9) ?_
  rintro _ ⟨h, h9⟩
  obtain rfl := h9.symm
  refine T.ald_0 (q := 11) dX7_outright_10 rfl ?_
  refine g_X7_56 rfl dX7_outright_11 (q := 14) rfl ?_
  refine T.ild_1 (q := 15) dX7_outright_14 rfl ?_
  refine T.ild_2 (q := 16) dX7_outright_15 rfl ?_
  refine k_X7_166 rfl dX7_outright_16 (q := 19) rfl (by decide) (by decide) (by decide) (Nat.le_of_ble_eq_true rfl) (t_X4_load  h) ?_
  intro M16 h
  refine T.iconst (q := 20) (0) dX7_outright_19 rfl (by decide) ?_
  refine T.ist_3 (q := 21) dX7_outright_20 rfl (by decide) sk_ok_i ?_
  refine T.drop_1 ?_
  refine T.drop_2 ?_
  exact tl_X7_outright_L21  (by decide) (by decide) _ ((0 : Int32), M16) h
theorem t_X7_worst {G : sk_G} {M : sk_M} {a1 : Int32} {a2 : Int32}  {Q : Int32 → sk_M → Prop} {X : String → sk_M → Prop} (h : w_X7_worst a1 a2 M Q X) : Ctr G mX7_worst 7 2 12 [.ref (G.2.2.1 120), .int a1, .int a2] M (rI Q) X := by
  unfold w_X7_worst at h
  refine Ctr.of 0 (by decide) (Nat.le_of_ble_eq_true rfl) ?_
  show TJ G mX7_worst (sk_R 7 2 12) (sk_K G 2 12 (rI Q) X) 0 0 0 [some (.ref (G.2.2.1 120)), some (.int a1), some (.int a2)] [] M
  refine T.ald_0 (q := 1) dX7_worst_0 rfl ?_
  refine T.ild_1 (q := 2) dX7_worst_1 rfl ?_
  refine kx_X7_160 rfl dX7_worst_2 (q := 5) rfl (by decide) (by decide) (by decide) (Nat.le_of_ble_eq_true rfl) rfl (by decide) (by decide) (t_X7_needPerson  h) (by rintro e9 M9 ⟨h9, rfl⟩; exact h9) ?_
  rintro _ ⟨h, h9⟩
  obtain rfl := h9.symm
  refine T.ald_0 (q := 6) dX7_worst_5 rfl ?_
  refine T.ild_2 (q := 7) dX7_worst_6 rfl ?_
  refine kx_X7_126 rfl dX7_worst_7 (q := 10) rfl (by decide) (by decide) (by decide) (Nat.le_of_ble_eq_true rfl) rfl (by decide) (by decide) (t_X7_needVault  h) (by rintro e9 M9 ⟨h9, rfl⟩; exact h9) ?_
  rintro _ ⟨h, h9⟩
  obtain rfl := h9.symm
  refine T.ald_0 (q := 11) dX7_worst_10 rfl ?_
  refine g_X7_56 rfl dX7_worst_11 (q := 14) rfl ?_
  refine T.ild_1 (q := 15) dX7_worst_14 rfl ?_
  refine T.ild_2 (q := 16) dX7_worst_15 rfl ?_
  refine k_X7_166 rfl dX7_worst_16 (q := 19) rfl (by decide) (by decide) (by decide) (Nat.le_of_ble_eq_true rfl) (t_X4_load  h) ?_
  intro M16 h
  refine T.ald_0 (q := 20) dX7_worst_19 rfl ?_
  refine g_X7_56 rfl dX7_worst_20 (q := 23) rfl ?_
  refine k_X7_274 rfl dX7_worst_23 (q := 26) rfl (by decide) (by decide) (by decide) (Nat.le_of_ble_eq_true rfl) (t_X4_turningsNeeded  h) ?_
  intro r23 M23 h
  exact T.retI rfl dX7_worst_26 (by decide) (by decide) h
theorem t_X7_quietest {G : sk_G} {M : sk_M} {a1 : Int32}  {Q : Int32 → sk_M → Prop} {X : String → sk_M → Prop} (h : w_X7_quietest a1 M Q X) : Ctr G mX7_quietest 7 1 6 [.ref (G.2.2.1 120), .int a1] M (rI Q) X := by
  unfold w_X7_quietest at h
  refine Ctr.of 0 (by decide) (Nat.le_of_ble_eq_true rfl) ?_
  show TJ G mX7_quietest (sk_R 7 1 6) (sk_K G 1 6 (rI Q) X) 0 0 0 [some (.ref (G.2.2.1 120)), some (.int a1)] [] M
  refine T.ild_1 (q := 1) dX7_quietest_0 rfl ?_
  refine kx_X7_193 rfl dX7_quietest_1 (q := 4) rfl (by decide) (by decide) (by decide) (Nat.le_of_ble_eq_true rfl) rfl (by decide) (by decide) (t_X7_needCode  h) (by rintro e9 M9 ⟨h9, rfl⟩; exact h9) ?_
  rintro _ ⟨h, h9⟩
  obtain rfl := h9.symm
  refine T.ald_0 (q := 5) dX7_quietest_4 rfl ?_
  refine g_X7_56 rfl dX7_quietest_5 (q := 8) rfl ?_
  refine T.ild_1 (q := 9) dX7_quietest_8 rfl ?_
  refine k_X7_277 rfl dX7_quietest_9 (q := 12) rfl (by decide) (by decide) (by decide) (Nat.le_of_ble_eq_true rfl) (t_X4_loadAllBut  h) ?_
  intro M9 h
  refine T.ald_0 (q := 13) dX7_quietest_12 rfl ?_
  refine g_X7_56 rfl dX7_quietest_13 (q := 16) rfl ?_
  refine T.ild_1 (q := 17) dX7_quietest_16 rfl ?_
  refine k_X7_280 rfl dX7_quietest_17 (q := 20) rfl (by decide) (by decide) (by decide) (Nat.le_of_ble_eq_true rfl) (t_X4_mostShared  h) ?_
  intro r17 M17 h
  exact T.retI rfl dX7_quietest_20 (by decide) (by decide) h
theorem tl_X7_loudest_L13 {G : sk_G} {M : sk_M} {cells slots : Nat}  {Q : Int32 → Prop}  (hc0 : cells ≤ 0) (hs0 : slots ≤ 0) : ∀ (F : Nat) (s13 : Int32 × Int32 × Int32), lp (w_X7_loudest_L13 M Q) F s13 → TJ G mX7_loudest (sk_R 3 0 0) (sk_K G 0 0 (rI fun r9 M9 => Q r9 ∧ M9 = M) noX) cells slots 13 [some (.ref (G.2.2.1 120)), some (.int s13.1), some (.int s13.2.1), some (.int s13.2.2), none] [] M := by
  refine lp_sound (fun c hc9 s13 h => ?_)
  unfold w_X7_loudest_L13 at h
  refine T.ild_3 (q := 14) dX7_loudest_13 rfl ?_
  refine T.sipush (q := 17) (216) dX7_loudest_14 rfl (by decide) ?_
  refine T.ic_ge (tgt := 47) (q := 20) dX7_loudest_17 (by decide) rfl (fun h17 => ?_) (fun h17 => ?_)
  · replace h := s_f (fun q => q h17) h
    refine T.ild_1 (q := 48) dX7_loudest_47 rfl ?_
    exact T.retI rfl dX7_loudest_48 hc0 hs0 ⟨h, rfl⟩
  · replace h := s_t h17 h
    refine T.ald_0 (q := 21) dX7_loudest_20 rfl ?_
    refine g_X7_19 rfl dX7_loudest_21 (q := 24) rfl ?_
    refine T.ild_3 (q := 25) dX7_loudest_24 rfl ?_
    refine k_X7_283 sk_s0 rfl dX7_loudest_25 (q := 28) rfl (by decide) hc0 hs0 (Nat.le_of_ble_eq_true rfl) (t_X5_rangeOf sk_s0 h) ?_
    rintro r25 _ ⟨h, h9⟩
    obtain rfl := h9.symm
    refine T.ist_4 (q := 30) dX7_loudest_28 rfl (by decide) sk_ok_i ?_
    refine T.ild_4 (q := 32) dX7_loudest_30 rfl ?_
    refine T.ild_2 (q := 33) dX7_loudest_32 rfl ?_
    refine T.ic_le (tgt := 41) (q := 36) dX7_loudest_33 (by decide) rfl (fun h33 => ?_) (fun h33 => ?_)
    · replace h := s_f (fun q => q h33) h
      refine T.inc_3 (q := 44) (1) dX7_loudest_41 rfl (by decide) (by decide) sk_ok_i ?_
      refine T.goto (tgt := 13) dX7_loudest_44 (by decide) ?_
      refine T.drop_4 ?_
      exact hc9 (s13.1, s13.2.1, (s13.2.2 + (1 : Int32))) h
    · replace h := s_t h33 h
      refine T.ild_3 (q := 37) dX7_loudest_36 rfl ?_
      refine T.ist_1 (q := 38) dX7_loudest_37 rfl (by decide) sk_ok_r ?_
      refine T.ild_4 (q := 40) dX7_loudest_38 rfl ?_
      refine T.ist_2 (q := 41) dX7_loudest_40 rfl (by decide) sk_ok_i ?_
      refine T.inc_3 (q := 44) (1) dX7_loudest_41 rfl (by decide) (by decide) sk_ok_i ?_
      refine T.goto (tgt := 13) dX7_loudest_44 (by decide) ?_
      refine T.drop_4 ?_
      exact hc9 (s13.2.2, r25, (s13.2.2 + (1 : Int32))) h
theorem t_X7_loudest {G : sk_G} {M : sk_M}   {Q : Int32 → Prop} (h : w_X7_loudest  M Q) : Ctr G mX7_loudest 3 0 0 [.ref (G.2.2.1 120)] M (rI fun r9 M9 => Q r9 ∧ M9 = M) noX := by
  unfold w_X7_loudest at h
  refine Ctr.of 4 (by decide) (Nat.le_of_ble_eq_true rfl) ?_
  show TJ G mX7_loudest (sk_R 3 0 0) (sk_K G 0 0 (rI fun r9 M9 => Q r9 ∧ M9 = M) noX) 0 0 0 [some (.ref (G.2.2.1 120)), none, none, none, none] [] M
  refine T.iconst (q := 1) (0) dX7_loudest_0 rfl (by decide) ?_
  refine T.ist_1 (q := 2) dX7_loudest_1 rfl (by decide) sk_ok_r ?_
  refine T.ald_0 (q := 3) dX7_loudest_2 rfl ?_
  refine g_X7_19 rfl dX7_loudest_3 (q := 6) rfl ?_
  refine T.iconst (q := 7) (0) dX7_loudest_6 rfl (by decide) ?_
  refine k_X7_283 sk_s0 rfl dX7_loudest_7 (q := 10) rfl (by decide) (by decide) (by decide) (Nat.le_of_ble_eq_true rfl) (t_X5_rangeOf sk_s0 h) ?_
  rintro r7 _ ⟨h, h9⟩
  obtain rfl := h9.symm
  refine T.ist_2 (q := 11) dX7_loudest_10 rfl (by decide) sk_ok_i ?_
  refine T.iconst (q := 12) (1) dX7_loudest_11 rfl (by decide) ?_
  refine T.ist_3 (q := 13) dX7_loudest_12 rfl (by decide) sk_ok_i ?_
  exact tl_X7_loudest_L13  (by decide) (by decide) _ ((0 : Int32), r7, (1 : Int32)) h
theorem tl_X7_deaf_L14 {G : sk_G} {M : sk_M} {cells slots : Nat} {s4 : Int32 × Int32} {Q : Int32 → Prop} {k50 : Int32 → Prop}  (hc0 : cells ≤ 0) (hs0 : slots ≤ 0) (hk50 : ∀ s50 : Int32, k50 s50 → TJ G mX7_deaf (sk_R 2 0 0) (sk_K G 0 0 (rI fun r9 M9 => Q r9 ∧ M9 = M) noX) cells slots 50 [some (.ref (G.2.2.1 120)), some (.int s4.1), some (.int s4.2), some (.int s50), none] [] M) : ∀ (F : Nat) (s14 : Int32 × Int32), lp (w_X7_deaf_L14 s4 M k50) F s14 → TJ G mX7_deaf (sk_R 2 0 0) (sk_K G 0 0 (rI fun r9 M9 => Q r9 ∧ M9 = M) noX) cells slots 14 [some (.ref (G.2.2.1 120)), some (.int s4.1), some (.int s4.2), some (.int s14.1), some (.int s14.2)] [] M := by
  refine lp_sound (fun c hc9 s14 h => ?_)
  unfold w_X7_deaf_L14 at h
  refine T.ild_4 (q := 16) dX7_deaf_14 rfl ?_
  refine T.bipush (q := 18) (6) dX7_deaf_16 rfl (by decide) ?_
  refine T.ic_ge (tgt := 50) (q := 21) dX7_deaf_18 (by decide) rfl (fun h18 => ?_) (fun h18 => ?_)
  · replace h := s_f (fun q => q h18) h
    refine T.drop_4 ?_
    exact hk50 s14.1 h
  · replace h := s_t h18 h
    refine T.ild_3 (q := 22) dX7_deaf_21 rfl ?_
    refine T.if_eq (tgt := 42) (q := 25) dX7_deaf_22 (by decide) rfl (fun h22 => ?_) (fun h22 => ?_)
    · replace h := s_f (fun q => q h22) h
      refine T.iconst (q := 43) (0) dX7_deaf_42 rfl (by decide) ?_
      refine T.ist_3 (q := 44) dX7_deaf_43 rfl (by decide) sk_ok_i ?_
      refine T.inc_4 (q := 47) (1) dX7_deaf_44 rfl (by decide) (by decide) sk_ok_i ?_
      refine T.goto (tgt := 14) dX7_deaf_47 (by decide) ?_
      exact hc9 ((0 : Int32), (s14.2 + (1 : Int32))) h
    · replace h := s_t h22 h
      refine T.ald_0 (q := 26) dX7_deaf_25 rfl ?_
      refine g_X7_19 rfl dX7_deaf_26 (q := 29) rfl ?_
      refine T.ild_2 (q := 30) dX7_deaf_29 rfl ?_
      refine T.ild_4 (q := 32) dX7_deaf_30 rfl ?_
      refine k_X7_286 sk_s0 rfl dX7_deaf_32 (q := 35) rfl (by decide) hc0 hs0 (Nat.le_of_ble_eq_true rfl) (t_X5_wheelRange sk_s0 h) ?_
      rintro r32 _ ⟨h, h9⟩
      obtain rfl := h9.symm
      refine T.if_ne (tgt := 42) (q := 38) dX7_deaf_35 (by decide) rfl (fun h35 => ?_) (fun h35 => ?_)
      · replace h := s_f h35 h
        refine T.iconst (q := 43) (0) dX7_deaf_42 rfl (by decide) ?_
        refine T.ist_3 (q := 44) dX7_deaf_43 rfl (by decide) sk_ok_i ?_
        refine T.inc_4 (q := 47) (1) dX7_deaf_44 rfl (by decide) (by decide) sk_ok_i ?_
        refine T.goto (tgt := 14) dX7_deaf_47 (by decide) ?_
        exact hc9 ((0 : Int32), (s14.2 + (1 : Int32))) h
      · replace h := s_t h35 h
        refine T.iconst (q := 39) (1) dX7_deaf_38 rfl (by decide) ?_
        refine T.goto (tgt := 43) dX7_deaf_39 (by decide) ?_
        refine T.ist_3 (q := 44) dX7_deaf_43 rfl (by decide) sk_ok_i ?_
        refine T.inc_4 (q := 47) (1) dX7_deaf_44 rfl (by decide) (by decide) sk_ok_i ?_
        refine T.goto (tgt := 14) dX7_deaf_47 (by decide) ?_
        exact hc9 ((1 : Int32), (s14.2 + (1 : Int32))) h
theorem tl_X7_deaf_L4 {G : sk_G} {M : sk_M} {cells slots : Nat}  {Q : Int32 → Prop}  (hc0 : cells ≤ 0) (hs0 : slots ≤ 0) : ∀ (F : Nat) (s4 : Int32 × Int32), lp (w_X7_deaf_L4 M Q) F s4 → TJ G mX7_deaf (sk_R 2 0 0) (sk_K G 0 0 (rI fun r9 M9 => Q r9 ∧ M9 = M) noX) cells slots 4 [some (.ref (G.2.2.1 120)), some (.int s4.1), some (.int s4.2), none, none] [] M := by
  refine lp_sound (fun c hc9 s4 h => ?_)
  unfold w_X7_deaf_L4 at h
  refine T.ild_2 (q := 5) dX7_deaf_4 rfl ?_
  refine T.iconst (q := 6) (3) dX7_deaf_5 rfl (by decide) ?_
  refine T.ic_ge (tgt := 66) (q := 9) dX7_deaf_6 (by decide) rfl (fun h6 => ?_) (fun h6 => ?_)
  · replace h := s_f (fun q => q h6) h
    refine T.ild_1 (q := 67) dX7_deaf_66 rfl ?_
    exact T.retI rfl dX7_deaf_67 hc0 hs0 ⟨h, rfl⟩
  · replace h := s_t h6 h
    refine T.iconst (q := 10) (1) dX7_deaf_9 rfl (by decide) ?_
    refine T.ist_3 (q := 11) dX7_deaf_10 rfl (by decide) sk_ok_i ?_
    refine T.iconst (q := 12) (0) dX7_deaf_11 rfl (by decide) ?_
    refine T.ist_4 (q := 14) dX7_deaf_12 rfl (by decide) sk_ok_i ?_
    refine tl_X7_deaf_L14  hc0 hs0 ?_ _ ((1 : Int32), (0 : Int32)) h
    intro s50 h
    refine T.ild_3 (q := 51) dX7_deaf_50 rfl ?_
    refine T.if_eq (tgt := 60) (q := 54) dX7_deaf_51 (by decide) rfl (fun h51 => ?_) (fun h51 => ?_)
    · replace h := s_f (fun q => q h51) h
      refine T.inc_2 (q := 63) (1) dX7_deaf_60 rfl (by decide) (by decide) sk_ok_i ?_
      refine T.goto (tgt := 4) dX7_deaf_63 (by decide) ?_
      refine T.drop_3 ?_
      exact hc9 (s4.1, (s4.2 + (1 : Int32))) h
    · replace h := s_t h51 h
      refine T.ild_1 (q := 55) dX7_deaf_54 rfl ?_
      refine T.iconst (q := 56) (1) dX7_deaf_55 rfl (by decide) ?_
      refine T.ild_2 (q := 57) dX7_deaf_56 rfl ?_
      refine T.ishl (q := 58) dX7_deaf_57 rfl ?_
      refine T.ior (q := 59) dX7_deaf_58 rfl ?_
      refine T.ist_1 (q := 60) dX7_deaf_59 rfl (by decide) sk_ok_r ?_
      refine S.i1 h ?_
      intro y59 h
      refine T.inc_2 (q := 63) (1) dX7_deaf_60 rfl (by decide) (by decide) sk_ok_i ?_
      refine T.goto (tgt := 4) dX7_deaf_63 (by decide) ?_
      refine T.drop_3 ?_
      exact hc9 (y59, (s4.2 + (1 : Int32))) h
theorem t_X7_deaf {G : sk_G} {M : sk_M}   {Q : Int32 → Prop} (h : w_X7_deaf  M Q) : Ctr G mX7_deaf 2 0 0 [.ref (G.2.2.1 120)] M (rI fun r9 M9 => Q r9 ∧ M9 = M) noX := by
  unfold w_X7_deaf at h
  refine Ctr.of 4 (by decide) (Nat.le_of_ble_eq_true rfl) ?_
  show TJ G mX7_deaf (sk_R 2 0 0) (sk_K G 0 0 (rI fun r9 M9 => Q r9 ∧ M9 = M) noX) 0 0 0 [some (.ref (G.2.2.1 120)), none, none, none, none] [] M
  refine T.iconst (q := 1) (0) dX7_deaf_0 rfl (by decide) ?_
  refine T.ist_1 (q := 2) dX7_deaf_1 rfl (by decide) sk_ok_r ?_
  refine T.iconst (q := 3) (0) dX7_deaf_2 rfl (by decide) ?_
  refine T.ist_2 (q := 4) dX7_deaf_3 rfl (by decide) sk_ok_i ?_
  exact tl_X7_deaf_L4  (by decide) (by decide) _ ((0 : Int32), (0 : Int32)) h
theorem tl_X7_alone_L9 {G : sk_G} {M : sk_M} {cells slots : Nat} {a1 : Int32} {Q : Int32 → Prop} {X : String → Prop}  (hc0 : cells ≤ 1) (hs0 : slots ≤ 6) : ∀ (F : Nat) (s9 : Int32 × Int32), lp (w_X7_alone_L9 a1 M Q) F s9 → TJ G mX7_alone (sk_R 7 1 6) (sk_K G 1 6 (rI fun r9 M9 => Q r9 ∧ M9 = M) (fun e9 M9 => X e9 ∧ M9 = M)) cells slots 9 [some (.ref (G.2.2.1 120)), some (.int a1), some (.int s9.1), some (.int s9.2)] [] M := by
  refine lp_sound (fun c hc9 s9 h => ?_)
  unfold w_X7_alone_L9 at h
  refine T.ild_3 (q := 10) dX7_alone_9 rfl ?_
  refine T.ald_0 (q := 11) dX7_alone_10 rfl ?_
  refine g_X7_19 rfl dX7_alone_11 (q := 14) rfl ?_
  refine g_X7_289 sk_s0 rfl dX7_alone_14 (q := 17) rfl ?_
  refine T.ic_ge (tgt := 45) (q := 20) dX7_alone_17 (by decide) rfl (fun h17 => ?_) (fun h17 => ?_)
  · replace h := s_f (fun q => q h17) h
    refine T.ild_2 (q := 46) dX7_alone_45 rfl ?_
    exact T.retI rfl dX7_alone_46 hc0 hs0 ⟨h, rfl⟩
  · replace h := s_t h17 h
    refine T.ald_0 (q := 21) dX7_alone_20 rfl ?_
    refine g_X7_19 rfl dX7_alone_21 (q := 24) rfl ?_
    refine T.ild_3 (q := 25) dX7_alone_24 rfl ?_
    refine T.ild_1 (q := 26) dX7_alone_25 rfl ?_
    refine k_X7_163 sk_s0 rfl dX7_alone_26 (q := 29) rfl (by decide) hc0 hs0 (Nat.le_of_ble_eq_true rfl) (t_X5_leftOf sk_s0 h) ?_
    rintro r26 _ ⟨h, h9⟩
    obtain rfl := h9.symm
    refine T.iconst (q := 30) (1) dX7_alone_29 rfl (by decide) ?_
    refine T.ic_ne (tgt := 39) (q := 33) dX7_alone_30 (by decide) rfl (fun h30 => ?_) (fun h30 => ?_)
    · replace h := s_f h30 h
      refine T.inc_3 (q := 42) (1) dX7_alone_39 rfl (by decide) (by decide) sk_ok_i ?_
      refine T.goto (tgt := 9) dX7_alone_42 (by decide) ?_
      exact hc9 (s9.1, (s9.2 + (1 : Int32))) h
    · replace h := s_t h30 h
      refine T.ild_2 (q := 34) dX7_alone_33 rfl ?_
      refine T.iconst (q := 35) (1) dX7_alone_34 rfl (by decide) ?_
      refine T.ild_3 (q := 36) dX7_alone_35 rfl ?_
      refine T.ishl (q := 37) dX7_alone_36 rfl ?_
      refine T.ior (q := 38) dX7_alone_37 rfl ?_
      refine T.ist_2 (q := 39) dX7_alone_38 rfl (by decide) sk_ok_i ?_
      refine S.i2 h ?_
      intro y38 h
      refine T.inc_3 (q := 42) (1) dX7_alone_39 rfl (by decide) (by decide) sk_ok_i ?_
      refine T.goto (tgt := 9) dX7_alone_42 (by decide) ?_
      exact hc9 (y38, (s9.2 + (1 : Int32))) h
theorem t_X7_alone {G : sk_G} {M : sk_M} {a1 : Int32}  {Q : Int32 → Prop} {X : String → Prop} (h : w_X7_alone a1 M Q X) : Ctr G mX7_alone 7 1 6 [.ref (G.2.2.1 120), .int a1] M (rI fun r9 M9 => Q r9 ∧ M9 = M) (fun e9 M9 => X e9 ∧ M9 = M) := by
  unfold w_X7_alone at h
  refine Ctr.of 2 (by decide) (Nat.le_of_ble_eq_true rfl) ?_
  show TJ G mX7_alone (sk_R 7 1 6) (sk_K G 1 6 (rI fun r9 M9 => Q r9 ∧ M9 = M) (fun e9 M9 => X e9 ∧ M9 = M)) 0 0 0 [some (.ref (G.2.2.1 120)), some (.int a1), none, none] [] M
  refine T.ald_0 (q := 1) dX7_alone_0 rfl ?_
  refine T.ild_1 (q := 2) dX7_alone_1 rfl ?_
  refine kx_X7_126 rfl dX7_alone_2 (q := 5) rfl (by decide) (by decide) (by decide) (Nat.le_of_ble_eq_true rfl) rfl (by decide) (by decide) (t_X7_needVault  h) (fun _ _ h9 => h9) ?_
  rintro _ ⟨h, h9⟩
  obtain rfl := h9.symm
  refine T.iconst (q := 6) (0) dX7_alone_5 rfl (by decide) ?_
  refine T.ist_2 (q := 7) dX7_alone_6 rfl (by decide) sk_ok_i ?_
  refine T.iconst (q := 8) (0) dX7_alone_7 rfl (by decide) ?_
  refine T.ist_3 (q := 9) dX7_alone_8 rfl (by decide) sk_ok_i ?_
  exact tl_X7_alone_L9  (by decide) (by decide) _ ((0 : Int32), (0 : Int32)) h
theorem t_X7_together {G : sk_G} {M : sk_M} {a1 : Int32} {a2 : Int32}  {Q : Int32 → Prop} {X : String → Prop} (h : w_X7_together a1 a2 M Q X) : Ctr G mX7_together 7 1 6 [.ref (G.2.2.1 120), .int a1, .int a2] M (rI fun r9 M9 => Q r9 ∧ M9 = M) (fun e9 M9 => X e9 ∧ M9 = M) := by
  unfold w_X7_together at h
  refine Ctr.of 0 (by decide) (Nat.le_of_ble_eq_true rfl) ?_
  show TJ G mX7_together (sk_R 7 1 6) (sk_K G 1 6 (rI fun r9 M9 => Q r9 ∧ M9 = M) (fun e9 M9 => X e9 ∧ M9 = M)) 0 0 0 [some (.ref (G.2.2.1 120)), some (.int a1), some (.int a2)] [] M
  refine T.ald_0 (q := 1) dX7_together_0 rfl ?_
  refine T.ild_2 (q := 2) dX7_together_1 rfl ?_
  refine kx_X7_126 rfl dX7_together_2 (q := 5) rfl (by decide) (by decide) (by decide) (Nat.le_of_ble_eq_true rfl) rfl (by decide) (by decide) (t_X7_needVault  h) (fun _ _ h9 => h9) ?_
  rintro _ ⟨h, h9⟩
  obtain rfl := h9.symm
  refine T.ald_0 (q := 6) dX7_together_5 rfl ?_
  refine g_X7_19 rfl dX7_together_6 (q := 9) rfl ?_
  refine T.ild_1 (q := 10) dX7_together_9 rfl ?_
  refine T.ild_2 (q := 11) dX7_together_10 rfl ?_
  refine k_X7_292 sk_s0 rfl dX7_together_11 (q := 14) rfl (by decide) (by decide) (by decide) (Nat.le_of_ble_eq_true rfl) (t_X5_leftOfAll sk_s0 h) ?_
  rintro r11 _ ⟨h, h9⟩
  obtain rfl := h9.symm
  refine T.iconst (q := 15) (1) dX7_together_14 rfl (by decide) ?_
  refine T.ic_ne (tgt := 22) (q := 18) dX7_together_15 (by decide) rfl (fun h15 => ?_) (fun h15 => ?_)
  · replace h := s_f h15 h
    refine T.iconst (q := 23) (0) dX7_together_22 rfl (by decide) ?_
    exact T.retZ rfl dX7_together_23 (by decide) (by decide) rfl ⟨h, rfl⟩
  · replace h := s_t h15 h
    refine T.iconst (q := 19) (1) dX7_together_18 rfl (by decide) ?_
    refine T.goto (tgt := 23) dX7_together_19 (by decide) ?_
    exact T.retZ rfl dX7_together_23 (by decide) (by decide) rfl ⟨h, rfl⟩
theorem tl_X7_fewest_L27 {G : sk_G} {M : sk_M} {cells slots : Nat} {a1 : Int32} {a2 : Int32} {y16 : Int32} {Q : Int32 → Prop} {X : String → Prop}  (hc0 : cells ≤ 1) (hs0 : slots ≤ 6) : ∀ (F : Nat) (s27 : Int32 × Int32 × Int32), lp (w_X7_fewest_L27 a1 a2 y16 M Q) F s27 → TJ G mX7_fewest (sk_R 7 1 6) (sk_K G 1 6 (rI fun r9 M9 => Q r9 ∧ M9 = M) (fun e9 M9 => X e9 ∧ M9 = M)) cells slots 27 [some (.ref (G.2.2.1 120)), some (.int a1), some (.int a2), some (.int y16), some (.int s27.1), some (.int s27.2.1), some (.int s27.2.2), none] [] M := by
  refine lp_sound (fun c hc9 s27 h => ?_)
  unfold w_X7_fewest_L27 at h
  refine T.ild_6 (q := 29) dX7_fewest_27 rfl ?_
  refine T.ild_3 (q := 30) dX7_fewest_29 rfl ?_
  refine T.ic_gt (tgt := 100) (q := 33) dX7_fewest_30 (by decide) rfl (fun h30 => ?_) (fun h30 => ?_)
  · replace h := s_f (fun q => q h30) h
    refine T.ild_4 (q := 102) dX7_fewest_100 rfl ?_
    exact T.retI rfl dX7_fewest_102 hc0 hs0 ⟨h, rfl⟩
  · replace h := s_t h30 h
    refine T.ild_2 (q := 34) dX7_fewest_33 rfl ?_
    refine s_dia (fun s48_34 : Int32 => TJ G mX7_fewest (sk_R 7 1 6) (sk_K G 1 6 (rI fun r9 M9 => Q r9 ∧ M9 = M) (fun e9 M9 => X e9 ∧ M9 = M)) cells slots 48 [some (.ref (G.2.2.1 120)), some (.int a1), some (.int a2), some (.int y16), some (.int s27.1), some (.int s27.2.1), some (.int s27.2.2), none] [.int s48_34] M) h (fun s48_34 h => ?_) (fun k9 hJ9 h => ?_)
    · refine T.ist_7 (q := 50) dX7_fewest_48 rfl (by decide) sk_ok_i ?_
      refine T.ild_6 (q := 52) dX7_fewest_50 rfl ?_
      refine k_X7_182 rfl dX7_fewest_52 (q := 55) rfl (by decide) hc0 hs0 (Nat.le_of_ble_eq_true rfl) (t_bc32 (P := fun r9 => r9 = (bc32 s27.2.2)) rfl) ?_
      rintro _ _ ⟨rfl, h9⟩
      obtain rfl := h9.symm
      refine T.ild_5 (q := 57) dX7_fewest_55 rfl ?_
      refine T.ic_ge (tgt := 94) (q := 60) dX7_fewest_57 (by decide) rfl (fun h57 => ?_) (fun h57 => ?_)
      · replace h := s_f (fun q => q h57) h
        refine T.inc_6 (q := 97) (1) dX7_fewest_94 rfl (by decide) (by decide) sk_ok_i ?_
        refine T.goto (tgt := 27) dX7_fewest_97 (by decide) ?_
        refine T.drop_7 ?_
        exact hc9 (s27.1, s27.2.1, (s27.2.2 + (1 : Int32))) h
      · replace h := s_t h57 h
        refine T.ald_0 (q := 61) dX7_fewest_60 rfl ?_
        refine g_X7_19 rfl dX7_fewest_61 (q := 64) rfl ?_
        refine T.ild_7 (q := 66) dX7_fewest_64 rfl ?_
        refine T.ild_1 (q := 67) dX7_fewest_66 rfl ?_
        refine k_X7_292 sk_s0 rfl dX7_fewest_67 (q := 70) rfl (by decide) hc0 hs0 (Nat.le_of_ble_eq_true rfl) (t_X5_leftOfAll sk_s0 h) ?_
        rintro r67 _ ⟨h, h9⟩
        obtain rfl := h9.symm
        refine T.iconst (q := 71) (1) dX7_fewest_70 rfl (by decide) ?_
        refine s_dia (fun s79_71 : Int32 => TJ G mX7_fewest (sk_R 7 1 6) (sk_K G 1 6 (rI fun r9 M9 => Q r9 ∧ M9 = M) (fun e9 M9 => X e9 ∧ M9 = M)) cells slots 79 [some (.ref (G.2.2.1 120)), some (.int a1), some (.int a2), some (.int y16), some (.int s27.1), some (.int s27.2.1), some (.int s27.2.2), some (.int s48_34)] [.int s79_71] M) h (fun s79_71 h => ?_) (fun k9 hJ9 h => ?_)
        · refine T.ild_2 (q := 80) dX7_fewest_79 rfl ?_
          refine T.ic_eq (tgt := 94) (q := 83) dX7_fewest_80 (by decide) rfl (fun h80 => ?_) (fun h80 => ?_)
          · replace h := s_f (fun q => q h80) h
            refine T.inc_6 (q := 97) (1) dX7_fewest_94 rfl (by decide) (by decide) sk_ok_i ?_
            refine T.goto (tgt := 27) dX7_fewest_97 (by decide) ?_
            refine T.drop_7 ?_
            exact hc9 (s27.1, s27.2.1, (s27.2.2 + (1 : Int32))) h
          · replace h := s_t h80 h
            refine T.ild_6 (q := 85) dX7_fewest_83 rfl ?_
            refine T.ist_4 (q := 87) dX7_fewest_85 rfl (by decide) sk_ok_i ?_
            refine T.ild_6 (q := 89) dX7_fewest_87 rfl ?_
            refine k_X7_182 rfl dX7_fewest_89 (q := 92) rfl (by decide) hc0 hs0 (Nat.le_of_ble_eq_true rfl) (t_bc32 (P := fun r9 => r9 = (bc32 s27.2.2)) rfl) ?_
            rintro _ _ ⟨rfl, h9⟩
            obtain rfl := h9.symm
            refine T.ist_5 (q := 94) dX7_fewest_92 rfl (by decide) sk_ok_i ?_
            refine S.i5 h ?_
            intro y92 h
            refine T.inc_6 (q := 97) (1) dX7_fewest_94 rfl (by decide) (by decide) sk_ok_i ?_
            refine T.goto (tgt := 27) dX7_fewest_97 (by decide) ?_
            refine T.drop_7 ?_
            exact hc9 (s27.2.2, y92, (s27.2.2 + (1 : Int32))) h
        · refine T.ic_ne (tgt := 78) (q := 74) dX7_fewest_71 (by decide) rfl (fun h71 => ?_) (fun h71 => ?_)
          · replace h := s_fk h71 h
            refine T.iconst (q := 79) (0) dX7_fewest_78 rfl (by decide) ?_
            exact hJ9 _ h
          · replace h := s_tk h71 h
            refine T.iconst (q := 75) (1) dX7_fewest_74 rfl (by decide) ?_
            refine T.goto (tgt := 79) dX7_fewest_75 (by decide) ?_
            exact hJ9 _ h
    · refine T.if_eq (tgt := 46) (q := 37) dX7_fewest_34 (by decide) rfl (fun h34 => ?_) (fun h34 => ?_)
      · replace h := s_fk (fun q => q h34) h
        refine T.ild_6 (q := 48) dX7_fewest_46 rfl ?_
        exact hJ9 _ h
      · replace h := s_tk h34 h
        refine T.ild_3 (q := 38) dX7_fewest_37 rfl ?_
        refine T.ild_6 (q := 40) dX7_fewest_38 rfl ?_
        refine T.iconst (q := 41) (-1) dX7_fewest_40 rfl (by decide) ?_
        refine T.ixor (q := 42) dX7_fewest_41 rfl ?_
        refine T.iand (q := 43) dX7_fewest_42 rfl ?_
        refine T.goto (tgt := 48) dX7_fewest_43 (by decide) ?_
        exact hJ9 _ h
theorem t_X7_fewest {G : sk_G} {M : sk_M} {a1 : Int32} {a2 : Int32}  {Q : Int32 → Prop} {X : String → Prop} (h : w_X7_fewest a1 a2 M Q X) : Ctr G mX7_fewest 7 1 6 [.ref (G.2.2.1 120), .int a1, .int a2] M (rI fun r9 M9 => Q r9 ∧ M9 = M) (fun e9 M9 => X e9 ∧ M9 = M) := by
  unfold w_X7_fewest at h
  refine Ctr.of 5 (by decide) (Nat.le_of_ble_eq_true rfl) ?_
  show TJ G mX7_fewest (sk_R 7 1 6) (sk_K G 1 6 (rI fun r9 M9 => Q r9 ∧ M9 = M) (fun e9 M9 => X e9 ∧ M9 = M)) 0 0 0 [some (.ref (G.2.2.1 120)), some (.int a1), some (.int a2), none, none, none, none, none] [] M
  refine T.ald_0 (q := 1) dX7_fewest_0 rfl ?_
  refine T.ild_1 (q := 2) dX7_fewest_1 rfl ?_
  refine kx_X7_126 rfl dX7_fewest_2 (q := 5) rfl (by decide) (by decide) (by decide) (Nat.le_of_ble_eq_true rfl) rfl (by decide) (by decide) (t_X7_needVault  h) (fun _ _ h9 => h9) ?_
  rintro _ ⟨h, h9⟩
  obtain rfl := h9.symm
  refine T.iconst (q := 6) (1) dX7_fewest_5 rfl (by decide) ?_
  refine T.ald_0 (q := 7) dX7_fewest_6 rfl ?_
  refine g_X7_19 rfl dX7_fewest_7 (q := 10) rfl ?_
  refine g_X7_289 sk_s0 rfl dX7_fewest_10 (q := 13) rfl ?_
  refine T.ishl (q := 14) dX7_fewest_13 rfl ?_
  refine T.iconst (q := 15) (1) dX7_fewest_14 rfl (by decide) ?_
  refine T.isub (q := 16) dX7_fewest_15 rfl ?_
  refine T.ist_3 (q := 17) dX7_fewest_16 rfl (by decide) sk_ok_i ?_
  refine S.i3 h ?_
  intro y16 h
  refine T.iconst (q := 18) (-1) dX7_fewest_17 rfl (by decide) ?_
  refine T.ist_4 (q := 20) dX7_fewest_18 rfl (by decide) sk_ok_i ?_
  refine T.bipush (q := 22) (7) dX7_fewest_20 rfl (by decide) ?_
  refine T.ist_5 (q := 24) dX7_fewest_22 rfl (by decide) sk_ok_i ?_
  refine T.iconst (q := 25) (0) dX7_fewest_24 rfl (by decide) ?_
  refine T.ist_6 (q := 27) dX7_fewest_25 rfl (by decide) sk_ok_i ?_
  exact tl_X7_fewest_L27  (by decide) (by decide) _ ((-1 : Int32), (7 : Int32), (0 : Int32)) h
theorem tl_X7_pair_L32 {G : sk_G} {M : sk_M} {cells slots : Nat} {a1 : Int32} {s14 : Int32 × Int32 × Int32} {Q : Int32 → Prop} {X : String → Prop} {k87 : (Int32 × Int32) → Prop}  (hc0 : cells ≤ 1) (hs0 : slots ≤ 6) (hk87 : ∀ s87 : Int32 × Int32, k87 s87 → TJ G mX7_pair (sk_R 7 1 6) (sk_K G 1 6 (rI fun r9 M9 => Q r9 ∧ M9 = M) (fun e9 M9 => X e9 ∧ M9 = M)) cells slots 87 [some (.ref (G.2.2.1 120)), some (.int a1), some (.int s87.1), some (.int s87.2), some (.int s14.2.2), none, none] [] M) : ∀ (F : Nat) (s32 : Int32 × Int32 × Int32), lp (w_X7_pair_L32 a1 s14 M k87) F s32 → TJ G mX7_pair (sk_R 7 1 6) (sk_K G 1 6 (rI fun r9 M9 => Q r9 ∧ M9 = M) (fun e9 M9 => X e9 ∧ M9 = M)) cells slots 32 [some (.ref (G.2.2.1 120)), some (.int a1), some (.int s32.1), some (.int s32.2.1), some (.int s14.2.2), some (.int s32.2.2), none] [] M := by
  refine lp_sound (fun c hc9 s32 h => ?_)
  unfold w_X7_pair_L32 at h
  refine T.ild_5 (q := 34) dX7_pair_32 rfl ?_
  refine T.ald_0 (q := 35) dX7_pair_34 rfl ?_
  refine g_X7_19 rfl dX7_pair_35 (q := 38) rfl ?_
  refine g_X7_289 sk_s0 rfl dX7_pair_38 (q := 41) rfl ?_
  refine T.ic_ge (tgt := 87) (q := 44) dX7_pair_41 (by decide) rfl (fun h41 => ?_) (fun h41 => ?_)
  · replace h := s_f (fun q => q h41) h
    refine T.drop_5 ?_
    exact hk87 (s32.1, s32.2.1) h
  · replace h := s_t h41 h
    refine T.ald_0 (q := 45) dX7_pair_44 rfl ?_
    refine g_X7_19 rfl dX7_pair_45 (q := 48) rfl ?_
    refine T.iconst (q := 49) (1) dX7_pair_48 rfl (by decide) ?_
    refine T.ild_4 (q := 51) dX7_pair_49 rfl ?_
    refine T.ishl (q := 52) dX7_pair_51 rfl ?_
    refine T.iconst (q := 53) (1) dX7_pair_52 rfl (by decide) ?_
    refine T.ild_5 (q := 55) dX7_pair_53 rfl ?_
    refine T.ishl (q := 56) dX7_pair_55 rfl ?_
    refine T.ior (q := 57) dX7_pair_56 rfl ?_
    refine T.ild_1 (q := 58) dX7_pair_57 rfl ?_
    refine k_X7_292 sk_s0 rfl dX7_pair_58 (q := 61) rfl (by decide) hc0 hs0 (Nat.le_of_ble_eq_true rfl) (t_X5_leftOfAll sk_s0 h) ?_
    rintro r58 _ ⟨h, h9⟩
    obtain rfl := h9.symm
    refine T.ist_6 (q := 63) dX7_pair_61 rfl (by decide) sk_ok_i ?_
    refine T.ild_6 (q := 65) dX7_pair_63 rfl ?_
    refine T.ild_3 (q := 66) dX7_pair_65 rfl ?_
    refine T.ic_ge (tgt := 81) (q := 69) dX7_pair_66 (by decide) rfl (fun h66 => ?_) (fun h66 => ?_)
    · replace h := s_f (fun q => q h66) h
      refine T.inc_5 (q := 84) (1) dX7_pair_81 rfl (by decide) (by decide) sk_ok_i ?_
      refine T.goto (tgt := 32) dX7_pair_84 (by decide) ?_
      refine T.drop_6 ?_
      exact hc9 (s32.1, s32.2.1, (s32.2.2 + (1 : Int32))) h
    · replace h := s_t h66 h
      refine T.bipush (q := 71) (10) dX7_pair_69 rfl (by decide) ?_
      refine T.ild_4 (q := 73) dX7_pair_71 rfl ?_
      refine T.imul (q := 74) dX7_pair_73 rfl ?_
      refine T.ild_5 (q := 76) dX7_pair_74 rfl ?_
      refine T.iadd (q := 77) dX7_pair_76 rfl ?_
      refine T.ist_2 (q := 78) dX7_pair_77 rfl (by decide) sk_ok_i ?_
      refine S.i2 h ?_
      intro y77 h
      refine T.ild_6 (q := 80) dX7_pair_78 rfl ?_
      refine T.ist_3 (q := 81) dX7_pair_80 rfl (by decide) sk_ok_i ?_
      refine T.inc_5 (q := 84) (1) dX7_pair_81 rfl (by decide) (by decide) sk_ok_i ?_
      refine T.goto (tgt := 32) dX7_pair_84 (by decide) ?_
      refine T.drop_6 ?_
      exact hc9 (y77, r58, (s32.2.2 + (1 : Int32))) h
theorem tl_X7_pair_L14 {G : sk_G} {M : sk_M} {cells slots : Nat} {a1 : Int32} {Q : Int32 → Prop} {X : String → Prop}  (hc0 : cells ≤ 1) (hs0 : slots ≤ 6) : ∀ (F : Nat) (s14 : Int32 × Int32 × Int32), lp (w_X7_pair_L14 a1 M Q) F s14 → TJ G mX7_pair (sk_R 7 1 6) (sk_K G 1 6 (rI fun r9 M9 => Q r9 ∧ M9 = M) (fun e9 M9 => X e9 ∧ M9 = M)) cells slots 14 [some (.ref (G.2.2.1 120)), some (.int a1), some (.int s14.1), some (.int s14.2.1), some (.int s14.2.2), none, none] [] M := by
  refine lp_sound (fun c hc9 s14 h => ?_)
  unfold w_X7_pair_L14 at h
  refine T.ild_4 (q := 16) dX7_pair_14 rfl ?_
  refine T.ald_0 (q := 17) dX7_pair_16 rfl ?_
  refine g_X7_19 rfl dX7_pair_17 (q := 20) rfl ?_
  refine g_X7_289 sk_s0 rfl dX7_pair_20 (q := 23) rfl ?_
  refine T.ic_ge (tgt := 93) (q := 26) dX7_pair_23 (by decide) rfl (fun h23 => ?_) (fun h23 => ?_)
  · replace h := s_f (fun q => q h23) h
    refine T.ild_2 (q := 94) dX7_pair_93 rfl ?_
    exact T.retI rfl dX7_pair_94 hc0 hs0 ⟨h, rfl⟩
  · replace h := s_t h23 h
    refine T.ild_4 (q := 28) dX7_pair_26 rfl ?_
    refine T.iconst (q := 29) (1) dX7_pair_28 rfl (by decide) ?_
    refine T.iadd (q := 30) dX7_pair_29 rfl ?_
    refine T.ist_5 (q := 32) dX7_pair_30 rfl (by decide) sk_ok_i ?_
    refine S.i5 h ?_
    intro y30 h
    refine tl_X7_pair_L32  hc0 hs0 ?_ _ (s14.1, s14.2.1, y30) h
    intro s87 h
    refine T.inc_4 (q := 90) (1) dX7_pair_87 rfl (by decide) (by decide) sk_ok_i ?_
    refine T.goto (tgt := 14) dX7_pair_90 (by decide) ?_
    exact hc9 (s87.1, s87.2, (s14.2.2 + (1 : Int32))) h
theorem t_X7_pair {G : sk_G} {M : sk_M} {a1 : Int32}  {Q : Int32 → Prop} {X : String → Prop} (h : w_X7_pair a1 M Q X) : Ctr G mX7_pair 7 1 6 [.ref (G.2.2.1 120), .int a1] M (rI fun r9 M9 => Q r9 ∧ M9 = M) (fun e9 M9 => X e9 ∧ M9 = M) := by
  unfold w_X7_pair at h
  refine Ctr.of 5 (by decide) (Nat.le_of_ble_eq_true rfl) ?_
  show TJ G mX7_pair (sk_R 7 1 6) (sk_K G 1 6 (rI fun r9 M9 => Q r9 ∧ M9 = M) (fun e9 M9 => X e9 ∧ M9 = M)) 0 0 0 [some (.ref (G.2.2.1 120)), some (.int a1), none, none, none, none, none] [] M
  refine T.ald_0 (q := 1) dX7_pair_0 rfl ?_
  refine T.ild_1 (q := 2) dX7_pair_1 rfl ?_
  refine kx_X7_126 rfl dX7_pair_2 (q := 5) rfl (by decide) (by decide) (by decide) (Nat.le_of_ble_eq_true rfl) rfl (by decide) (by decide) (t_X7_needVault  h) (fun _ _ h9 => h9) ?_
  rintro _ ⟨h, h9⟩
  obtain rfl := h9.symm
  refine T.iconst (q := 6) (-1) dX7_pair_5 rfl (by decide) ?_
  refine T.ist_2 (q := 7) dX7_pair_6 rfl (by decide) sk_ok_i ?_
  refine T.sipush (q := 10) (217) dX7_pair_7 rfl (by decide) ?_
  refine T.ist_3 (q := 11) dX7_pair_10 rfl (by decide) sk_ok_i ?_
  refine T.iconst (q := 12) (0) dX7_pair_11 rfl (by decide) ?_
  refine T.ist_4 (q := 14) dX7_pair_12 rfl (by decide) sk_ok_i ?_
  exact tl_X7_pair_L14  (by decide) (by decide) _ ((-1 : Int32), (217 : Int32), (0 : Int32)) h
theorem t_X7_gains {G : sk_G} {M : sk_M} {a1 : Int32} {a2 : Int32} {a3 : Int32}  {Q : Int32 → Prop} {X : String → Prop} (h : w_X7_gains a1 a2 a3 M Q X) : Ctr G mX7_gains 8 4 24 [.ref (G.2.2.1 120), .int a1, .int a2, .int a3] M (rI fun r9 M9 => Q r9 ∧ M9 = M) (fun e9 M9 => X e9 ∧ M9 = M) := by
  unfold w_X7_gains at h
  refine Ctr.of 0 (by decide) (Nat.le_of_ble_eq_true rfl) ?_
  show TJ G mX7_gains (sk_R 8 4 24) (sk_K G 4 24 (rI fun r9 M9 => Q r9 ∧ M9 = M) (fun e9 M9 => X e9 ∧ M9 = M)) 0 0 0 [some (.ref (G.2.2.1 120)), some (.int a1), some (.int a2), some (.int a3)] [] M
  refine T.ald_0 (q := 1) dX7_gains_0 rfl ?_
  refine T.ild_1 (q := 2) dX7_gains_1 rfl ?_
  refine T.ild_2 (q := 3) dX7_gains_2 rfl ?_
  refine T.ild_3 (q := 4) dX7_gains_3 rfl ?_
  refine kx_X7_221 rfl dX7_gains_4 (q := 7) rfl (by decide) (by decide) (by decide) (Nat.le_of_ble_eq_true rfl) rfl (by decide) (by decide) (t_X7_needTwo  h) (fun _ _ h9 => h9) ?_
  rintro _ ⟨h, h9⟩
  obtain rfl := h9.symm
  refine T.ald_0 (q := 8) dX7_gains_7 rfl ?_
  refine g_X7_19 rfl dX7_gains_8 (q := 11) rfl ?_
  refine T.ild_1 (q := 12) dX7_gains_11 rfl ?_
  refine T.ild_3 (q := 13) dX7_gains_12 rfl ?_
  refine k_X7_163 sk_s0 rfl dX7_gains_13 (q := 16) rfl (by decide) (by decide) (by decide) (Nat.le_of_ble_eq_true rfl) (t_X5_leftOf sk_s0 h) ?_
  rintro r13 _ ⟨h, h9⟩
  obtain rfl := h9.symm
  refine T.ald_0 (q := 17) dX7_gains_16 rfl ?_
  refine g_X7_19 rfl dX7_gains_17 (q := 20) rfl ?_
  refine T.iconst (q := 21) (1) dX7_gains_20 rfl (by decide) ?_
  refine T.ild_1 (q := 22) dX7_gains_21 rfl ?_
  refine T.ishl (q := 23) dX7_gains_22 rfl ?_
  refine T.iconst (q := 24) (1) dX7_gains_23 rfl (by decide) ?_
  refine T.ild_2 (q := 25) dX7_gains_24 rfl ?_
  refine T.ishl (q := 26) dX7_gains_25 rfl ?_
  refine T.ior (q := 27) dX7_gains_26 rfl ?_
  refine T.ild_3 (q := 28) dX7_gains_27 rfl ?_
  refine k_X7_292 sk_s0 rfl dX7_gains_28 (q := 31) rfl (by decide) (by decide) (by decide) (Nat.le_of_ble_eq_true rfl) (t_X5_leftOfAll sk_s0 h) ?_
  rintro r28 _ ⟨h, h9⟩
  obtain rfl := h9.symm
  refine T.isub (q := 32) dX7_gains_31 rfl ?_
  exact T.retI rfl dX7_gains_32 (by decide) (by decide) ⟨h, rfl⟩
theorem tl_X7_broken_L4 {G : sk_G} {M : sk_M} {cells slots : Nat}  {Q : Int32 → Prop}  (hc0 : cells ≤ 0) (hs0 : slots ≤ 0) : ∀ (F : Nat) (s4 : Int32 × Int32), lp (w_X7_broken_L4 M Q) F s4 → TJ G mX7_broken (sk_R 2 0 0) (sk_K G 0 0 (rI fun r9 M9 => Q r9 ∧ M9 = M) noX) cells slots 4 [some (.ref (G.2.2.1 120)), some (.int s4.1), some (.int s4.2)] [] M := by
  refine lp_sound (fun c hc9 s4 h => ?_)
  unfold w_X7_broken_L4 at h
  refine T.ild_2 (q := 5) dX7_broken_4 rfl ?_
  refine T.ald_0 (q := 6) dX7_broken_5 rfl ?_
  refine g_X7_19 rfl dX7_broken_6 (q := 9) rfl ?_
  refine g_X7_295 sk_s0 rfl dX7_broken_9 (q := 12) rfl ?_
  refine T.ic_ge (tgt := 38) (q := 15) dX7_broken_12 (by decide) rfl (fun h12 => ?_) (fun h12 => ?_)
  · replace h := s_f (fun q => q h12) h
    refine T.ild_1 (q := 39) dX7_broken_38 rfl ?_
    exact T.retI rfl dX7_broken_39 hc0 hs0 ⟨h, rfl⟩
  · replace h := s_t h12 h
    refine T.ald_0 (q := 16) dX7_broken_15 rfl ?_
    refine g_X7_19 rfl dX7_broken_16 (q := 19) rfl ?_
    refine T.ild_2 (q := 20) dX7_broken_19 rfl ?_
    refine k_X7_320 sk_s0 rfl dX7_broken_20 (q := 23) rfl (by decide) hc0 hs0 (Nat.le_of_ble_eq_true rfl) (t_X5_isBroken sk_s0 h) ?_
    rintro r20 _ ⟨h, h9⟩
    obtain rfl := h9.symm
    refine T.if_eq (tgt := 32) (q := 26) dX7_broken_23 (by decide) rfl (fun h23 => ?_) (fun h23 => ?_)
    · replace h := s_f (fun q => q h23) h
      refine T.inc_2 (q := 35) (1) dX7_broken_32 rfl (by decide) (by decide) sk_ok_i ?_
      refine T.goto (tgt := 4) dX7_broken_35 (by decide) ?_
      exact hc9 (s4.1, (s4.2 + (1 : Int32))) h
    · replace h := s_t h23 h
      refine T.ild_1 (q := 27) dX7_broken_26 rfl ?_
      refine T.iconst (q := 28) (1) dX7_broken_27 rfl (by decide) ?_
      refine T.ild_2 (q := 29) dX7_broken_28 rfl ?_
      refine T.ishl (q := 30) dX7_broken_29 rfl ?_
      refine T.ior (q := 31) dX7_broken_30 rfl ?_
      refine T.ist_1 (q := 32) dX7_broken_31 rfl (by decide) sk_ok_r ?_
      refine S.i1 h ?_
      intro y31 h
      refine T.inc_2 (q := 35) (1) dX7_broken_32 rfl (by decide) (by decide) sk_ok_i ?_
      refine T.goto (tgt := 4) dX7_broken_35 (by decide) ?_
      exact hc9 (y31, (s4.2 + (1 : Int32))) h
theorem t_X7_broken {G : sk_G} {M : sk_M}   {Q : Int32 → Prop} (h : w_X7_broken  M Q) : Ctr G mX7_broken 2 0 0 [.ref (G.2.2.1 120)] M (rI fun r9 M9 => Q r9 ∧ M9 = M) noX := by
  unfold w_X7_broken at h
  refine Ctr.of 2 (by decide) (Nat.le_of_ble_eq_true rfl) ?_
  show TJ G mX7_broken (sk_R 2 0 0) (sk_K G 0 0 (rI fun r9 M9 => Q r9 ∧ M9 = M) noX) 0 0 0 [some (.ref (G.2.2.1 120)), none, none] [] M
  refine T.iconst (q := 1) (0) dX7_broken_0 rfl (by decide) ?_
  refine T.ist_1 (q := 2) dX7_broken_1 rfl (by decide) sk_ok_r ?_
  refine T.iconst (q := 3) (0) dX7_broken_2 rfl (by decide) ?_
  refine T.ist_2 (q := 4) dX7_broken_3 rfl (by decide) sk_ok_i ?_
  exact tl_X7_broken_L4  (by decide) (by decide) _ ((0 : Int32), (0 : Int32)) h
theorem t_X7_fewerOf {G : sk_G} {M : sk_M} {a0 : Int32} {a1 : Int32}  {P : Int32 → Prop} (h : P (f_X7_fewerOf a0 a1)) : Ctr G mX7_fewerOf 1 0 0 [.int a0, .int a1] M (rI fun r9 M9 => P r9 ∧ M9 = M) noX := by
  unfold f_X7_fewerOf at h
  refine Ctr.of 1 (by decide) (Nat.le_of_ble_eq_true rfl) ?_
  show TJ G mX7_fewerOf (sk_R 1 0 0) (sk_K G 0 0 (rI fun r9 M9 => P r9 ∧ M9 = M) noX) 0 0 0 [some (.int a0), some (.int a1), none] [] M
  refine T.ild_0 (q := 1) dX7_fewerOf_0 rfl ?_
  refine k_X7_182 rfl dX7_fewerOf_1 (q := 4) rfl (by decide) (by decide) (by decide) (Nat.le_of_ble_eq_true rfl) (t_bc32 (P := fun r9 => r9 = (bc32 a0)) rfl) ?_
  rintro _ _ ⟨rfl, h9⟩
  obtain rfl := h9.symm
  refine T.ild_1 (q := 5) dX7_fewerOf_4 rfl ?_
  refine k_X7_182 rfl dX7_fewerOf_5 (q := 8) rfl (by decide) (by decide) (by decide) (Nat.le_of_ble_eq_true rfl) (t_bc32 (P := fun r9 => r9 = (bc32 a1)) rfl) ?_
  rintro _ _ ⟨rfl, h9⟩
  obtain rfl := h9.symm
  refine T.isub (q := 9) dX7_fewerOf_8 rfl ?_
  refine T.ist_2 (q := 10) dX7_fewerOf_9 rfl (by decide) sk_ok_i ?_
  refine S.i2T h ?_
  intro y9 h
  refine T.ild_2 (q := 11) dX7_fewerOf_10 rfl ?_
  refine T.if_lt (tgt := 23) (q := 14) dX7_fewerOf_11 (by decide) rfl (fun h11 => ?_) (fun h11 => ?_)
  · replace h := s_tP (Or.inl h11) h
    refine T.ild_0 (q := 24) dX7_fewerOf_23 rfl ?_
    refine T.goto (tgt := 28) dX7_fewerOf_24 (by decide) ?_
    exact T.retI rfl dX7_fewerOf_28 (by decide) (by decide) ⟨h, rfl⟩
  · refine T.ild_2 (q := 15) dX7_fewerOf_14 rfl ?_
    refine T.if_ne (tgt := 27) (q := 18) dX7_fewerOf_15 (by decide) rfl (fun h15 => ?_) (fun h15 => ?_)
    · replace h := s_fP (fun q => q.elim h11 (fun q => h15 q.1)) h
      refine T.ild_1 (q := 28) dX7_fewerOf_27 rfl ?_
      exact T.retI rfl dX7_fewerOf_28 (by decide) (by decide) ⟨h, rfl⟩
    · refine T.ild_0 (q := 19) dX7_fewerOf_18 rfl ?_
      refine T.ild_1 (q := 20) dX7_fewerOf_19 rfl ?_
      refine T.ic_ge (tgt := 27) (q := 23) dX7_fewerOf_20 (by decide) rfl (fun h20 => ?_) (fun h20 => ?_)
      · replace h := s_fP (fun q => q.elim h11 (fun q => (fun q => q h20) q.2)) h
        refine T.ild_1 (q := 28) dX7_fewerOf_27 rfl ?_
        exact T.retI rfl dX7_fewerOf_28 (by decide) (by decide) ⟨h, rfl⟩
      · replace h := s_tP (Or.inr ⟨h15, h20⟩) h
        refine T.ild_0 (q := 24) dX7_fewerOf_23 rfl ?_
        refine T.goto (tgt := 28) dX7_fewerOf_24 (by decide) ?_
        exact T.retI rfl dX7_fewerOf_28 (by decide) (by decide) ⟨h, rfl⟩
theorem tl_X7_breaks_L4 {G : sk_G} {M : sk_M} {cells slots : Nat}  {Q : Int32 → Prop}  (hc0 : cells ≤ 0) (hs0 : slots ≤ 0) : ∀ (F : Nat) (s4 : Int32 × Int32), lp (w_X7_breaks_L4 M Q) F s4 → TJ G mX7_breaks (sk_R 2 0 0) (sk_K G 0 0 (rI fun r9 M9 => Q r9 ∧ M9 = M) noX) cells slots 4 [some (.ref (G.2.2.1 120)), some (.int s4.1), some (.int s4.2), none] [] M := by
  refine lp_sound (fun c hc9 s4 h => ?_)
  unfold w_X7_breaks_L4 at h
  refine T.ild_2 (q := 5) dX7_breaks_4 rfl ?_
  refine T.ald_0 (q := 6) dX7_breaks_5 rfl ?_
  refine g_X7_19 rfl dX7_breaks_6 (q := 9) rfl ?_
  refine g_X7_295 sk_s0 rfl dX7_breaks_9 (q := 12) rfl ?_
  refine T.ic_ge (tgt := 52) (q := 15) dX7_breaks_12 (by decide) rfl (fun h12 => ?_) (fun h12 => ?_)
  · replace h := s_f (fun q => q h12) h
    refine T.ild_1 (q := 53) dX7_breaks_52 rfl ?_
    exact T.retI rfl dX7_breaks_53 hc0 hs0 ⟨h, rfl⟩
  · replace h := s_t h12 h
    refine T.ald_0 (q := 16) dX7_breaks_15 rfl ?_
    refine g_X7_19 rfl dX7_breaks_16 (q := 19) rfl ?_
    refine T.ild_2 (q := 20) dX7_breaks_19 rfl ?_
    refine k_X7_315 sk_s0 rfl dX7_breaks_20 (q := 23) rfl (by decide) hc0 hs0 (Nat.le_of_ble_eq_true rfl) (t_X5_quarrelsOf sk_s0 h) ?_
    rintro r20 _ ⟨h, h9⟩
    obtain rfl := h9.symm
    refine T.ist_3 (q := 24) dX7_breaks_23 rfl (by decide) sk_ok_i ?_
    refine T.ild_3 (q := 25) dX7_breaks_24 rfl ?_
    refine T.if_eq (tgt := 46) (q := 28) dX7_breaks_25 (by decide) rfl (fun h25 => ?_) (fun h25 => ?_)
    · replace h := s_f (fun q => q h25) h
      refine T.inc_2 (q := 49) (1) dX7_breaks_46 rfl (by decide) (by decide) sk_ok_i ?_
      refine T.goto (tgt := 4) dX7_breaks_49 (by decide) ?_
      refine T.drop_3 ?_
      exact hc9 (s4.1, (s4.2 + (1 : Int32))) h
    · replace h := s_t h25 h
      refine T.ild_1 (q := 29) dX7_breaks_28 rfl ?_
      refine T.ild_3 (q := 30) dX7_breaks_29 rfl ?_
      refine T.ald_0 (q := 31) dX7_breaks_30 rfl ?_
      refine g_X7_19 rfl dX7_breaks_31 (q := 34) rfl ?_
      refine T.ild_3 (q := 35) dX7_breaks_34 rfl ?_
      refine k_X7_187 rfl dX7_breaks_35 (q := 38) rfl (by decide) hc0 hs0 (Nat.le_of_ble_eq_true rfl) (t_J6_numberOfTrailingZeros_0f7a4 (P := fun r9 => r9 = (f_J6_numberOfTrailingZeros_0f7a4 r20)) rfl) ?_
      rintro _ _ ⟨rfl, h9⟩
      obtain rfl := h9.symm
      refine k_X7_315 sk_s0 rfl dX7_breaks_38 (q := 41) rfl (by decide) hc0 hs0 (Nat.le_of_ble_eq_true rfl) (t_X5_quarrelsOf sk_s0 h) ?_
      rintro r38 _ ⟨h, h9⟩
      obtain rfl := h9.symm
      refine k_X7_323 rfl dX7_breaks_41 (q := 44) rfl (by decide) hc0 hs0 (Nat.le_of_ble_eq_true rfl) (t_X7_fewerOf (P := fun r9 => r9 = (f_X7_fewerOf r20 r38)) rfl) ?_
      rintro _ _ ⟨rfl, h9⟩
      obtain rfl := h9.symm
      refine T.ior (q := 45) dX7_breaks_44 rfl ?_
      refine T.ist_1 (q := 46) dX7_breaks_45 rfl (by decide) sk_ok_r ?_
      refine S.i1 h ?_
      intro y45 h
      refine T.inc_2 (q := 49) (1) dX7_breaks_46 rfl (by decide) (by decide) sk_ok_i ?_
      refine T.goto (tgt := 4) dX7_breaks_49 (by decide) ?_
      refine T.drop_3 ?_
      exact hc9 (y45, (s4.2 + (1 : Int32))) h
theorem t_X7_breaks {G : sk_G} {M : sk_M}   {Q : Int32 → Prop} (h : w_X7_breaks  M Q) : Ctr G mX7_breaks 2 0 0 [.ref (G.2.2.1 120)] M (rI fun r9 M9 => Q r9 ∧ M9 = M) noX := by
  unfold w_X7_breaks at h
  refine Ctr.of 3 (by decide) (Nat.le_of_ble_eq_true rfl) ?_
  show TJ G mX7_breaks (sk_R 2 0 0) (sk_K G 0 0 (rI fun r9 M9 => Q r9 ∧ M9 = M) noX) 0 0 0 [some (.ref (G.2.2.1 120)), none, none, none] [] M
  refine T.iconst (q := 1) (0) dX7_breaks_0 rfl (by decide) ?_
  refine T.ist_1 (q := 2) dX7_breaks_1 rfl (by decide) sk_ok_r ?_
  refine T.iconst (q := 3) (0) dX7_breaks_2 rfl (by decide) ?_
  refine T.ist_2 (q := 4) dX7_breaks_3 rfl (by decide) sk_ok_i ?_
  exact tl_X7_breaks_L4  (by decide) (by decide) _ ((0 : Int32), (0 : Int32)) h
theorem tl_X7_rota_L46 {G : sk_G} {M : sk_M} {cells slots : Nat} {a2 : Int32} {y35 : Int32} {Q : Int32 → Prop} {X : String → Prop}  (hc0 : cells ≤ 2) (hs0 : slots ≤ 12) : ∀ (F : Nat) (s46 : Int32 × Int32 × Int32), lp (w_X7_rota_L46 a2 y35 M Q) F s46 → TJ G mX7_rota (sk_R 7 2 12) (sk_K G 2 12 (rI fun r9 M9 => Q r9 ∧ M9 = M) (fun e9 M9 => X e9 ∧ M9 = M)) cells slots 46 [none, none, some (.int a2), some (.int y35), some (.int s46.1), some (.int s46.2.1), some (.int s46.2.2)] [] M := by
  refine lp_sound (fun c hc9 s46 h => ?_)
  unfold w_X7_rota_L46 at h
  refine T.ild_6 (q := 48) dX7_rota_46 rfl ?_
  refine T.bipush (q := 50) (127) dX7_rota_48 rfl (by decide) ?_
  refine T.ic_gt (tgt := 98) (q := 53) dX7_rota_50 (by decide) rfl (fun h50 => ?_) (fun h50 => ?_)
  · replace h := s_f (fun q => q h50) h
    refine T.ild_4 (q := 100) dX7_rota_98 rfl ?_
    exact T.retI rfl dX7_rota_100 hc0 hs0 ⟨h, rfl⟩
  · replace h := s_t h50 h
    refine T.ild_6 (q := 55) dX7_rota_53 rfl ?_
    refine T.ild_3 (q := 56) dX7_rota_55 rfl ?_
    refine T.iand (q := 57) dX7_rota_56 rfl ?_
    refine T.if_ne (tgt := 92) (q := 60) dX7_rota_57 (by decide) rfl (fun h57 => ?_) (fun h57 => ?_)
    · replace h := s_f (fun q => h57 q.1) h
      refine T.inc_6 (q := 95) (1) dX7_rota_92 rfl (by decide) (by decide) sk_ok_i ?_
      refine T.goto (tgt := 46) dX7_rota_95 (by decide) ?_
      exact hc9 (s46.1, s46.2.1, (s46.2.2 + (1 : Int32))) h
    · refine T.ild_6 (q := 62) dX7_rota_60 rfl ?_
      refine k_X7_182 rfl dX7_rota_62 (q := 65) rfl (by decide) hc0 hs0 (Nat.le_of_ble_eq_true rfl) (t_bc32 (P := fun r9 => r9 = (bc32 s46.2.2)) rfl) ?_
      rintro _ _ ⟨rfl, h9⟩
      obtain rfl := h9.symm
      refine T.ild_5 (q := 67) dX7_rota_65 rfl ?_
      refine T.ic_ge (tgt := 92) (q := 70) dX7_rota_67 (by decide) rfl (fun h67 => ?_) (fun h67 => ?_)
      · replace h := s_f (fun q => (fun q => q h67) q.2) h
        refine T.inc_6 (q := 95) (1) dX7_rota_92 rfl (by decide) (by decide) sk_ok_i ?_
        refine T.goto (tgt := 46) dX7_rota_95 (by decide) ?_
        exact hc9 (s46.1, s46.2.1, (s46.2.2 + (1 : Int32))) h
      · replace h := s_t ⟨h57, h67⟩ h
        refine T.ild_3 (q := 71) dX7_rota_70 rfl ?_
        refine T.ild_6 (q := 73) dX7_rota_71 rfl ?_
        refine T.ior (q := 74) dX7_rota_73 rfl ?_
        refine k_X7_152 rfl dX7_rota_74 (q := 77) rfl (by decide) hc0 hs0 (Nat.le_of_ble_eq_true rfl) (t_X7_longestGap  h) ?_
        rintro r74 _ ⟨h, h9⟩
        obtain rfl := h9.symm
        refine T.ild_2 (q := 78) dX7_rota_77 rfl ?_
        refine T.ic_gt (tgt := 92) (q := 81) dX7_rota_78 (by decide) rfl (fun h78 => ?_) (fun h78 => ?_)
        · replace h := s_f (fun q => q h78) h
          refine T.inc_6 (q := 95) (1) dX7_rota_92 rfl (by decide) (by decide) sk_ok_i ?_
          refine T.goto (tgt := 46) dX7_rota_95 (by decide) ?_
          exact hc9 (s46.1, s46.2.1, (s46.2.2 + (1 : Int32))) h
        · replace h := s_t h78 h
          refine T.ild_6 (q := 83) dX7_rota_81 rfl ?_
          refine T.ist_4 (q := 85) dX7_rota_83 rfl (by decide) sk_ok_i ?_
          refine T.ild_6 (q := 87) dX7_rota_85 rfl ?_
          refine k_X7_182 rfl dX7_rota_87 (q := 90) rfl (by decide) hc0 hs0 (Nat.le_of_ble_eq_true rfl) (t_bc32 (P := fun r9 => r9 = (bc32 s46.2.2)) rfl) ?_
          rintro _ _ ⟨rfl, h9⟩
          obtain rfl := h9.symm
          refine T.ist_5 (q := 92) dX7_rota_90 rfl (by decide) sk_ok_i ?_
          refine S.i5 h ?_
          intro y90 h
          refine T.inc_6 (q := 95) (1) dX7_rota_92 rfl (by decide) (by decide) sk_ok_i ?_
          refine T.goto (tgt := 46) dX7_rota_95 (by decide) ?_
          exact hc9 (s46.2.2, y90, (s46.2.2 + (1 : Int32))) h
theorem t_X7_rota {G : sk_G} {M : sk_M} {a1 : Int32} {a2 : Int32}  {Q : Int32 → Prop} {X : String → Prop} (h : w_X7_rota a1 a2 M Q X) : Ctr G mX7_rota 7 2 12 [.ref (G.2.2.1 120), .int a1, .int a2] M (rI fun r9 M9 => Q r9 ∧ M9 = M) (fun e9 M9 => X e9 ∧ M9 = M) := by
  unfold w_X7_rota at h
  refine Ctr.of 4 (by decide) (Nat.le_of_ble_eq_true rfl) ?_
  show TJ G mX7_rota (sk_R 7 2 12) (sk_K G 2 12 (rI fun r9 M9 => Q r9 ∧ M9 = M) (fun e9 M9 => X e9 ∧ M9 = M)) 0 0 0 [some (.ref (G.2.2.1 120)), some (.int a1), some (.int a2), none, none, none, none] [] M
  refine T.ald_0 (q := 1) dX7_rota_0 rfl ?_
  refine T.ild_1 (q := 2) dX7_rota_1 rfl ?_
  refine kx_X7_126 rfl dX7_rota_2 (q := 5) rfl (by decide) (by decide) (by decide) (Nat.le_of_ble_eq_true rfl) rfl (by decide) (by decide) (t_X7_needVault  h) (fun _ _ h9 => h9) ?_
  rintro _ ⟨h, h9⟩
  obtain rfl := h9.symm
  refine T.ild_2 (q := 6) dX7_rota_5 rfl ?_
  refine T.if_lt (tgt := 15) (q := 9) dX7_rota_6 (by decide) rfl (fun h6 => ?_) (fun h6 => ?_)
  · replace h := s_t (Or.inl h6) h
    exact T.throwSW (cls := "java/lang/IllegalArgumentException") (names := ["java/lang/RuntimeException", "java/lang/Exception"]) (text := "a row is 0 to 6 long") (j := 34) tw_X7_87_91 (by decide +kernel) dX7_rota_15 dX7_rota_18 dX7_rota_19 dX7_rota_22 dX7_rota_25 rfl (by decide) (by decide) (by decide) (by decide) (by decide) (by decide) ⟨h, rfl⟩
  · refine T.ild_2 (q := 10) dX7_rota_9 rfl ?_
    refine T.bipush (q := 12) (7) dX7_rota_10 rfl (by decide) ?_
    refine T.ic_lt (tgt := 26) (q := 15) dX7_rota_12 (by decide) rfl (fun h12 => ?_) (fun h12 => ?_)
    · replace h := s_f (fun q => q.elim h6 (fun q => q h12)) h
      refine T.ald_0 (q := 27) dX7_rota_26 rfl ?_
      refine g_X7_19 rfl dX7_rota_27 (q := 30) rfl ?_
      refine g_X7_132 sk_s0 rfl dX7_rota_30 (q := 33) rfl ?_
      refine T.ild_1 (q := 34) dX7_rota_33 rfl ?_
      refine T.iald (sk_a2 sk_s0).1 (sk_a2 sk_s0).2.1 (sk_a2 sk_s0).2.2 dX7_rota_34 (q := 35) rfl h.1 ?_
      replace h := h.2
      refine T.ist_3 (q := 36) dX7_rota_35 rfl (by decide) sk_ok_i ?_
      refine S.i3 h ?_
      intro y35 h
      refine T.iconst (q := 37) (0) dX7_rota_36 rfl (by decide) ?_
      refine T.ist_4 (q := 39) dX7_rota_37 rfl (by decide) sk_ok_i ?_
      refine T.bipush (q := 41) (8) dX7_rota_39 rfl (by decide) ?_
      refine T.ist_5 (q := 43) dX7_rota_41 rfl (by decide) sk_ok_i ?_
      refine T.iconst (q := 44) (0) dX7_rota_43 rfl (by decide) ?_
      refine T.ist_6 (q := 46) dX7_rota_44 rfl (by decide) sk_ok_i ?_
      refine T.drop_0 ?_
      refine T.drop_1 ?_
      exact tl_X7_rota_L46  (by decide) (by decide) _ ((0 : Int32), (8 : Int32), (0 : Int32)) h
    · replace h := s_t (Or.inr h12) h
      exact T.throwSW (cls := "java/lang/IllegalArgumentException") (names := ["java/lang/RuntimeException", "java/lang/Exception"]) (text := "a row is 0 to 6 long") (j := 34) tw_X7_87_91 (by decide +kernel) dX7_rota_15 dX7_rota_18 dX7_rota_19 dX7_rota_22 dX7_rota_25 rfl (by decide) (by decide) (by decide) (by decide) (by decide) (by decide) ⟨h, rfl⟩
theorem tl_X7_richest_L13 {G : sk_G} {M : sk_M} {cells slots : Nat} {a1 : Int32} {a2 : Int32} {Q : Int32 → Prop} {X : String → Prop}  (hc0 : cells ≤ 1) (hs0 : slots ≤ 6) : ∀ (F : Nat) (s13 : Int32 × Int32 × Int32), lp (w_X7_richest_L13 a1 a2 M Q) F s13 → TJ G mX7_richest (sk_R 7 1 6) (sk_K G 1 6 (rI fun r9 M9 => Q r9 ∧ M9 = M) (fun e9 M9 => X e9 ∧ M9 = M)) cells slots 13 [some (.ref (G.2.2.1 120)), some (.int a1), some (.int a2), some (.int s13.1), some (.int s13.2.1), some (.int s13.2.2), none] [] M := by
  refine lp_sound (fun c hc9 s13 h => ?_)
  unfold w_X7_richest_L13 at h
  refine T.ild_5 (q := 15) dX7_richest_13 rfl ?_
  refine T.ald_0 (q := 16) dX7_richest_15 rfl ?_
  refine g_X7_19 rfl dX7_richest_16 (q := 19) rfl ?_
  refine g_X7_248 sk_s0 rfl dX7_richest_19 (q := 22) rfl ?_
  refine T.ic_ge (tgt := 95) (q := 25) dX7_richest_22 (by decide) rfl (fun h22 => ?_) (fun h22 => ?_)
  · replace h := s_f (fun q => q h22) h
    refine T.ild_3 (q := 96) dX7_richest_95 rfl ?_
    exact T.retI rfl dX7_richest_96 hc0 hs0 ⟨h, rfl⟩
  · replace h := s_t h22 h
    refine T.ald_0 (q := 26) dX7_richest_25 rfl ?_
    refine g_X7_19 rfl dX7_richest_26 (q := 29) rfl ?_
    refine T.ild_5 (q := 31) dX7_richest_29 rfl ?_
    refine k_X7_199 sk_s0 rfl dX7_richest_31 (q := 34) rfl (by decide) hc0 hs0 (Nat.le_of_ble_eq_true rfl) (t_X5_isGuarded sk_s0 h) ?_
    rintro r31 _ ⟨h, h9⟩
    obtain rfl := h9.symm
    refine T.if_eq (tgt := 40) (q := 37) dX7_richest_34 (by decide) rfl (fun h34 => ?_) (fun h34 => ?_)
    · replace h := s_f (fun q => q h34) h
      refine T.ild_2 (q := 41) dX7_richest_40 rfl ?_
      refine s_join (fun s68_41 : Int32 => TJ G mX7_richest (sk_R 7 1 6) (sk_K G 1 6 (rI fun r9 M9 => Q r9 ∧ M9 = M) (fun e9 M9 => X e9 ∧ M9 = M)) cells slots 68 [some (.ref (G.2.2.1 120)), some (.int a1), some (.int a2), some (.int s13.1), some (.int s13.2.1), some (.int s13.2.2), none] [.int s68_41] M) h (fun s68_41 h => ?_) (fun j68_41 hj68_41 h => ?_)
      · refine T.ist_6 (q := 70) dX7_richest_68 rfl (by decide) sk_ok_i ?_
        refine T.ild_3 (q := 71) dX7_richest_70 rfl ?_
        refine T.iconst (q := 72) (-1) dX7_richest_71 rfl (by decide) ?_
        refine T.ic_eq (tgt := 82) (q := 75) dX7_richest_72 (by decide) rfl (fun h72 => ?_) (fun h72 => ?_)
        · replace h := s_t (Or.inl h72) h
          refine T.ild_5 (q := 84) dX7_richest_82 rfl ?_
          refine T.ist_3 (q := 85) dX7_richest_84 rfl (by decide) sk_ok_i ?_
          refine T.ild_6 (q := 87) dX7_richest_85 rfl ?_
          refine T.ist_4 (q := 89) dX7_richest_87 rfl (by decide) sk_ok_i ?_
          refine T.inc_5 (q := 92) (1) dX7_richest_89 rfl (by decide) (by decide) sk_ok_i ?_
          refine T.goto (tgt := 13) dX7_richest_92 (by decide) ?_
          refine T.drop_6 ?_
          exact hc9 (s13.2.2, s68_41, (s13.2.2 + (1 : Int32))) h
        · refine T.ild_6 (q := 77) dX7_richest_75 rfl ?_
          refine T.ild_4 (q := 79) dX7_richest_77 rfl ?_
          refine T.ic_le (tgt := 89) (q := 82) dX7_richest_79 (by decide) rfl (fun h79 => ?_) (fun h79 => ?_)
          · replace h := s_f (fun q => q.elim h72 (fun q => q h79)) h
            refine T.inc_5 (q := 92) (1) dX7_richest_89 rfl (by decide) (by decide) sk_ok_i ?_
            refine T.goto (tgt := 13) dX7_richest_92 (by decide) ?_
            refine T.drop_6 ?_
            exact hc9 (s13.1, s13.2.1, (s13.2.2 + (1 : Int32))) h
          · replace h := s_t (Or.inr h79) h
            refine T.ild_5 (q := 84) dX7_richest_82 rfl ?_
            refine T.ist_3 (q := 85) dX7_richest_84 rfl (by decide) sk_ok_i ?_
            refine T.ild_6 (q := 87) dX7_richest_85 rfl ?_
            refine T.ist_4 (q := 89) dX7_richest_87 rfl (by decide) sk_ok_i ?_
            refine T.inc_5 (q := 92) (1) dX7_richest_89 rfl (by decide) (by decide) sk_ok_i ?_
            refine T.goto (tgt := 13) dX7_richest_92 (by decide) ?_
            refine T.drop_6 ?_
            exact hc9 (s13.2.2, s68_41, (s13.2.2 + (1 : Int32))) h
      · refine T.if_eq (tgt := 58) (q := 44) dX7_richest_41 (by decide) rfl (fun h41 => ?_) (fun h41 => ?_)
        · replace h := s_f (fun q => q h41) h
          refine T.ald_0 (q := 59) dX7_richest_58 rfl ?_
          refine g_X7_19 rfl dX7_richest_59 (q := 62) rfl ?_
          refine T.ild_1 (q := 63) dX7_richest_62 rfl ?_
          refine T.ild_5 (q := 65) dX7_richest_63 rfl ?_
          refine k_X7_328 sk_s0 rfl dX7_richest_65 (q := 68) rfl (by decide) hc0 hs0 (Nat.le_of_ble_eq_true rfl) (t_X5_shareOf sk_s0 h) ?_
          rintro r65 _ ⟨h, h9⟩
          obtain rfl := h9.symm
          exact hj68_41 r65 h
        · replace h := s_t h41 h
          refine T.ald_0 (q := 45) dX7_richest_44 rfl ?_
          refine g_X7_19 rfl dX7_richest_45 (q := 48) rfl ?_
          refine T.ild_1 (q := 49) dX7_richest_48 rfl ?_
          refine T.ild_5 (q := 51) dX7_richest_49 rfl ?_
          refine k_X7_163 sk_s0 rfl dX7_richest_51 (q := 54) rfl (by decide) hc0 hs0 (Nat.le_of_ble_eq_true rfl) (t_X5_leftOf sk_s0 h) ?_
          rintro r51 _ ⟨h, h9⟩
          obtain rfl := h9.symm
          refine T.ineg (q := 55) dX7_richest_54 rfl ?_
          refine T.goto (tgt := 68) dX7_richest_55 (by decide) ?_
          exact hj68_41 (-r51) h
    · replace h := s_t h34 h
      refine T.goto (tgt := 89) dX7_richest_37 (by decide) ?_
      refine T.inc_5 (q := 92) (1) dX7_richest_89 rfl (by decide) (by decide) sk_ok_i ?_
      refine T.goto (tgt := 13) dX7_richest_92 (by decide) ?_
      exact hc9 (s13.1, s13.2.1, (s13.2.2 + (1 : Int32))) h
theorem t_X7_richest {G : sk_G} {M : sk_M} {a1 : Int32} {a2 : Int32}  {Q : Int32 → Prop} {X : String → Prop} (h : w_X7_richest a1 a2 M Q X) : Ctr G mX7_richest 7 1 6 [.ref (G.2.2.1 120), .int a1, .int a2] M (rI fun r9 M9 => Q r9 ∧ M9 = M) (fun e9 M9 => X e9 ∧ M9 = M) := by
  unfold w_X7_richest at h
  refine Ctr.of 4 (by decide) (Nat.le_of_ble_eq_true rfl) ?_
  show TJ G mX7_richest (sk_R 7 1 6) (sk_K G 1 6 (rI fun r9 M9 => Q r9 ∧ M9 = M) (fun e9 M9 => X e9 ∧ M9 = M)) 0 0 0 [some (.ref (G.2.2.1 120)), some (.int a1), some (.int a2), none, none, none, none] [] M
  refine T.ald_0 (q := 1) dX7_richest_0 rfl ?_
  refine T.ild_1 (q := 2) dX7_richest_1 rfl ?_
  refine kx_X7_160 rfl dX7_richest_2 (q := 5) rfl (by decide) (by decide) (by decide) (Nat.le_of_ble_eq_true rfl) rfl (by decide) (by decide) (t_X7_needPerson  h) (fun _ _ h9 => h9) ?_
  rintro _ ⟨h, h9⟩
  obtain rfl := h9.symm
  refine T.iconst (q := 6) (-1) dX7_richest_5 rfl (by decide) ?_
  refine T.ist_3 (q := 7) dX7_richest_6 rfl (by decide) sk_ok_i ?_
  refine T.iconst (q := 8) (0) dX7_richest_7 rfl (by decide) ?_
  refine T.ist_4 (q := 10) dX7_richest_8 rfl (by decide) sk_ok_i ?_
  refine T.iconst (q := 11) (0) dX7_richest_10 rfl (by decide) ?_
  refine T.ist_5 (q := 13) dX7_richest_11 rfl (by decide) sk_ok_i ?_
  exact tl_X7_richest_L13  (by decide) (by decide) _ ((-1 : Int32), (0 : Int32), (0 : Int32)) h
theorem tl_X7_first_L15 {G : sk_G} {M : sk_M} {cells slots : Nat} {a1 : Int32} {Q : Int32 → Prop} {X : String → Prop} {k45 : Int32 → Prop}  (hc0 : cells ≤ 1) (hs0 : slots ≤ 6) (hk45 : ∀ s45 : Int32, k45 s45 → TJ G mX7_first (sk_R 7 1 6) (sk_K G 1 6 (rI fun r9 M9 => Q r9 ∧ M9 = M) (fun e9 M9 => X e9 ∧ M9 = M)) cells slots 45 [some (.ref (G.2.2.1 120)), none, some (.int s45)] [] M) : ∀ (F : Nat) (s15 : Int32), lp (w_X7_first_L15 a1 M Q k45) F s15 → TJ G mX7_first (sk_R 7 1 6) (sk_K G 1 6 (rI fun r9 M9 => Q r9 ∧ M9 = M) (fun e9 M9 => X e9 ∧ M9 = M)) cells slots 15 [some (.ref (G.2.2.1 120)), some (.int a1), some (.int s15)] [] M := by
  refine lp_sound (fun c hc9 s15 h => ?_)
  unfold w_X7_first_L15 at h
  refine T.ild_2 (q := 16) dX7_first_15 rfl ?_
  refine T.if_lt (tgt := 61) (q := 19) dX7_first_16 (by decide) rfl (fun h16 => ?_) (fun h16 => ?_)
  · replace h := s_f (fun q => q h16) h
    refine T.iconst (q := 62) (-1) dX7_first_61 rfl (by decide) ?_
    exact T.retI rfl dX7_first_62 hc0 hs0 ⟨h, rfl⟩
  · replace h := s_t h16 h
    refine T.ald_0 (q := 20) dX7_first_19 rfl ?_
    refine g_X7_19 rfl dX7_first_20 (q := 23) rfl ?_
    refine T.ild_2 (q := 24) dX7_first_23 rfl ?_
    refine T.iconst (q := 25) (2) dX7_first_24 rfl (by decide) ?_
    refine k_X7_334 sk_s0 rfl dX7_first_25 (q := 28) rfl (by decide) hc0 hs0 (Nat.le_of_ble_eq_true rfl) (t_X5_rowCell sk_s0 h) ?_
    rintro r25 _ ⟨h, h9⟩
    obtain rfl := h9.symm
    refine T.ild_1 (q := 29) dX7_first_28 rfl ?_
    refine T.ic_ne (tgt := 55) (q := 32) dX7_first_29 (by decide) rfl (fun h29 => ?_) (fun h29 => ?_)
    · replace h := s_f h29 h
      refine T.inc_2 (q := 58) (-1) dX7_first_55 rfl (by decide) (by decide) sk_ok_i ?_
      refine T.goto (tgt := 15) dX7_first_58 (by decide) ?_
      exact hc9 (s15 + (-1 : Int32)) h
    · replace h := s_t h29 h
      refine T.ald_0 (q := 33) dX7_first_32 rfl ?_
      refine g_X7_19 rfl dX7_first_33 (q := 36) rfl ?_
      refine T.ild_2 (q := 37) dX7_first_36 rfl ?_
      refine T.iconst (q := 38) (5) dX7_first_37 rfl (by decide) ?_
      refine k_X7_334 sk_s0 rfl dX7_first_38 (q := 41) rfl (by decide) hc0 hs0 (Nat.le_of_ble_eq_true rfl) (t_X5_rowCell sk_s0 h) ?_
      rintro r38 _ ⟨h, h9⟩
      obtain rfl := h9.symm
      refine T.iconst (q := 42) (1) dX7_first_41 rfl (by decide) ?_
      refine T.ic_ne (tgt := 55) (q := 45) dX7_first_42 (by decide) rfl (fun h42 => ?_) (fun h42 => ?_)
      · replace h := s_f h42 h
        refine T.inc_2 (q := 58) (-1) dX7_first_55 rfl (by decide) (by decide) sk_ok_i ?_
        refine T.goto (tgt := 15) dX7_first_58 (by decide) ?_
        exact hc9 (s15 + (-1 : Int32)) h
      · replace h := s_t h42 h
        refine T.drop_1 ?_
        exact hk45 s15 h
theorem t_X7_first {G : sk_G} {M : sk_M} {a1 : Int32}  {Q : Int32 → Prop} {X : String → Prop} (h : w_X7_first a1 M Q X) : Ctr G mX7_first 7 1 6 [.ref (G.2.2.1 120), .int a1] M (rI fun r9 M9 => Q r9 ∧ M9 = M) (fun e9 M9 => X e9 ∧ M9 = M) := by
  unfold w_X7_first at h
  refine Ctr.of 1 (by decide) (Nat.le_of_ble_eq_true rfl) ?_
  show TJ G mX7_first (sk_R 7 1 6) (sk_K G 1 6 (rI fun r9 M9 => Q r9 ∧ M9 = M) (fun e9 M9 => X e9 ∧ M9 = M)) 0 0 0 [some (.ref (G.2.2.1 120)), some (.int a1), none] [] M
  refine T.ald_0 (q := 1) dX7_first_0 rfl ?_
  refine T.ild_1 (q := 2) dX7_first_1 rfl ?_
  refine kx_X7_126 rfl dX7_first_2 (q := 5) rfl (by decide) (by decide) (by decide) (Nat.le_of_ble_eq_true rfl) rfl (by decide) (by decide) (t_X7_needVault  h) (fun _ _ h9 => h9) ?_
  rintro _ ⟨h, h9⟩
  obtain rfl := h9.symm
  refine T.ald_0 (q := 6) dX7_first_5 rfl ?_
  refine g_X7_19 rfl dX7_first_6 (q := 9) rfl ?_
  refine g_X7_331 sk_s0 rfl dX7_first_9 (q := 12) rfl ?_
  refine T.iconst (q := 13) (1) dX7_first_12 rfl (by decide) ?_
  refine T.isub (q := 14) dX7_first_13 rfl ?_
  refine T.ist_2 (q := 15) dX7_first_14 rfl (by decide) sk_ok_i ?_
  refine S.i2 h ?_
  intro y14 h
  refine tl_X7_first_L15  (by decide) (by decide) ?_ _ y14 h
  intro s45 h
  refine T.ald_0 (q := 46) dX7_first_45 rfl ?_
  refine g_X7_19 rfl dX7_first_46 (q := 49) rfl ?_
  refine T.ild_2 (q := 50) dX7_first_49 rfl ?_
  refine T.iconst (q := 51) (1) dX7_first_50 rfl (by decide) ?_
  refine k_X7_334 sk_s0 rfl dX7_first_51 (q := 54) rfl (by decide) (by decide) (by decide) (Nat.le_of_ble_eq_true rfl) (t_X5_rowCell sk_s0 h) ?_
  rintro r51 _ ⟨h, h9⟩
  obtain rfl := h9.symm
  exact T.retI rfl dX7_first_54 (by decide) (by decide) ⟨h, rfl⟩
theorem tl_X7_turned_L20 {G : sk_G} {M : sk_M} {cells slots : Nat} {a1 : Int32} {a2 : Int32} {Q : Int32 → Prop} {X : String → Prop}  (hc0 : cells ≤ 2) (hs0 : slots ≤ 12) : ∀ (F : Nat) (s20 : Int32 × Int32), lp (w_X7_turned_L20 a1 a2 M Q) F s20 → TJ G mX7_turned (sk_R 7 2 12) (sk_K G 2 12 (rI fun r9 M9 => Q r9 ∧ M9 = M) (fun e9 M9 => X e9 ∧ M9 = M)) cells slots 20 [some (.ref (G.2.2.1 120)), some (.int a1), some (.int a2), some (.int s20.1), some (.int s20.2), none] [] M := by
  refine lp_sound (fun c hc9 s20 h => ?_)
  unfold w_X7_turned_L20 at h
  refine T.ild_4 (q := 22) dX7_turned_20 rfl ?_
  refine T.ald_0 (q := 23) dX7_turned_22 rfl ?_
  refine g_X7_19 rfl dX7_turned_23 (q := 26) rfl ?_
  refine g_X7_331 sk_s0 rfl dX7_turned_26 (q := 29) rfl ?_
  refine T.ic_ge (tgt := 86) (q := 32) dX7_turned_29 (by decide) rfl (fun h29 => ?_) (fun h29 => ?_)
  · replace h := s_f (fun q => q h29) h
    refine T.ild_3 (q := 87) dX7_turned_86 rfl ?_
    exact T.retI rfl dX7_turned_87 hc0 hs0 ⟨h, rfl⟩
  · replace h := s_t h29 h
    refine T.ald_0 (q := 33) dX7_turned_32 rfl ?_
    refine g_X7_19 rfl dX7_turned_33 (q := 36) rfl ?_
    refine T.ild_4 (q := 38) dX7_turned_36 rfl ?_
    refine T.iconst (q := 39) (2) dX7_turned_38 rfl (by decide) ?_
    refine k_X7_334 sk_s0 rfl dX7_turned_39 (q := 42) rfl (by decide) hc0 hs0 (Nat.le_of_ble_eq_true rfl) (t_X5_rowCell sk_s0 h) ?_
    rintro r39 _ ⟨h, h9⟩
    obtain rfl := h9.symm
    refine T.ild_1 (q := 43) dX7_turned_42 rfl ?_
    refine s_dia (fun s51_43 : Int32 => TJ G mX7_turned (sk_R 7 2 12) (sk_K G 2 12 (rI fun r9 M9 => Q r9 ∧ M9 = M) (fun e9 M9 => X e9 ∧ M9 = M)) cells slots 51 [some (.ref (G.2.2.1 120)), some (.int a1), some (.int a2), some (.int s20.1), some (.int s20.2), none] [.int s51_43] M) h (fun s51_43 h => ?_) (fun k9 hJ9 h => ?_)
    · refine T.ist_5 (q := 53) dX7_turned_51 rfl (by decide) sk_ok_i ?_
      refine T.ild_5 (q := 55) dX7_turned_53 rfl ?_
      refine T.if_eq (tgt := 80) (q := 58) dX7_turned_55 (by decide) rfl (fun h55 => ?_) (fun h55 => ?_)
      · replace h := s_f (fun q => q h55) h
        refine T.inc_4 (q := 83) (1) dX7_turned_80 rfl (by decide) (by decide) sk_ok_i ?_
        refine T.goto (tgt := 20) dX7_turned_83 (by decide) ?_
        refine T.drop_5 ?_
        exact hc9 (s20.1, (s20.2 + (1 : Int32))) h
      · replace h := s_t h55 h
        refine T.ild_2 (q := 59) dX7_turned_58 rfl ?_
        refine T.iconst (q := 60) (-1) dX7_turned_59 rfl (by decide) ?_
        refine T.ic_eq (tgt := 77) (q := 63) dX7_turned_60 (by decide) rfl (fun h60 => ?_) (fun h60 => ?_)
        · replace h := s_f (fun q => q h60) h
          refine T.inc_3 (q := 80) (1) dX7_turned_77 rfl (by decide) (by decide) sk_ok_i ?_
          refine T.inc_4 (q := 83) (1) dX7_turned_80 rfl (by decide) (by decide) sk_ok_i ?_
          refine T.goto (tgt := 20) dX7_turned_83 (by decide) ?_
          refine T.drop_5 ?_
          exact hc9 ((s20.1 + (1 : Int32)), (s20.2 + (1 : Int32))) h
        · replace h := s_t h60 h
          refine T.ald_0 (q := 64) dX7_turned_63 rfl ?_
          refine g_X7_19 rfl dX7_turned_64 (q := 67) rfl ?_
          refine T.ild_4 (q := 69) dX7_turned_67 rfl ?_
          refine T.iconst (q := 70) (1) dX7_turned_69 rfl (by decide) ?_
          refine k_X7_334 sk_s0 rfl dX7_turned_70 (q := 73) rfl (by decide) hc0 hs0 (Nat.le_of_ble_eq_true rfl) (t_X5_rowCell sk_s0 h) ?_
          rintro r70 _ ⟨h, h9⟩
          obtain rfl := h9.symm
          refine T.ild_2 (q := 74) dX7_turned_73 rfl ?_
          refine T.ic_ne (tgt := 80) (q := 77) dX7_turned_74 (by decide) rfl (fun h74 => ?_) (fun h74 => ?_)
          · replace h := s_f h74 h
            refine T.inc_4 (q := 83) (1) dX7_turned_80 rfl (by decide) (by decide) sk_ok_i ?_
            refine T.goto (tgt := 20) dX7_turned_83 (by decide) ?_
            refine T.drop_5 ?_
            exact hc9 (s20.1, (s20.2 + (1 : Int32))) h
          · replace h := s_t h74 h
            refine T.inc_3 (q := 80) (1) dX7_turned_77 rfl (by decide) (by decide) sk_ok_i ?_
            refine T.inc_4 (q := 83) (1) dX7_turned_80 rfl (by decide) (by decide) sk_ok_i ?_
            refine T.goto (tgt := 20) dX7_turned_83 (by decide) ?_
            refine T.drop_5 ?_
            exact hc9 ((s20.1 + (1 : Int32)), (s20.2 + (1 : Int32))) h
    · refine T.ic_ne (tgt := 50) (q := 46) dX7_turned_43 (by decide) rfl (fun h43 => ?_) (fun h43 => ?_)
      · replace h := s_fk h43 h
        refine T.iconst (q := 51) (0) dX7_turned_50 rfl (by decide) ?_
        exact hJ9 _ h
      · replace h := s_tk h43 h
        refine T.iconst (q := 47) (1) dX7_turned_46 rfl (by decide) ?_
        refine T.goto (tgt := 51) dX7_turned_47 (by decide) ?_
        exact hJ9 _ h
theorem t_X7_turned {G : sk_G} {M : sk_M} {a1 : Int32} {a2 : Int32}  {Q : Int32 → Prop} {X : String → Prop} (h : w_X7_turned a1 a2 M Q X) : Ctr G mX7_turned 7 2 12 [.ref (G.2.2.1 120), .int a1, .int a2] M (rI fun r9 M9 => Q r9 ∧ M9 = M) (fun e9 M9 => X e9 ∧ M9 = M) := by
  unfold w_X7_turned at h
  refine Ctr.of 3 (by decide) (Nat.le_of_ble_eq_true rfl) ?_
  show TJ G mX7_turned (sk_R 7 2 12) (sk_K G 2 12 (rI fun r9 M9 => Q r9 ∧ M9 = M) (fun e9 M9 => X e9 ∧ M9 = M)) 0 0 0 [some (.ref (G.2.2.1 120)), some (.int a1), some (.int a2), none, none, none] [] M
  refine T.ald_0 (q := 1) dX7_turned_0 rfl ?_
  refine T.ild_1 (q := 2) dX7_turned_1 rfl ?_
  refine kx_X7_126 rfl dX7_turned_2 (q := 5) rfl (by decide) (by decide) (by decide) (Nat.le_of_ble_eq_true rfl) rfl (by decide) (by decide) (t_X7_needVault  h) (fun _ _ h9 => h9) ?_
  rintro _ ⟨h, h9⟩
  obtain rfl := h9.symm
  refine T.ild_2 (q := 6) dX7_turned_5 rfl ?_
  refine T.iconst (q := 7) (-1) dX7_turned_6 rfl (by decide) ?_
  refine s_join (fun s15_7 : Unit => TJ G mX7_turned (sk_R 7 2 12) (sk_K G 2 12 (rI fun r9 M9 => Q r9 ∧ M9 = M) (fun e9 M9 => X e9 ∧ M9 = M)) (0 + 1 + 1) (0 + 6 + 6) 15 [some (.ref (G.2.2.1 120)), some (.int a1), some (.int a2), none, none, none] [] M) h (fun s15_7 h => ?_) (fun j15_7 hj15_7 h => ?_)
  · refine T.iconst (q := 16) (0) dX7_turned_15 rfl (by decide) ?_
    refine T.ist_3 (q := 17) dX7_turned_16 rfl (by decide) sk_ok_i ?_
    refine T.iconst (q := 18) (0) dX7_turned_17 rfl (by decide) ?_
    refine T.ist_4 (q := 20) dX7_turned_18 rfl (by decide) sk_ok_i ?_
    exact tl_X7_turned_L20  (by decide) (by decide) _ ((0 : Int32), (0 : Int32)) h
  · refine T.ic_eq (tgt := 15) (q := 10) dX7_turned_7 (by decide) rfl (fun h7 => ?_) (fun h7 => ?_)
    · replace h := s_f (fun q => q h7) h
      exact TJ.wide (by decide) (by decide) (hj15_7 () h)
    · replace h := s_t h7 h
      refine T.ald_0 (q := 11) dX7_turned_10 rfl ?_
      refine T.ild_2 (q := 12) dX7_turned_11 rfl ?_
      refine kx_X7_160 rfl dX7_turned_12 (q := 15) rfl (by decide) (by decide) (by decide) (Nat.le_of_ble_eq_true rfl) rfl (by decide) (by decide) (t_X7_needPerson  h) (fun _ _ h9 => h9) ?_
      rintro _ ⟨h, h9⟩
      obtain rfl := h9.symm
      exact hj15_7 () h
theorem tl_X7_price_L9 {G : sk_G} {M : sk_M} {cells slots : Nat} {a1 : Int32} {Q : Int32 → Prop} {X : String → Prop}  (hc0 : cells ≤ 1) (hs0 : slots ≤ 6) : ∀ (F : Nat) (s9 : Int32 × Int32), lp (w_X7_price_L9 a1 M Q) F s9 → TJ G mX7_price (sk_R 7 1 6) (sk_K G 1 6 (rI fun r9 M9 => Q r9 ∧ M9 = M) (fun e9 M9 => X e9 ∧ M9 = M)) cells slots 9 [some (.ref (G.2.2.1 120)), some (.int a1), some (.int s9.1), some (.int s9.2)] [] M := by
  refine lp_sound (fun c hc9 s9 h => ?_)
  unfold w_X7_price_L9 at h
  refine T.ild_3 (q := 10) dX7_price_9 rfl ?_
  refine T.ald_0 (q := 11) dX7_price_10 rfl ?_
  refine g_X7_19 rfl dX7_price_11 (q := 14) rfl ?_
  refine g_X7_248 sk_s0 rfl dX7_price_14 (q := 17) rfl ?_
  refine T.ic_ge (tgt := 38) (q := 20) dX7_price_17 (by decide) rfl (fun h17 => ?_) (fun h17 => ?_)
  · replace h := s_f (fun q => q h17) h
    refine T.ild_2 (q := 39) dX7_price_38 rfl ?_
    exact T.retI rfl dX7_price_39 hc0 hs0 ⟨h, rfl⟩
  · replace h := s_t h17 h
    refine T.ild_2 (q := 21) dX7_price_20 rfl ?_
    refine T.ald_0 (q := 22) dX7_price_21 rfl ?_
    refine g_X7_19 rfl dX7_price_22 (q := 25) rfl ?_
    refine T.ild_1 (q := 26) dX7_price_25 rfl ?_
    refine T.ild_3 (q := 27) dX7_price_26 rfl ?_
    refine k_X7_328 sk_s0 rfl dX7_price_27 (q := 30) rfl (by decide) hc0 hs0 (Nat.le_of_ble_eq_true rfl) (t_X5_shareOf sk_s0 h) ?_
    rintro r27 _ ⟨h, h9⟩
    obtain rfl := h9.symm
    refine T.iadd (q := 31) dX7_price_30 rfl ?_
    refine T.ist_2 (q := 32) dX7_price_31 rfl (by decide) sk_ok_i ?_
    refine S.i2 h ?_
    intro y31 h
    refine T.inc_3 (q := 35) (1) dX7_price_32 rfl (by decide) (by decide) sk_ok_i ?_
    refine T.goto (tgt := 9) dX7_price_35 (by decide) ?_
    exact hc9 (y31, (s9.2 + (1 : Int32))) h
theorem t_X7_price {G : sk_G} {M : sk_M} {a1 : Int32}  {Q : Int32 → Prop} {X : String → Prop} (h : w_X7_price a1 M Q X) : Ctr G mX7_price 7 1 6 [.ref (G.2.2.1 120), .int a1] M (rI fun r9 M9 => Q r9 ∧ M9 = M) (fun e9 M9 => X e9 ∧ M9 = M) := by
  unfold w_X7_price at h
  refine Ctr.of 2 (by decide) (Nat.le_of_ble_eq_true rfl) ?_
  show TJ G mX7_price (sk_R 7 1 6) (sk_K G 1 6 (rI fun r9 M9 => Q r9 ∧ M9 = M) (fun e9 M9 => X e9 ∧ M9 = M)) 0 0 0 [some (.ref (G.2.2.1 120)), some (.int a1), none, none] [] M
  refine T.ald_0 (q := 1) dX7_price_0 rfl ?_
  refine T.ild_1 (q := 2) dX7_price_1 rfl ?_
  refine kx_X7_160 rfl dX7_price_2 (q := 5) rfl (by decide) (by decide) (by decide) (Nat.le_of_ble_eq_true rfl) rfl (by decide) (by decide) (t_X7_needPerson  h) (fun _ _ h9 => h9) ?_
  rintro _ ⟨h, h9⟩
  obtain rfl := h9.symm
  refine T.iconst (q := 6) (0) dX7_price_5 rfl (by decide) ?_
  refine T.ist_2 (q := 7) dX7_price_6 rfl (by decide) sk_ok_i ?_
  refine T.iconst (q := 8) (0) dX7_price_7 rfl (by decide) ?_
  refine T.ist_3 (q := 9) dX7_price_8 rfl (by decide) sk_ok_i ?_
  exact tl_X7_price_L9  (by decide) (by decide) _ ((0 : Int32), (0 : Int32)) h
theorem tl_X7_risky_L35 {G : sk_G} {M : sk_M} {cells slots : Nat} {s18 : Int32 × Int32 × Int32} {Q : Int32 → Prop} {k68 : Int32 → Prop}  (hc0 : cells ≤ 0) (hs0 : slots ≤ 0) (hk68 : ∀ s68 : Int32, k68 s68 → TJ G mX7_risky (sk_R 2 0 0) (sk_K G 0 0 (rI fun r9 M9 => Q r9 ∧ M9 = M) noX) cells slots 68 [some (.ref (G.2.2.1 120)), some (.int s18.1), some (.int s18.2.1), some (.int s18.2.2), some (.int s68), none] [] M) : ∀ (F : Nat) (s35 : Int32 × Int32), lp (w_X7_risky_L35 s18 M k68) F s35 → TJ G mX7_risky (sk_R 2 0 0) (sk_K G 0 0 (rI fun r9 M9 => Q r9 ∧ M9 = M) noX) cells slots 35 [some (.ref (G.2.2.1 120)), some (.int s18.1), some (.int s18.2.1), some (.int s18.2.2), some (.int s35.1), some (.int s35.2)] [] M := by
  refine lp_sound (fun c hc9 s35 h => ?_)
  unfold w_X7_risky_L35 at h
  refine T.ild_5 (q := 37) dX7_risky_35 rfl ?_
  refine T.ald_0 (q := 38) dX7_risky_37 rfl ?_
  refine g_X7_19 rfl dX7_risky_38 (q := 41) rfl ?_
  refine g_X7_289 sk_s0 rfl dX7_risky_41 (q := 44) rfl ?_
  refine T.ic_ge (tgt := 68) (q := 47) dX7_risky_44 (by decide) rfl (fun h44 => ?_) (fun h44 => ?_)
  · replace h := s_f (fun q => q h44) h
    refine T.drop_5 ?_
    exact hk68 s35.1 h
  · replace h := s_t h44 h
    refine T.ild_4 (q := 49) dX7_risky_47 rfl ?_
    refine T.ald_0 (q := 50) dX7_risky_49 rfl ?_
    refine g_X7_19 rfl dX7_risky_50 (q := 53) rfl ?_
    refine T.ild_5 (q := 55) dX7_risky_53 rfl ?_
    refine T.ild_3 (q := 56) dX7_risky_55 rfl ?_
    refine k_X7_163 sk_s0 rfl dX7_risky_56 (q := 59) rfl (by decide) hc0 hs0 (Nat.le_of_ble_eq_true rfl) (t_X5_leftOf sk_s0 h) ?_
    rintro r56 _ ⟨h, h9⟩
    obtain rfl := h9.symm
    refine T.iadd (q := 60) dX7_risky_59 rfl ?_
    refine T.ist_4 (q := 62) dX7_risky_60 rfl (by decide) sk_ok_i ?_
    refine S.i4 h ?_
    intro y60 h
    refine T.inc_5 (q := 65) (1) dX7_risky_62 rfl (by decide) (by decide) sk_ok_i ?_
    refine T.goto (tgt := 35) dX7_risky_65 (by decide) ?_
    exact hc9 (y60, (s35.2 + (1 : Int32))) h
theorem tl_X7_risky_L18 {G : sk_G} {M : sk_M} {cells slots : Nat}  {Q : Int32 → Prop}  (hc0 : cells ≤ 0) (hs0 : slots ≤ 0) : ∀ (F : Nat) (s18 : Int32 × Int32 × Int32), lp (w_X7_risky_L18 M Q) F s18 → TJ G mX7_risky (sk_R 2 0 0) (sk_K G 0 0 (rI fun r9 M9 => Q r9 ∧ M9 = M) noX) cells slots 18 [some (.ref (G.2.2.1 120)), some (.int s18.1), some (.int s18.2.1), some (.int s18.2.2), none, none] [] M := by
  refine lp_sound (fun c hc9 s18 h => ?_)
  unfold w_X7_risky_L18 at h
  refine T.ild_3 (q := 19) dX7_risky_18 rfl ?_
  refine T.ald_0 (q := 20) dX7_risky_19 rfl ?_
  refine g_X7_19 rfl dX7_risky_20 (q := 23) rfl ?_
  refine g_X7_248 sk_s0 rfl dX7_risky_23 (q := 26) rfl ?_
  refine T.ic_ge (tgt := 90) (q := 29) dX7_risky_26 (by decide) rfl (fun h26 => ?_) (fun h26 => ?_)
  · replace h := s_f (fun q => q h26) h
    refine T.ild_1 (q := 91) dX7_risky_90 rfl ?_
    exact T.retI rfl dX7_risky_91 hc0 hs0 ⟨h, rfl⟩
  · replace h := s_t h26 h
    refine T.iconst (q := 30) (0) dX7_risky_29 rfl (by decide) ?_
    refine T.ist_4 (q := 32) dX7_risky_30 rfl (by decide) sk_ok_i ?_
    refine T.iconst (q := 33) (0) dX7_risky_32 rfl (by decide) ?_
    refine T.ist_5 (q := 35) dX7_risky_33 rfl (by decide) sk_ok_i ?_
    refine tl_X7_risky_L35  hc0 hs0 ?_ _ ((0 : Int32), (0 : Int32)) h
    intro s68 h
    refine T.ild_1 (q := 69) dX7_risky_68 rfl ?_
    refine T.iconst (q := 70) (-1) dX7_risky_69 rfl (by decide) ?_
    refine T.ic_eq (tgt := 79) (q := 73) dX7_risky_70 (by decide) rfl (fun h70 => ?_) (fun h70 => ?_)
    · replace h := s_t (Or.inl h70) h
      refine T.ild_3 (q := 80) dX7_risky_79 rfl ?_
      refine T.ist_1 (q := 81) dX7_risky_80 rfl (by decide) sk_ok_r ?_
      refine T.ild_4 (q := 83) dX7_risky_81 rfl ?_
      refine T.ist_2 (q := 84) dX7_risky_83 rfl (by decide) sk_ok_i ?_
      refine T.inc_3 (q := 87) (1) dX7_risky_84 rfl (by decide) (by decide) sk_ok_i ?_
      refine T.goto (tgt := 18) dX7_risky_87 (by decide) ?_
      refine T.drop_4 ?_
      exact hc9 (s18.2.2, s68, (s18.2.2 + (1 : Int32))) h
    · refine T.ild_4 (q := 75) dX7_risky_73 rfl ?_
      refine T.ild_2 (q := 76) dX7_risky_75 rfl ?_
      refine T.ic_ge (tgt := 84) (q := 79) dX7_risky_76 (by decide) rfl (fun h76 => ?_) (fun h76 => ?_)
      · replace h := s_f (fun q => q.elim h70 (fun q => q h76)) h
        refine T.inc_3 (q := 87) (1) dX7_risky_84 rfl (by decide) (by decide) sk_ok_i ?_
        refine T.goto (tgt := 18) dX7_risky_87 (by decide) ?_
        refine T.drop_4 ?_
        exact hc9 (s18.1, s18.2.1, (s18.2.2 + (1 : Int32))) h
      · replace h := s_t (Or.inr h76) h
        refine T.ild_3 (q := 80) dX7_risky_79 rfl ?_
        refine T.ist_1 (q := 81) dX7_risky_80 rfl (by decide) sk_ok_r ?_
        refine T.ild_4 (q := 83) dX7_risky_81 rfl ?_
        refine T.ist_2 (q := 84) dX7_risky_83 rfl (by decide) sk_ok_i ?_
        refine T.inc_3 (q := 87) (1) dX7_risky_84 rfl (by decide) (by decide) sk_ok_i ?_
        refine T.goto (tgt := 18) dX7_risky_87 (by decide) ?_
        refine T.drop_4 ?_
        exact hc9 (s18.2.2, s68, (s18.2.2 + (1 : Int32))) h
theorem t_X7_risky {G : sk_G} {M : sk_M}   {Q : Int32 → Prop} (h : w_X7_risky  M Q) : Ctr G mX7_risky 2 0 0 [.ref (G.2.2.1 120)] M (rI fun r9 M9 => Q r9 ∧ M9 = M) noX := by
  unfold w_X7_risky at h
  refine Ctr.of 5 (by decide) (Nat.le_of_ble_eq_true rfl) ?_
  show TJ G mX7_risky (sk_R 2 0 0) (sk_K G 0 0 (rI fun r9 M9 => Q r9 ∧ M9 = M) noX) 0 0 0 [some (.ref (G.2.2.1 120)), none, none, none, none, none] [] M
  refine T.ald_0 (q := 1) dX7_risky_0 rfl ?_
  refine g_X7_19 rfl dX7_risky_1 (q := 4) rfl ?_
  refine g_X7_289 sk_s0 rfl dX7_risky_4 (q := 7) rfl ?_
  refine T.if_ne (tgt := 12) (q := 10) dX7_risky_7 (by decide) rfl (fun h7 => ?_) (fun h7 => ?_)
  · replace h := s_f h7 h
    refine T.iconst (q := 13) (-1) dX7_risky_12 rfl (by decide) ?_
    refine T.ist_1 (q := 14) dX7_risky_13 rfl (by decide) sk_ok_r ?_
    refine T.iconst (q := 15) (0) dX7_risky_14 rfl (by decide) ?_
    refine T.ist_2 (q := 16) dX7_risky_15 rfl (by decide) sk_ok_i ?_
    refine T.iconst (q := 17) (0) dX7_risky_16 rfl (by decide) ?_
    refine T.ist_3 (q := 18) dX7_risky_17 rfl (by decide) sk_ok_i ?_
    exact tl_X7_risky_L18  (by decide) (by decide) _ ((-1 : Int32), (0 : Int32), (0 : Int32)) h
  · replace h := s_t h7 h
    refine T.iconst (q := 11) (-1) dX7_risky_10 rfl (by decide) ?_
    exact T.retI rfl dX7_risky_11 (by decide) (by decide) ⟨h, rfl⟩
theorem tl_X7_when_L32 {G : sk_G} {cells slots : Nat} {y19 : Int32} {Q : Int32 → sk_M → Prop} {X : String → sk_M → Prop}  (hc0 : cells ≤ 2) (hs0 : slots ≤ 12) : ∀ (F : Nat) (s32 : Int32 × sk_M), lp (w_X7_when_L32 y19 Q) F s32 → TJ G mX7_when (sk_R 7 2 12) (sk_K G 2 12 (rI Q) X) cells slots 32 [some (.ref (G.2.2.1 120)), none, none, some (.int y19), some (.int s32.1), none] [] s32.2 := by
  refine lp_sound (fun c hc9 s32 h => ?_)
  unfold w_X7_when_L32 at h
  refine T.ild_4 (q := 34) dX7_when_32 rfl ?_
  refine T.bipush (q := 36) (20) dX7_when_34 rfl (by decide) ?_
  refine T.ic_gt (tgt := 73) (q := 39) dX7_when_36 (by decide) rfl (fun h36 => ?_) (fun h36 => ?_)
  · replace h := s_f (fun q => q h36) h
    refine T.iconst (q := 74) (-1) dX7_when_73 rfl (by decide) ?_
    exact T.retI rfl dX7_when_74 hc0 hs0 h
  · replace h := s_t h36 h
    refine T.ald_0 (q := 40) dX7_when_39 rfl ?_
    refine g_X7_56 rfl dX7_when_40 (q := 43) rfl ?_
    refine k_X7_270 rfl dX7_when_43 (q := 46) rfl (by decide) hc0 hs0 (Nat.le_of_ble_eq_true rfl) (t_X4_bestTurning  h) ?_
    intro r43 M43 h
    refine T.ist_5 (q := 48) dX7_when_46 rfl (by decide) sk_ok_i ?_
    refine T.ild_5 (q := 50) dX7_when_48 rfl ?_
    refine T.ild_3 (q := 51) dX7_when_50 rfl ?_
    refine T.ic_ne (tgt := 57) (q := 54) dX7_when_51 (by decide) rfl (fun h51 => ?_) (fun h51 => ?_)
    · replace h := s_f h51 h
      refine T.ald_0 (q := 58) dX7_when_57 rfl ?_
      refine g_X7_56 rfl dX7_when_58 (q := 61) rfl ?_
      refine T.ild_5 (q := 63) dX7_when_61 rfl ?_
      refine T.ild_3 (q := 64) dX7_when_63 rfl ?_
      refine k_X7_210 rfl dX7_when_64 (q := 67) rfl (by decide) hc0 hs0 (Nat.le_of_ble_eq_true rfl) (t_X4_hear  h) ?_
      intro M64 h
      refine T.inc_4 (q := 70) (1) dX7_when_67 rfl (by decide) (by decide) sk_ok_i ?_
      refine T.goto (tgt := 32) dX7_when_70 (by decide) ?_
      refine T.drop_5 ?_
      exact hc9 ((s32.1 + (1 : Int32)), M64) h
    · replace h := s_t h51 h
      refine T.ild_4 (q := 56) dX7_when_54 rfl ?_
      exact T.retI rfl dX7_when_56 hc0 hs0 h
theorem t_X7_when {G : sk_G} {M : sk_M} {a1 : Int32} {a2 : Int32}  {Q : Int32 → sk_M → Prop} {X : String → sk_M → Prop} (h : w_X7_when a1 a2 M Q X) : Ctr G mX7_when 7 2 12 [.ref (G.2.2.1 120), .int a1, .int a2] M (rI Q) X := by
  unfold w_X7_when at h
  refine Ctr.of 3 (by decide) (Nat.le_of_ble_eq_true rfl) ?_
  show TJ G mX7_when (sk_R 7 2 12) (sk_K G 2 12 (rI Q) X) 0 0 0 [some (.ref (G.2.2.1 120)), some (.int a1), some (.int a2), none, none, none] [] M
  refine T.ald_0 (q := 1) dX7_when_0 rfl ?_
  refine T.ild_1 (q := 2) dX7_when_1 rfl ?_
  refine kx_X7_160 rfl dX7_when_2 (q := 5) rfl (by decide) (by decide) (by decide) (Nat.le_of_ble_eq_true rfl) rfl (by decide) (by decide) (t_X7_needPerson  h) (by rintro e9 M9 ⟨h9, rfl⟩; exact h9) ?_
  rintro _ ⟨h, h9⟩
  obtain rfl := h9.symm
  refine T.ald_0 (q := 6) dX7_when_5 rfl ?_
  refine T.ild_2 (q := 7) dX7_when_6 rfl ?_
  refine kx_X7_126 rfl dX7_when_7 (q := 10) rfl (by decide) (by decide) (by decide) (Nat.le_of_ble_eq_true rfl) rfl (by decide) (by decide) (t_X7_needVault  h) (by rintro e9 M9 ⟨h9, rfl⟩; exact h9) ?_
  rintro _ ⟨h, h9⟩
  obtain rfl := h9.symm
  refine T.ald_0 (q := 11) dX7_when_10 rfl ?_
  refine g_X7_19 rfl dX7_when_11 (q := 14) rfl ?_
  refine g_X7_129 sk_s0 rfl dX7_when_14 (q := 17) rfl ?_
  refine T.ild_2 (q := 18) dX7_when_17 rfl ?_
  refine T.iald (sk_a1 sk_s0).1 (sk_a1 sk_s0).2.1 (sk_a1 sk_s0).2.2 dX7_when_18 (q := 19) rfl h.1 ?_
  replace h := h.2
  refine T.ist_3 (q := 20) dX7_when_19 rfl (by decide) sk_ok_i ?_
  refine S.i3 h ?_
  intro y19 h
  refine T.ald_0 (q := 21) dX7_when_20 rfl ?_
  refine g_X7_56 rfl dX7_when_21 (q := 24) rfl ?_
  refine T.ild_1 (q := 25) dX7_when_24 rfl ?_
  refine T.ild_2 (q := 26) dX7_when_25 rfl ?_
  refine k_X7_166 rfl dX7_when_26 (q := 29) rfl (by decide) (by decide) (by decide) (Nat.le_of_ble_eq_true rfl) (t_X4_load  h) ?_
  intro M26 h
  refine T.iconst (q := 30) (1) dX7_when_29 rfl (by decide) ?_
  refine T.ist_4 (q := 32) dX7_when_30 rfl (by decide) sk_ok_i ?_
  refine T.drop_1 ?_
  refine T.drop_2 ?_
  exact tl_X7_when_L32  (by decide) (by decide) _ ((1 : Int32), M26) h
theorem t_X7_needTrial {G : sk_G} {M : sk_M} {a0 : Int32}  {Q : Prop} {X : String → Prop} (h : w_X7_needTrial a0 M Q X) : Ctr G mX7_needTrial 6 1 6 [.int a0] M (rV fun M9 => Q ∧ M9 = M) (fun e9 M9 => X e9 ∧ M9 = M) := by
  unfold w_X7_needTrial at h
  refine Ctr.of 0 (by decide) (Nat.le_of_ble_eq_true rfl) ?_
  show TJ G mX7_needTrial (sk_R 6 1 6) (sk_K G 1 6 (rV fun M9 => Q ∧ M9 = M) (fun e9 M9 => X e9 ∧ M9 = M)) 0 0 0 [some (.int a0)] [] M
  refine T.ild_0 (q := 1) dX7_needTrial_0 rfl ?_
  refine T.if_lt (tgt := 10) (q := 4) dX7_needTrial_1 (by decide) rfl (fun h1 => ?_) (fun h1 => ?_)
  · replace h := s_t (Or.inl h1) h
    exact T.throwSW (cls := "java/lang/IllegalArgumentException") (names := ["java/lang/RuntimeException", "java/lang/Exception"]) (text := "a trial is of 0 to 40 days") (j := 35) tw_X7_87_91 (by decide +kernel) dX7_needTrial_10 dX7_needTrial_13 dX7_needTrial_14 dX7_needTrial_17 dX7_needTrial_20 rfl (by decide) (by decide) (by decide) (by decide) (by decide) (by decide) ⟨h, rfl⟩
  · refine T.ild_0 (q := 5) dX7_needTrial_4 rfl ?_
    refine T.bipush (q := 7) (40) dX7_needTrial_5 rfl (by decide) ?_
    refine T.ic_le (tgt := 21) (q := 10) dX7_needTrial_7 (by decide) rfl (fun h7 => ?_) (fun h7 => ?_)
    · replace h := s_f (fun q => q.elim h1 (fun q => q h7)) h
      exact T.retV rfl dX7_needTrial_21 (by decide) (by decide) ⟨h, rfl⟩
    · replace h := s_t (Or.inr h7) h
      exact T.throwSW (cls := "java/lang/IllegalArgumentException") (names := ["java/lang/RuntimeException", "java/lang/Exception"]) (text := "a trial is of 0 to 40 days") (j := 35) tw_X7_87_91 (by decide +kernel) dX7_needTrial_10 dX7_needTrial_13 dX7_needTrial_14 dX7_needTrial_17 dX7_needTrial_20 rfl (by decide) (by decide) (by decide) (by decide) (by decide) (by decide) ⟨h, rfl⟩
theorem tl_X7_leftWholeAfterwards_L17 {G : sk_G} {M : sk_M} {cells slots : Nat} {s4 : Int32 × Int32} {Q : Int32 → Prop} {k63 : Int32 → Prop}  (hc0 : cells ≤ 0) (hs0 : slots ≤ 0) (hk63 : ∀ s63 : Int32, k63 s63 → TJ G mX7_leftWholeAfterwards (sk_R 2 0 0) (sk_K G 0 0 (rI fun r9 M9 => Q r9 ∧ M9 = M) noX) cells slots 63 [some (.ref (G.2.2.1 120)), some (.int s63), some (.int s4.2), none] [] M) : ∀ (F : Nat) (s17 : Int32 × Int32), lp (w_X7_leftWholeAfterwards_L17 s4 M k63) F s17 → TJ G mX7_leftWholeAfterwards (sk_R 2 0 0) (sk_K G 0 0 (rI fun r9 M9 => Q r9 ∧ M9 = M) noX) cells slots 17 [some (.ref (G.2.2.1 120)), some (.int s17.1), some (.int s4.2), some (.int s17.2)] [] M := by
  refine lp_sound (fun c hc9 s17 h => ?_)
  unfold w_X7_leftWholeAfterwards_L17 at h
  refine T.ild_3 (q := 18) dX7_leftWholeAfterwards_17 rfl ?_
  refine T.ald_0 (q := 19) dX7_leftWholeAfterwards_18 rfl ?_
  refine g_X7_19 rfl dX7_leftWholeAfterwards_19 (q := 22) rfl ?_
  refine g_X7_289 sk_s0 rfl dX7_leftWholeAfterwards_22 (q := 25) rfl ?_
  refine T.ic_ge (tgt := 63) (q := 28) dX7_leftWholeAfterwards_25 (by decide) rfl (fun h25 => ?_) (fun h25 => ?_)
  · replace h := s_f (fun q => q h25) h
    refine T.drop_3 ?_
    exact hk63 s17.1 h
  · replace h := s_t h25 h
    refine T.ald_0 (q := 29) dX7_leftWholeAfterwards_28 rfl ?_
    refine g_X7_63 rfl dX7_leftWholeAfterwards_29 (q := 32) rfl ?_
    refine T.ild_2 (q := 33) dX7_leftWholeAfterwards_32 rfl ?_
    refine k_X7_251 rfl dX7_leftWholeAfterwards_33 (q := 36) rfl (by decide) hc0 hs0 (Nat.le_of_ble_eq_true rfl) (t_X2_hasTold  h) ?_
    rintro r33 _ ⟨h, h9⟩
    obtain rfl := h9.symm
    refine T.if_ne (tgt := 54) (q := 39) dX7_leftWholeAfterwards_36 (by decide) rfl (fun h36 => ?_) (fun h36 => ?_)
    · replace h := s_f h36 h
      refine T.inc_1 (q := 57) (1) dX7_leftWholeAfterwards_54 rfl (by decide) (by decide) sk_ok_r ?_
      refine T.inc_3 (q := 60) (1) dX7_leftWholeAfterwards_57 rfl (by decide) (by decide) sk_ok_i ?_
      refine T.goto (tgt := 17) dX7_leftWholeAfterwards_60 (by decide) ?_
      exact hc9 ((s17.1 + (1 : Int32)), (s17.2 + (1 : Int32))) h
    · replace h := s_t h36 h
      refine T.ald_0 (q := 40) dX7_leftWholeAfterwards_39 rfl ?_
      refine g_X7_19 rfl dX7_leftWholeAfterwards_40 (q := 43) rfl ?_
      refine T.ild_3 (q := 44) dX7_leftWholeAfterwards_43 rfl ?_
      refine T.ild_2 (q := 45) dX7_leftWholeAfterwards_44 rfl ?_
      refine k_X7_163 sk_s0 rfl dX7_leftWholeAfterwards_45 (q := 48) rfl (by decide) hc0 hs0 (Nat.le_of_ble_eq_true rfl) (t_X5_leftOf sk_s0 h) ?_
      rintro r45 _ ⟨h, h9⟩
      obtain rfl := h9.symm
      refine T.sipush (q := 51) (216) dX7_leftWholeAfterwards_48 rfl (by decide) ?_
      refine T.ic_ne (tgt := 57) (q := 54) dX7_leftWholeAfterwards_51 (by decide) rfl (fun h51 => ?_) (fun h51 => ?_)
      · replace h := s_f h51 h
        refine T.inc_3 (q := 60) (1) dX7_leftWholeAfterwards_57 rfl (by decide) (by decide) sk_ok_i ?_
        refine T.goto (tgt := 17) dX7_leftWholeAfterwards_60 (by decide) ?_
        exact hc9 (s17.1, (s17.2 + (1 : Int32))) h
      · replace h := s_t h51 h
        refine T.inc_1 (q := 57) (1) dX7_leftWholeAfterwards_54 rfl (by decide) (by decide) sk_ok_r ?_
        refine T.inc_3 (q := 60) (1) dX7_leftWholeAfterwards_57 rfl (by decide) (by decide) sk_ok_i ?_
        refine T.goto (tgt := 17) dX7_leftWholeAfterwards_60 (by decide) ?_
        exact hc9 ((s17.1 + (1 : Int32)), (s17.2 + (1 : Int32))) h
theorem tl_X7_leftWholeAfterwards_L4 {G : sk_G} {M : sk_M} {cells slots : Nat}  {Q : Int32 → Prop}  (hc0 : cells ≤ 0) (hs0 : slots ≤ 0) : ∀ (F : Nat) (s4 : Int32 × Int32), lp (w_X7_leftWholeAfterwards_L4 M Q) F s4 → TJ G mX7_leftWholeAfterwards (sk_R 2 0 0) (sk_K G 0 0 (rI fun r9 M9 => Q r9 ∧ M9 = M) noX) cells slots 4 [some (.ref (G.2.2.1 120)), some (.int s4.1), some (.int s4.2), none] [] M := by
  refine lp_sound (fun c hc9 s4 h => ?_)
  unfold w_X7_leftWholeAfterwards_L4 at h
  refine T.ild_2 (q := 5) dX7_leftWholeAfterwards_4 rfl ?_
  refine T.ald_0 (q := 6) dX7_leftWholeAfterwards_5 rfl ?_
  refine g_X7_19 rfl dX7_leftWholeAfterwards_6 (q := 9) rfl ?_
  refine g_X7_248 sk_s0 rfl dX7_leftWholeAfterwards_9 (q := 12) rfl ?_
  refine T.ic_ge (tgt := 69) (q := 15) dX7_leftWholeAfterwards_12 (by decide) rfl (fun h12 => ?_) (fun h12 => ?_)
  · replace h := s_f (fun q => q h12) h
    refine T.ild_1 (q := 70) dX7_leftWholeAfterwards_69 rfl ?_
    exact T.retI rfl dX7_leftWholeAfterwards_70 hc0 hs0 ⟨h, rfl⟩
  · replace h := s_t h12 h
    refine T.iconst (q := 16) (0) dX7_leftWholeAfterwards_15 rfl (by decide) ?_
    refine T.ist_3 (q := 17) dX7_leftWholeAfterwards_16 rfl (by decide) sk_ok_i ?_
    refine tl_X7_leftWholeAfterwards_L17  hc0 hs0 ?_ _ (s4.1, (0 : Int32)) h
    intro s63 h
    refine T.inc_2 (q := 66) (1) dX7_leftWholeAfterwards_63 rfl (by decide) (by decide) sk_ok_i ?_
    refine T.goto (tgt := 4) dX7_leftWholeAfterwards_66 (by decide) ?_
    exact hc9 (s63, (s4.2 + (1 : Int32))) h
theorem t_X7_leftWholeAfterwards {G : sk_G} {M : sk_M}   {Q : Int32 → Prop} (h : w_X7_leftWholeAfterwards  M Q) : Ctr G mX7_leftWholeAfterwards 2 0 0 [.ref (G.2.2.1 120)] M (rI fun r9 M9 => Q r9 ∧ M9 = M) noX := by
  unfold w_X7_leftWholeAfterwards at h
  refine Ctr.of 3 (by decide) (Nat.le_of_ble_eq_true rfl) ?_
  show TJ G mX7_leftWholeAfterwards (sk_R 2 0 0) (sk_K G 0 0 (rI fun r9 M9 => Q r9 ∧ M9 = M) noX) 0 0 0 [some (.ref (G.2.2.1 120)), none, none, none] [] M
  refine T.iconst (q := 1) (0) dX7_leftWholeAfterwards_0 rfl (by decide) ?_
  refine T.ist_1 (q := 2) dX7_leftWholeAfterwards_1 rfl (by decide) sk_ok_r ?_
  refine T.iconst (q := 3) (0) dX7_leftWholeAfterwards_2 rfl (by decide) ?_
  refine T.ist_2 (q := 4) dX7_leftWholeAfterwards_3 rfl (by decide) sk_ok_i ?_
  exact tl_X7_leftWholeAfterwards_L4  (by decide) (by decide) _ ((0 : Int32), (0 : Int32)) h
theorem t_X7_trial {G : sk_G} {M : sk_M} {a1 : Int32} {a2 : Int32}  {Q : Int32 → sk_M → Prop} {X : String → sk_M → Prop} (h : w_X7_trial a1 a2 M Q X) : Ctr G mX7_trial 7 1 6 [.ref (G.2.2.1 120), .int a1, .int a2] M (rI Q) X := by
  unfold w_X7_trial at h
  refine Ctr.of 0 (by decide) (Nat.le_of_ble_eq_true rfl) ?_
  show TJ G mX7_trial (sk_R 7 1 6) (sk_K G 1 6 (rI Q) X) 0 0 0 [some (.ref (G.2.2.1 120)), some (.int a1), some (.int a2)] [] M
  refine T.ild_1 (q := 1) dX7_trial_0 rfl ?_
  refine kx_X7_337 rfl dX7_trial_1 (q := 4) rfl (by decide) (by decide) (by decide) (Nat.le_of_ble_eq_true rfl) rfl (by decide) (by decide) (t_X7_needTrial  h) (by rintro e9 M9 ⟨h9, rfl⟩; exact h9) ?_
  rintro _ ⟨h, h9⟩
  obtain rfl := h9.symm
  refine T.ald_0 (q := 5) dX7_trial_4 rfl ?_
  refine g_X7_63 rfl dX7_trial_5 (q := 8) rfl ?_
  refine T.ald_0 (q := 9) dX7_trial_8 rfl ?_
  refine g_X7_19 rfl dX7_trial_9 (q := 12) rfl ?_
  refine T.ald_0 (q := 13) dX7_trial_12 rfl ?_
  refine g_X7_19 rfl dX7_trial_13 (q := 16) rfl ?_
  refine g_X7_241 sk_s0 rfl dX7_trial_16 (q := 19) rfl ?_
  refine T.ild_1 (q := 20) dX7_trial_19 rfl ?_
  refine k_X7_244 rfl dX7_trial_20 (q := 23) rfl (by decide) (by decide) (by decide) (Nat.le_of_ble_eq_true rfl) (t_X2_work sk_s0 h) ?_
  intro M20 h
  refine T.ild_2 (q := 24) dX7_trial_23 rfl ?_
  refine T.if_eq (tgt := 34) (q := 27) dX7_trial_24 (by decide) rfl (fun h24 => ?_) (fun h24 => ?_)
  · replace h := s_f (fun q => q h24) h
    refine T.ald_0 (q := 35) dX7_trial_34 rfl ?_
    refine g_X7_63 rfl dX7_trial_35 (q := 38) rfl ?_
    refine T.ald_0 (q := 39) dX7_trial_38 rfl ?_
    refine g_X7_19 rfl dX7_trial_39 (q := 42) rfl ?_
    refine k_X7_343 rfl dX7_trial_42 (q := 45) rfl (by decide) (by decide) (by decide) (Nat.le_of_ble_eq_true rfl) (t_X2_changedFrom sk_s0 h) ?_
    rintro r42 _ ⟨h, h9⟩
    obtain rfl := h9.symm
    exact T.retI rfl dX7_trial_45 (by decide) (by decide) h
  · replace h := s_t h24 h
    refine T.ald_0 (q := 28) dX7_trial_27 rfl ?_
    refine k_X7_340 rfl dX7_trial_28 (q := 31) rfl (by decide) (by decide) (by decide) (Nat.le_of_ble_eq_true rfl) (t_X7_leftWholeAfterwards  h) ?_
    rintro r28 _ ⟨h, h9⟩
    obtain rfl := h9.symm
    refine T.goto (tgt := 45) dX7_trial_31 (by decide) ?_
    exact T.retI rfl dX7_trial_45 (by decide) (by decide) h
theorem tl_X7_span_L9 {G : sk_G} {cells slots : Nat} {a1 : Int32} {a2 : Int32} {Q : Int32 → sk_M → Prop} {X : String → sk_M → Prop}  (hc0 : cells ≤ 1) (hs0 : slots ≤ 6) : ∀ (F : Nat) (s9 : Int32 × Int32 × sk_M), lp (w_X7_span_L9 a1 a2 Q) F s9 → TJ G mX7_span (sk_R 7 1 6) (sk_K G 1 6 (rI Q) X) cells slots 9 [some (.ref (G.2.2.1 120)), some (.int a1), some (.int a2), some (.int s9.1), some (.int s9.2.1), none] [] s9.2.2 := by
  refine lp_sound (fun c hc9 s9 h => ?_)
  unfold w_X7_span_L9 at h
  refine T.ild_4 (q := 11) dX7_span_9 rfl ?_
  refine T.bipush (q := 13) (6) dX7_span_11 rfl (by decide) ?_
  refine T.ic_gt (tgt := 79) (q := 16) dX7_span_13 (by decide) rfl (fun h13 => ?_) (fun h13 => ?_)
  · replace h := s_f (fun q => q h13) h
    refine T.ild_3 (q := 80) dX7_span_79 rfl ?_
    exact T.retI rfl dX7_span_80 hc0 hs0 h
  · replace h := s_t h13 h
    refine T.ald_0 (q := 17) dX7_span_16 rfl ?_
    refine g_X7_63 rfl dX7_span_17 (q := 20) rfl ?_
    refine T.ald_0 (q := 21) dX7_span_20 rfl ?_
    refine g_X7_19 rfl dX7_span_21 (q := 24) rfl ?_
    refine T.ild_4 (q := 26) dX7_span_24 rfl ?_
    refine T.ild_1 (q := 27) dX7_span_26 rfl ?_
    refine k_X7_244 rfl dX7_span_27 (q := 30) rfl (by decide) hc0 hs0 (Nat.le_of_ble_eq_true rfl) (t_X2_work sk_s0 h) ?_
    intro M27 h
    refine T.ald_0 (q := 31) dX7_span_30 rfl ?_
    refine g_X7_63 rfl dX7_span_31 (q := 34) rfl ?_
    refine T.ald_0 (q := 35) dX7_span_34 rfl ?_
    refine g_X7_19 rfl dX7_span_35 (q := 38) rfl ?_
    refine k_X7_343 rfl dX7_span_38 (q := 41) rfl (by decide) hc0 hs0 (Nat.le_of_ble_eq_true rfl) (t_X2_changedFrom sk_s0 h) ?_
    rintro r38 _ ⟨h, h9⟩
    obtain rfl := h9.symm
    refine k_X7_182 rfl dX7_span_41 (q := 44) rfl (by decide) hc0 hs0 (Nat.le_of_ble_eq_true rfl) (t_bc32 (P := fun r9 => r9 = (bc32 r38)) rfl) ?_
    rintro _ _ ⟨rfl, h9⟩
    obtain rfl := h9.symm
    refine T.ist_5 (q := 46) dX7_span_44 rfl (by decide) sk_ok_i ?_
    refine S.i5 h ?_
    intro y44 h
    refine T.ild_3 (q := 47) dX7_span_46 rfl ?_
    refine T.iconst (q := 48) (-1) dX7_span_47 rfl (by decide) ?_
    refine T.ic_eq (tgt := 70) (q := 51) dX7_span_48 (by decide) rfl (fun h48 => ?_) (fun h48 => ?_)
    · replace h := s_f (fun q => q h48) h
      refine T.ild_5 (q := 72) dX7_span_70 rfl ?_
      refine T.ist_3 (q := 73) dX7_span_72 rfl (by decide) sk_ok_i ?_
      refine T.inc_4 (q := 76) (1) dX7_span_73 rfl (by decide) (by decide) sk_ok_i ?_
      refine T.goto (tgt := 9) dX7_span_76 (by decide) ?_
      refine T.drop_5 ?_
      exact hc9 (y44, (s9.2.1 + (1 : Int32)), M27) h
    · replace h := s_t h48 h
      refine T.ild_2 (q := 52) dX7_span_51 rfl ?_
      refine T.if_eq (tgt := 64) (q := 55) dX7_span_52 (by decide) rfl (fun h52 => ?_) (fun h52 => ?_)
      · replace h := s_f (fun q => q h52) h
        refine T.ild_5 (q := 66) dX7_span_64 rfl ?_
        refine T.ild_3 (q := 67) dX7_span_66 rfl ?_
        refine T.ic_ge (tgt := 73) (q := 70) dX7_span_67 (by decide) rfl (fun h67 => ?_) (fun h67 => ?_)
        · replace h := s_f (fun q => q h67) h
          refine T.inc_4 (q := 76) (1) dX7_span_73 rfl (by decide) (by decide) sk_ok_i ?_
          refine T.goto (tgt := 9) dX7_span_76 (by decide) ?_
          refine T.drop_5 ?_
          exact hc9 (s9.1, (s9.2.1 + (1 : Int32)), M27) h
        · replace h := s_t h67 h
          refine T.ild_5 (q := 72) dX7_span_70 rfl ?_
          refine T.ist_3 (q := 73) dX7_span_72 rfl (by decide) sk_ok_i ?_
          refine T.inc_4 (q := 76) (1) dX7_span_73 rfl (by decide) (by decide) sk_ok_i ?_
          refine T.goto (tgt := 9) dX7_span_76 (by decide) ?_
          refine T.drop_5 ?_
          exact hc9 (y44, (s9.2.1 + (1 : Int32)), M27) h
      · replace h := s_t h52 h
        refine T.ild_5 (q := 57) dX7_span_55 rfl ?_
        refine T.ild_3 (q := 58) dX7_span_57 rfl ?_
        refine T.ic_le (tgt := 73) (q := 61) dX7_span_58 (by decide) rfl (fun h58 => ?_) (fun h58 => ?_)
        · replace h := s_f (fun q => q h58) h
          refine T.inc_4 (q := 76) (1) dX7_span_73 rfl (by decide) (by decide) sk_ok_i ?_
          refine T.goto (tgt := 9) dX7_span_76 (by decide) ?_
          refine T.drop_5 ?_
          exact hc9 (s9.1, (s9.2.1 + (1 : Int32)), M27) h
        · replace h := s_t h58 h
          refine T.goto (tgt := 70) dX7_span_61 (by decide) ?_
          refine T.ild_5 (q := 72) dX7_span_70 rfl ?_
          refine T.ist_3 (q := 73) dX7_span_72 rfl (by decide) sk_ok_i ?_
          refine T.inc_4 (q := 76) (1) dX7_span_73 rfl (by decide) (by decide) sk_ok_i ?_
          refine T.goto (tgt := 9) dX7_span_76 (by decide) ?_
          refine T.drop_5 ?_
          exact hc9 (y44, (s9.2.1 + (1 : Int32)), M27) h
theorem t_X7_span {G : sk_G} {M : sk_M} {a1 : Int32} {a2 : Int32}  {Q : Int32 → sk_M → Prop} {X : String → sk_M → Prop} (h : w_X7_span a1 a2 M Q X) : Ctr G mX7_span 7 1 6 [.ref (G.2.2.1 120), .int a1, .int a2] M (rI Q) X := by
  unfold w_X7_span at h
  refine Ctr.of 3 (by decide) (Nat.le_of_ble_eq_true rfl) ?_
  show TJ G mX7_span (sk_R 7 1 6) (sk_K G 1 6 (rI Q) X) 0 0 0 [some (.ref (G.2.2.1 120)), some (.int a1), some (.int a2), none, none, none] [] M
  refine T.ild_1 (q := 1) dX7_span_0 rfl ?_
  refine kx_X7_337 rfl dX7_span_1 (q := 4) rfl (by decide) (by decide) (by decide) (Nat.le_of_ble_eq_true rfl) rfl (by decide) (by decide) (t_X7_needTrial  h) (by rintro e9 M9 ⟨h9, rfl⟩; exact h9) ?_
  rintro _ ⟨h, h9⟩
  obtain rfl := h9.symm
  refine T.iconst (q := 5) (-1) dX7_span_4 rfl (by decide) ?_
  refine T.ist_3 (q := 6) dX7_span_5 rfl (by decide) sk_ok_i ?_
  refine T.iconst (q := 7) (1) dX7_span_6 rfl (by decide) ?_
  refine T.ist_4 (q := 9) dX7_span_7 rfl (by decide) sk_ok_i ?_
  exact tl_X7_span_L9  (by decide) (by decide) _ ((-1 : Int32), (1 : Int32), M) h
theorem t_X7_seed {G : sk_G} {M : sk_M} {a1 : Int32}  {Q : Int32 → sk_M → Prop} (h : w_X7_seed a1 M Q) : Ctr G mX7_seed 0 0 0 [.ref (G.2.2.1 120), .int a1] M (rI Q) noX := by
  unfold w_X7_seed at h
  refine Ctr.of 1 (by decide) (Nat.le_of_ble_eq_true rfl) ?_
  show TJ G mX7_seed (sk_R 0 0 0) (sk_K G 0 0 (rI Q) noX) 0 0 0 [some (.ref (G.2.2.1 120)), some (.int a1), none] [] M
  refine T.ald_0 (q := 1) dX7_seed_0 rfl ?_
  refine g_X7_19 rfl dX7_seed_1 (q := 4) rfl ?_
  refine g_X7_241 sk_s0 rfl dX7_seed_4 (q := 7) rfl ?_
  refine T.ist_2 (q := 8) dX7_seed_7 rfl (by decide) sk_ok_i ?_
  refine S.i2 h ?_
  intro y7 h
  refine T.ald_0 (q := 9) dX7_seed_8 rfl ?_
  refine g_X7_19 rfl dX7_seed_9 (q := 12) rfl ?_
  refine T.ild_1 (q := 13) dX7_seed_12 rfl ?_
  refine p_X7_241 sk_s0 rfl dX7_seed_13 (q := 16) rfl ?_
  refine S.mem h ?_
  intro M13 h
  refine T.ild_2 (q := 17) dX7_seed_16 rfl ?_
  exact T.retI rfl dX7_seed_17 (by decide) (by decide) h
theorem t_X7_undo {G : sk_G} {M : sk_M}   {Q : Int32 → sk_M → Prop} (h : w_X7_undo  M Q) : Ctr G mX7_undo 3 0 0 [.ref (G.2.2.1 120)] M (rI Q) noX := by
  unfold w_X7_undo at h
  refine Ctr.of 0 (by decide) (Nat.le_of_ble_eq_true rfl) ?_
  show TJ G mX7_undo (sk_R 3 0 0) (sk_K G 0 0 (rI Q) noX) 0 0 0 [some (.ref (G.2.2.1 120))] [] M
  refine T.ald_0 (q := 1) dX7_undo_0 rfl ?_
  refine g_X7_29 rfl dX7_undo_1 (q := 4) rfl ?_
  refine T.ald_0 (q := 5) dX7_undo_4 rfl ?_
  refine g_X7_19 rfl dX7_undo_5 (q := 8) rfl ?_
  refine k_X7_349 rfl dX7_undo_8 (q := 11) rfl (by decide) (by decide) (by decide) (Nat.le_of_ble_eq_true rfl) (t_X3_giveBack sk_s0 h) ?_
  intro r8 M8 h
  exact T.retZ rfl dX7_undo_11 (by decide) (by decide) (nz01 h.1) h.2
theorem t_X7_image {G : sk_G} {M : sk_M}   {Q : sk_M → Prop} (h : w_X7_image  M Q) : Ctr G mX7_image 2 0 0 [.ref (G.2.2.1 120)] M (rV Q) noX := by
  unfold w_X7_image at h
  refine Ctr.of 0 (by decide) (Nat.le_of_ble_eq_true rfl) ?_
  show TJ G mX7_image (sk_R 2 0 0) (sk_K G 0 0 (rV Q) noX) 0 0 0 [some (.ref (G.2.2.1 120))] [] M
  refine T.ald_0 (q := 1) dX7_image_0 rfl ?_
  refine g_X7_23 rfl dX7_image_1 (q := 4) rfl ?_
  refine T.ald_0 (q := 5) dX7_image_4 rfl ?_
  refine g_X7_19 rfl dX7_image_5 (q := 8) rfl ?_
  refine k_X7_353 sk_s1 rfl dX7_image_8 (q := 11) rfl (by decide) (by decide) (by decide) (Nat.le_of_ble_eq_true rfl) (t_X5_copyFrom sk_s1 sk_s0 h) ?_
  intro M8 h
  refine T.ald_0 (q := 12) dX7_image_11 rfl ?_
  refine T.iconst (q := 13) (1) dX7_image_12 rfl (by decide) ?_
  refine p_X7_67 (Or.inr rfl) rfl dX7_image_13 (q := 16) rfl ?_
  refine S.mem h ?_
  intro M13 h
  exact T.retV rfl dX7_image_16 (by decide) (by decide) h
theorem t_X7_back {G : sk_G} {M : sk_M}   {Q : Int32 → sk_M → Prop} (h : w_X7_back  M Q) : Ctr G mX7_back 2 0 0 [.ref (G.2.2.1 120)] M (rI Q) noX := by
  unfold w_X7_back at h
  refine Ctr.of 0 (by decide) (Nat.le_of_ble_eq_true rfl) ?_
  show TJ G mX7_back (sk_R 2 0 0) (sk_K G 0 0 (rI Q) noX) 0 0 0 [some (.ref (G.2.2.1 120))] [] M
  refine T.ald_0 (q := 1) dX7_back_0 rfl ?_
  refine g_X7_67 rfl dX7_back_1 (q := 4) rfl ?_
  refine T.if_ne (tgt := 9) (q := 7) dX7_back_4 (by decide) rfl (fun h4 => ?_) (fun h4 => ?_)
  · replace h := s_f h4 h
    refine T.ald_0 (q := 10) dX7_back_9 rfl ?_
    refine g_X7_19 rfl dX7_back_10 (q := 13) rfl ?_
    refine T.ald_0 (q := 14) dX7_back_13 rfl ?_
    refine g_X7_23 rfl dX7_back_14 (q := 17) rfl ?_
    refine k_X7_353 sk_s0 rfl dX7_back_17 (q := 20) rfl (by decide) (by decide) (by decide) (Nat.le_of_ble_eq_true rfl) (t_X5_copyFrom sk_s0 sk_s1 h) ?_
    intro M17 h
    refine T.ald_0 (q := 21) dX7_back_20 rfl ?_
    refine g_X7_29 rfl dX7_back_21 (q := 24) rfl ?_
    refine k_X7_105 rfl dX7_back_24 (q := 27) rfl (by decide) (by decide) (by decide) (Nat.le_of_ble_eq_true rfl) (t_X3_clear  h) ?_
    intro M24 h
    refine T.iconst (q := 28) (1) dX7_back_27 rfl (by decide) ?_
    exact T.retZ rfl dX7_back_28 (by decide) (by decide) rfl h
  · replace h := s_t h4 h
    refine T.iconst (q := 8) (0) dX7_back_7 rfl (by decide) ?_
    exact T.retZ rfl dX7_back_8 (by decide) (by decide) rfl h
theorem t_X7_count {G : sk_G} {M : sk_M} {a1 : Int32}  {Q : Int32 → Prop} (h : w_X7_count a1 M Q) : Ctr G mX7_count 2 0 0 [.ref (G.2.2.1 120), .int a1] M (rI fun r9 M9 => Q r9 ∧ M9 = M) noX := by
  unfold w_X7_count at h
  refine Ctr.of 0 (by decide) (Nat.le_of_ble_eq_true rfl) ?_
  show TJ G mX7_count (sk_R 2 0 0) (sk_K G 0 0 (rI fun r9 M9 => Q r9 ∧ M9 = M) noX) 0 0 0 [some (.ref (G.2.2.1 120)), some (.int a1)] [] M
  refine T.ild_1 (q := 1) dX7_count_0 rfl ?_
  by_cases e0 : a1 = 0
  · replace h := s_t e0 h
    refine T.swIn (tgt := 68) (off := 67) dX7_count_1 (by rw [e0]; decide) (by rw [e0]; decide) (by rw [e0]; rfl) (by decide) ?_
    refine T.ald_0 (q := 69) dX7_count_68 rfl ?_
    refine g_X7_19 rfl dX7_count_69 (q := 72) rfl ?_
    refine g_X7_248 sk_s0 rfl dX7_count_72 (q := 75) rfl ?_
    exact T.retI rfl dX7_count_75 (by decide) (by decide) ⟨h, rfl⟩
  replace h := s_f e0 h
  by_cases e1 : a1 = 1
  · replace h := s_t e1 h
    refine T.swIn (tgt := 76) (off := 75) dX7_count_1 (by rw [e1]; decide) (by rw [e1]; decide) (by rw [e1]; rfl) (by decide) ?_
    refine T.ald_0 (q := 77) dX7_count_76 rfl ?_
    refine g_X7_19 rfl dX7_count_77 (q := 80) rfl ?_
    refine g_X7_289 sk_s0 rfl dX7_count_80 (q := 83) rfl ?_
    exact T.retI rfl dX7_count_83 (by decide) (by decide) ⟨h, rfl⟩
  replace h := s_f e1 h
  by_cases e2 : a1 = 2
  · replace h := s_t e2 h
    refine T.swIn (tgt := 84) (off := 83) dX7_count_1 (by rw [e2]; decide) (by rw [e2]; decide) (by rw [e2]; rfl) (by decide) ?_
    refine T.ald_0 (q := 85) dX7_count_84 rfl ?_
    refine g_X7_19 rfl dX7_count_85 (q := 88) rfl ?_
    refine g_X7_295 sk_s0 rfl dX7_count_88 (q := 91) rfl ?_
    exact T.retI rfl dX7_count_91 (by decide) (by decide) ⟨h, rfl⟩
  replace h := s_f e2 h
  by_cases e3 : a1 = 3
  · replace h := s_t e3 h
    refine T.swIn (tgt := 92) (off := 91) dX7_count_1 (by rw [e3]; decide) (by rw [e3]; decide) (by rw [e3]; rfl) (by decide) ?_
    refine T.ald_0 (q := 93) dX7_count_92 rfl ?_
    refine g_X7_19 rfl dX7_count_93 (q := 96) rfl ?_
    refine g_X7_94 sk_s0 rfl dX7_count_96 (q := 99) rfl ?_
    exact T.retI rfl dX7_count_99 (by decide) (by decide) ⟨h, rfl⟩
  replace h := s_f e3 h
  by_cases e4 : a1 = 4
  · replace h := s_t e4 h
    refine T.swIn (tgt := 100) (off := 99) dX7_count_1 (by rw [e4]; decide) (by rw [e4]; decide) (by rw [e4]; rfl) (by decide) ?_
    refine T.ald_0 (q := 101) dX7_count_100 rfl ?_
    refine g_X7_19 rfl dX7_count_101 (q := 104) rfl ?_
    refine g_X7_120 sk_s0 rfl dX7_count_104 (q := 107) rfl ?_
    exact T.retI rfl dX7_count_107 (by decide) (by decide) ⟨h, rfl⟩
  replace h := s_f e4 h
  by_cases e5 : a1 = 5
  · replace h := s_t e5 h
    refine T.swIn (tgt := 108) (off := 107) dX7_count_1 (by rw [e5]; decide) (by rw [e5]; decide) (by rw [e5]; rfl) (by decide) ?_
    refine T.ald_0 (q := 109) dX7_count_108 rfl ?_
    refine g_X7_19 rfl dX7_count_109 (q := 112) rfl ?_
    refine g_X7_145 sk_s0 rfl dX7_count_112 (q := 115) rfl ?_
    exact T.retI rfl dX7_count_115 (by decide) (by decide) ⟨h, rfl⟩
  replace h := s_f e5 h
  by_cases e6 : a1 = 6
  · replace h := s_t e6 h
    refine T.swIn (tgt := 116) (off := 115) dX7_count_1 (by rw [e6]; decide) (by rw [e6]; decide) (by rw [e6]; rfl) (by decide) ?_
    refine T.ald_0 (q := 117) dX7_count_116 rfl ?_
    refine g_X7_19 rfl dX7_count_117 (q := 120) rfl ?_
    refine g_X7_356 sk_s0 rfl dX7_count_120 (q := 123) rfl ?_
    exact T.retI rfl dX7_count_123 (by decide) (by decide) ⟨h, rfl⟩
  replace h := s_f e6 h
  by_cases e7 : a1 = 7
  · replace h := s_t e7 h
    refine T.swIn (tgt := 124) (off := 123) dX7_count_1 (by rw [e7]; decide) (by rw [e7]; decide) (by rw [e7]; rfl) (by decide) ?_
    refine T.ald_0 (q := 125) dX7_count_124 rfl ?_
    refine g_X7_19 rfl dX7_count_125 (q := 128) rfl ?_
    refine g_X7_138 sk_s0 rfl dX7_count_128 (q := 131) rfl ?_
    exact T.retI rfl dX7_count_131 (by decide) (by decide) ⟨h, rfl⟩
  replace h := s_f e7 h
  by_cases e8 : a1 = 8
  · replace h := s_t e8 h
    refine T.swIn (tgt := 132) (off := 131) dX7_count_1 (by rw [e8]; decide) (by rw [e8]; decide) (by rw [e8]; rfl) (by decide) ?_
    refine T.ald_0 (q := 133) dX7_count_132 rfl ?_
    refine g_X7_19 rfl dX7_count_133 (q := 136) rfl ?_
    refine k_X7_359 sk_s0 rfl dX7_count_136 (q := 139) rfl (by decide) (by decide) (by decide) (Nat.le_of_ble_eq_true rfl) (t_X5_guardedToday sk_s0 h) ?_
    rintro r136 _ ⟨h, h9⟩
    obtain rfl := h9.symm
    exact T.retI rfl dX7_count_139 (by decide) (by decide) ⟨h, rfl⟩
  replace h := s_f e8 h
  by_cases e9 : a1 = 9
  · replace h := s_t e9 h
    refine T.swIn (tgt := 140) (off := 139) dX7_count_1 (by rw [e9]; decide) (by rw [e9]; decide) (by rw [e9]; rfl) (by decide) ?_
    refine T.ald_0 (q := 141) dX7_count_140 rfl ?_
    refine g_X7_19 rfl dX7_count_141 (q := 144) rfl ?_
    refine g_X7_331 sk_s0 rfl dX7_count_144 (q := 147) rfl ?_
    exact T.retI rfl dX7_count_147 (by decide) (by decide) ⟨h, rfl⟩
  replace h := s_f e9 h
  by_cases e10 : a1 = 10
  · replace h := s_t e10 h
    refine T.swIn (tgt := 148) (off := 147) dX7_count_1 (by rw [e10]; decide) (by rw [e10]; decide) (by rw [e10]; rfl) (by decide) ?_
    refine T.ald_0 (q := 149) dX7_count_148 rfl ?_
    refine g_X7_19 rfl dX7_count_149 (q := 152) rfl ?_
    refine g_X7_234 sk_s0 rfl dX7_count_152 (q := 155) rfl ?_
    exact T.retI rfl dX7_count_155 (by decide) (by decide) ⟨h, rfl⟩
  replace h := s_f e10 h
  by_cases e11 : a1 = 11
  · replace h := s_t e11 h
    refine T.swIn (tgt := 156) (off := 155) dX7_count_1 (by rw [e11]; decide) (by rw [e11]; decide) (by rw [e11]; rfl) (by decide) ?_
    refine T.ald_0 (q := 157) dX7_count_156 rfl ?_
    refine g_X7_19 rfl dX7_count_157 (q := 160) rfl ?_
    refine k_X7_362 sk_s0 rfl dX7_count_160 (q := 163) rfl (by decide) (by decide) (by decide) (Nat.le_of_ble_eq_true rfl) (t_X5_worthOfAll sk_s0 h) ?_
    rintro r160 _ ⟨h, h9⟩
    obtain rfl := h9.symm
    exact T.retI rfl dX7_count_163 (by decide) (by decide) ⟨h, rfl⟩
  replace h := s_f e11 h
  by_cases e12 : a1 = 12
  · replace h := s_t e12 h
    refine T.swIn (tgt := 164) (off := 163) dX7_count_1 (by rw [e12]; decide) (by rw [e12]; decide) (by rw [e12]; rfl) (by decide) ?_
    refine T.ald_0 (q := 165) dX7_count_164 rfl ?_
    refine g_X7_29 rfl dX7_count_165 (q := 168) rfl ?_
    refine g_X7_365 rfl dX7_count_168 (q := 171) rfl ?_
    exact T.retI rfl dX7_count_171 (by decide) (by decide) ⟨h, rfl⟩
  replace h := s_f e12 h
  refine T.swOut (tgt := 172) dX7_count_1 (sw_0_12 e0 e1 e2 e3 e4 e5 e6 e7 e8 e9 e10 e11 e12) (by decide) ?_
  refine T.iconst (q := 173) (-1) dX7_count_172 rfl (by decide) ?_
  exact T.retI rfl dX7_count_173 (by decide) (by decide) ⟨h, rfl⟩
