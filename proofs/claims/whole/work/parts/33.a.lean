/-! the reference, decompiled -/
theorem t_J6_numberOfTrailingZeros_0f7a4 {G : sk_G} {M : sk_M} {a0 : Int32}  {P : Int32 → Prop} (h : P (f_J6_numberOfTrailingZeros_0f7a4 a0)) : Ctr G mJ6_numberOfTrailingZeros_0f7a4 0 0 0 [.int a0] M (rI fun r9 M9 => P r9 ∧ M9 = M) noX := by
  unfold f_J6_numberOfTrailingZeros_0f7a4 at h
  refine Ctr.of 1 (by decide) (Nat.le_of_ble_eq_true rfl) ?_
  show TJ G mJ6_numberOfTrailingZeros_0f7a4 (sk_R 0 0 0) (sk_K G 0 0 (rI fun r9 M9 => P r9 ∧ M9 = M) noX) 0 0 0 [some (.int a0), none] [] M
  refine T.ild_0 (q := 1) dJ6_numberOfTrailingZeros_0f7a4_0 rfl ?_
  refine T.iconst (q := 2) (-1) dJ6_numberOfTrailingZeros_0f7a4_1 rfl (by decide) ?_
  refine T.ixor (q := 3) dJ6_numberOfTrailingZeros_0f7a4_2 rfl ?_
  refine T.ild_0 (q := 4) dJ6_numberOfTrailingZeros_0f7a4_3 rfl ?_
  refine T.iconst (q := 5) (1) dJ6_numberOfTrailingZeros_0f7a4_4 rfl (by decide) ?_
  refine T.isub (q := 6) dJ6_numberOfTrailingZeros_0f7a4_5 rfl ?_
  refine T.iand (q := 7) dJ6_numberOfTrailingZeros_0f7a4_6 rfl ?_
  refine T.ist_0 (q := 8) dJ6_numberOfTrailingZeros_0f7a4_7 rfl (by decide) ?_
  refine S.i0T h ?_
  intro y7 h
  refine T.ild_0 (q := 9) dJ6_numberOfTrailingZeros_0f7a4_8 rfl ?_
  refine T.if_gt (tgt := 17) (q := 12) dJ6_numberOfTrailingZeros_0f7a4_9 (by decide) rfl (fun h9 => ?_) (fun h9 => ?_)
  · replace h := s_fP (fun q => q h9) h
    refine T.iconst (q := 18) (1) dJ6_numberOfTrailingZeros_0f7a4_17 rfl (by decide) ?_
    refine T.ist_1 (q := 19) dJ6_numberOfTrailingZeros_0f7a4_18 rfl (by decide) sk_ok_i ?_
    refine T.ild_0 (q := 20) dJ6_numberOfTrailingZeros_0f7a4_19 rfl ?_
    refine T.ldcw (q := 23) (65536) dJ6_numberOfTrailingZeros_0f7a4_20 rfl w_J6_c264 ?_
    refine s_diaT (fun s34_23 : Int32 × Int32 => TJ G mJ6_numberOfTrailingZeros_0f7a4 (sk_R 0 0 0) (sk_K G 0 0 (rI fun r9 M9 => P r9 ∧ M9 = M) noX) 0 0 34 [some (.int s34_23.1), some (.int s34_23.2)] [] M) h (fun s34_23 h => ?_) (fun k9 hJ9 h => ?_)
    · refine T.ild_0 (q := 35) dJ6_numberOfTrailingZeros_0f7a4_34 rfl ?_
      refine T.sipush (q := 38) (256) dJ6_numberOfTrailingZeros_0f7a4_35 rfl (by decide) ?_
      refine s_diaT (fun s49_38 : Int32 × Int32 => TJ G mJ6_numberOfTrailingZeros_0f7a4 (sk_R 0 0 0) (sk_K G 0 0 (rI fun r9 M9 => P r9 ∧ M9 = M) noX) 0 0 49 [some (.int s49_38.1), some (.int s49_38.2)] [] M) h (fun s49_38 h => ?_) (fun k9 hJ9 h => ?_)
      · refine T.ild_0 (q := 50) dJ6_numberOfTrailingZeros_0f7a4_49 rfl ?_
        refine T.bipush (q := 52) (16) dJ6_numberOfTrailingZeros_0f7a4_50 rfl (by decide) ?_
        refine s_diaT (fun s62_52 : Int32 × Int32 => TJ G mJ6_numberOfTrailingZeros_0f7a4 (sk_R 0 0 0) (sk_K G 0 0 (rI fun r9 M9 => P r9 ∧ M9 = M) noX) 0 0 62 [some (.int s62_52.1), some (.int s62_52.2)] [] M) h (fun s62_52 h => ?_) (fun k9 hJ9 h => ?_)
        · refine T.ild_0 (q := 63) dJ6_numberOfTrailingZeros_0f7a4_62 rfl ?_
          refine T.iconst (q := 64) (4) dJ6_numberOfTrailingZeros_0f7a4_63 rfl (by decide) ?_
          refine T.ic_le (tgt := 74) (q := 67) dJ6_numberOfTrailingZeros_0f7a4_64 (by decide) rfl (fun h64 => ?_) (fun h64 => ?_)
          · replace h := s_fP (fun q => q h64) h
            refine T.ild_1 (q := 75) dJ6_numberOfTrailingZeros_0f7a4_74 rfl ?_
            refine T.ild_0 (q := 76) dJ6_numberOfTrailingZeros_0f7a4_75 rfl ?_
            refine T.iconst (q := 77) (1) dJ6_numberOfTrailingZeros_0f7a4_76 rfl (by decide) ?_
            refine T.iushr (q := 78) dJ6_numberOfTrailingZeros_0f7a4_77 rfl ?_
            refine T.iadd (q := 79) dJ6_numberOfTrailingZeros_0f7a4_78 rfl ?_
            exact T.retI rfl dJ6_numberOfTrailingZeros_0f7a4_79 (by decide) (by decide) ⟨h, rfl⟩
          · replace h := s_tP h64 h
            refine T.inc_1 (q := 70) (2) dJ6_numberOfTrailingZeros_0f7a4_67 rfl (by decide) (by decide) sk_ok_i ?_
            refine T.ild_0 (q := 71) dJ6_numberOfTrailingZeros_0f7a4_70 rfl ?_
            refine T.iconst (q := 72) (2) dJ6_numberOfTrailingZeros_0f7a4_71 rfl (by decide) ?_
            refine T.iushr (q := 73) dJ6_numberOfTrailingZeros_0f7a4_72 rfl ?_
            refine T.ist_0 (q := 74) dJ6_numberOfTrailingZeros_0f7a4_73 rfl (by decide) ?_
            refine S.i0T h ?_
            intro y73 h
            refine T.ild_1 (q := 75) dJ6_numberOfTrailingZeros_0f7a4_74 rfl ?_
            refine T.ild_0 (q := 76) dJ6_numberOfTrailingZeros_0f7a4_75 rfl ?_
            refine T.iconst (q := 77) (1) dJ6_numberOfTrailingZeros_0f7a4_76 rfl (by decide) ?_
            refine T.iushr (q := 78) dJ6_numberOfTrailingZeros_0f7a4_77 rfl ?_
            refine T.iadd (q := 79) dJ6_numberOfTrailingZeros_0f7a4_78 rfl ?_
            exact T.retI rfl dJ6_numberOfTrailingZeros_0f7a4_79 (by decide) (by decide) ⟨h, rfl⟩
        · refine T.ic_le (tgt := 62) (q := 55) dJ6_numberOfTrailingZeros_0f7a4_52 (by decide) rfl (fun h52 => ?_) (fun h52 => ?_)
          · replace h := s_fk (fun q => q h52) h
            exact hJ9 _ h
          · replace h := s_tk h52 h
            refine T.inc_1 (q := 58) (4) dJ6_numberOfTrailingZeros_0f7a4_55 rfl (by decide) (by decide) sk_ok_i ?_
            refine T.ild_0 (q := 59) dJ6_numberOfTrailingZeros_0f7a4_58 rfl ?_
            refine T.iconst (q := 60) (4) dJ6_numberOfTrailingZeros_0f7a4_59 rfl (by decide) ?_
            refine T.iushr (q := 61) dJ6_numberOfTrailingZeros_0f7a4_60 rfl ?_
            refine T.ist_0 (q := 62) dJ6_numberOfTrailingZeros_0f7a4_61 rfl (by decide) ?_
            exact hJ9 _ h
      · refine T.ic_le (tgt := 49) (q := 41) dJ6_numberOfTrailingZeros_0f7a4_38 (by decide) rfl (fun h38 => ?_) (fun h38 => ?_)
        · replace h := s_fk (fun q => q h38) h
          exact hJ9 _ h
        · replace h := s_tk h38 h
          refine T.inc_1 (q := 44) (8) dJ6_numberOfTrailingZeros_0f7a4_41 rfl (by decide) (by decide) sk_ok_i ?_
          refine T.ild_0 (q := 45) dJ6_numberOfTrailingZeros_0f7a4_44 rfl ?_
          refine T.bipush (q := 47) (8) dJ6_numberOfTrailingZeros_0f7a4_45 rfl (by decide) ?_
          refine T.iushr (q := 48) dJ6_numberOfTrailingZeros_0f7a4_47 rfl ?_
          refine T.ist_0 (q := 49) dJ6_numberOfTrailingZeros_0f7a4_48 rfl (by decide) ?_
          exact hJ9 _ h
    · refine T.ic_le (tgt := 34) (q := 26) dJ6_numberOfTrailingZeros_0f7a4_23 (by decide) rfl (fun h23 => ?_) (fun h23 => ?_)
      · replace h := s_fk (fun q => q h23) h
        exact hJ9 _ h
      · replace h := s_tk h23 h
        refine T.inc_1 (q := 29) (16) dJ6_numberOfTrailingZeros_0f7a4_26 rfl (by decide) (by decide) sk_ok_i ?_
        refine T.ild_0 (q := 30) dJ6_numberOfTrailingZeros_0f7a4_29 rfl ?_
        refine T.bipush (q := 32) (16) dJ6_numberOfTrailingZeros_0f7a4_30 rfl (by decide) ?_
        refine T.iushr (q := 33) dJ6_numberOfTrailingZeros_0f7a4_32 rfl ?_
        refine T.ist_0 (q := 34) dJ6_numberOfTrailingZeros_0f7a4_33 rfl (by decide) ?_
        exact hJ9 _ h
  · replace h := s_tP h9 h
    refine T.ild_0 (q := 13) dJ6_numberOfTrailingZeros_0f7a4_12 rfl ?_
    refine T.bipush (q := 15) (32) dJ6_numberOfTrailingZeros_0f7a4_13 rfl (by decide) ?_
    refine T.iand (q := 16) dJ6_numberOfTrailingZeros_0f7a4_15 rfl ?_
    exact T.retI rfl dJ6_numberOfTrailingZeros_0f7a4_16 (by decide) (by decide) ⟨h, rfl⟩
theorem t_X8_thrown {G : sk_G} {M : sk_M}   {P : Int32 → Prop} (h : P (f_X8_thrown  M)) : Ctr G mX8_thrown 0 0 0 [.ref (G.2.2.1 140)] M (rI fun r9 M9 => P r9 ∧ M9 = M) noX := by
  unfold f_X8_thrown at h
  refine Ctr.of 0 (by decide) (Nat.le_of_ble_eq_true rfl) ?_
  show TJ G mX8_thrown (sk_R 0 0 0) (sk_K G 0 0 (rI fun r9 M9 => P r9 ∧ M9 = M) noX) 0 0 0 [some (.ref (G.2.2.1 140))] [] M
  refine T.ald_0 (q := 1) dX8_thrown_0 rfl ?_
  refine g_X8_3 rfl dX8_thrown_1 (q := 4) rfl ?_
  exact T.retI rfl dX8_thrown_4 (by decide) (by decide) ⟨h, rfl⟩
theorem t_X8_throwsIf {G : sk_G} {M : sk_M} {a1 : Int32} {a2 : Int32}  {Q : Int32 → sk_M → Prop} (h : w_X8_throwsIf a1 a2 M Q) : Ctr G mX8_throwsIf 0 0 0 [.ref (G.2.2.1 140), .int a1, .int a2] M (rI Q) noX := by
  unfold w_X8_throwsIf at h
  refine Ctr.of 0 (by decide) (Nat.le_of_ble_eq_true rfl) ?_
  show TJ G mX8_throwsIf (sk_R 0 0 0) (sk_K G 0 0 (rI Q) noX) 0 0 0 [some (.ref (G.2.2.1 140)), some (.int a1), some (.int a2)] [] M
  refine T.ild_1 (q := 1) dX8_throwsIf_0 rfl ?_
  refine T.if_eq (tgt := 9) (q := 4) dX8_throwsIf_1 (by decide) rfl (fun h1 => ?_) (fun h1 => ?_)
  · replace h := s_f (fun q => q h1) h
    refine T.ild_1 (q := 10) dX8_throwsIf_9 rfl ?_
    exact T.retZ rfl dX8_throwsIf_10 (by decide) (by decide) (nz01 h.1) h.2
  · replace h := s_t h1 h
    refine T.ald_0 (q := 5) dX8_throwsIf_4 rfl ?_
    refine T.ild_2 (q := 6) dX8_throwsIf_5 rfl ?_
    refine p_X8_3 rfl dX8_throwsIf_6 (q := 9) rfl ?_
    refine S.mem h ?_
    intro M6 h
    refine T.ild_1 (q := 10) dX8_throwsIf_9 rfl ?_
    exact T.retZ rfl dX8_throwsIf_10 (by decide) (by decide) (nz01 h.1) h.2
theorem t_X8_in {G : sk_G} {M : sk_M} {a0 : Int32} {a1 : Int32} {a2 : Int32}  {P : Int32 → Prop} (h : P (f_X8_in a0 a1 a2)) : Ctr G mX8_in 0 0 0 [.int a0, .int a1, .int a2] M (rI fun r9 M9 => P r9 ∧ M9 = M) noX := by
  unfold f_X8_in at h
  refine Ctr.of 0 (by decide) (Nat.le_of_ble_eq_true rfl) ?_
  show TJ G mX8_in (sk_R 0 0 0) (sk_K G 0 0 (rI fun r9 M9 => P r9 ∧ M9 = M) noX) 0 0 0 [some (.int a0), some (.int a1), some (.int a2)] [] M
  refine T.ild_0 (q := 1) dX8_in_0 rfl ?_
  refine T.ild_1 (q := 2) dX8_in_1 rfl ?_
  refine T.ic_lt (tgt := 14) (q := 5) dX8_in_2 (by decide) rfl (fun h2 => ?_) (fun h2 => ?_)
  · replace h := s_fP (fun q => q.1 h2) h
    refine T.iconst (q := 15) (0) dX8_in_14 rfl (by decide) ?_
    exact T.retZ rfl dX8_in_15 (by decide) (by decide) rfl ⟨h, rfl⟩
  · refine T.ild_0 (q := 6) dX8_in_5 rfl ?_
    refine T.ild_2 (q := 7) dX8_in_6 rfl ?_
    refine T.ic_gt (tgt := 14) (q := 10) dX8_in_7 (by decide) rfl (fun h7 => ?_) (fun h7 => ?_)
    · replace h := s_fP (fun q => (fun q => q h7) q.2) h
      refine T.iconst (q := 15) (0) dX8_in_14 rfl (by decide) ?_
      exact T.retZ rfl dX8_in_15 (by decide) (by decide) rfl ⟨h, rfl⟩
    · replace h := s_tP ⟨h2, h7⟩ h
      refine T.iconst (q := 11) (1) dX8_in_10 rfl (by decide) ?_
      refine T.goto (tgt := 15) dX8_in_11 (by decide) ?_
      exact T.retZ rfl dX8_in_15 (by decide) (by decide) rfl ⟨h, rfl⟩
theorem t_X8_has {G : sk_G} {M : sk_M} {a0 : Int32} {a1 : Int32}  {P : Int32 → Prop} (h : P (f_X8_has a0 a1)) : Ctr G mX8_has 0 0 0 [.int a0, .int a1] M (rI fun r9 M9 => P r9 ∧ M9 = M) noX := by
  unfold f_X8_has at h
  refine Ctr.of 0 (by decide) (Nat.le_of_ble_eq_true rfl) ?_
  show TJ G mX8_has (sk_R 0 0 0) (sk_K G 0 0 (rI fun r9 M9 => P r9 ∧ M9 = M) noX) 0 0 0 [some (.int a0), some (.int a1)] [] M
  refine T.ild_0 (q := 1) dX8_has_0 rfl ?_
  refine T.ild_1 (q := 2) dX8_has_1 rfl ?_
  refine T.ishr (q := 3) dX8_has_2 rfl ?_
  refine T.iconst (q := 4) (1) dX8_has_3 rfl (by decide) ?_
  refine T.iand (q := 5) dX8_has_4 rfl ?_
  refine T.iconst (q := 6) (1) dX8_has_5 rfl (by decide) ?_
  refine T.ic_ne (tgt := 13) (q := 9) dX8_has_6 (by decide) rfl (fun h6 => ?_) (fun h6 => ?_)
  · replace h := s_fP h6 h
    refine T.iconst (q := 14) (0) dX8_has_13 rfl (by decide) ?_
    exact T.retZ rfl dX8_has_14 (by decide) (by decide) rfl ⟨h, rfl⟩
  · replace h := s_tP h6 h
    refine T.iconst (q := 10) (1) dX8_has_9 rfl (by decide) ?_
    refine T.goto (tgt := 14) dX8_has_10 (by decide) ?_
    exact T.retZ rfl dX8_has_14 (by decide) (by decide) rfl ⟨h, rfl⟩
theorem tl_X8_copies_L2 {G : sk_G} {cells slots : Nat} {c0 : Nat} {c1 : Nat} {Q : sk_M → Prop} (ha0 : sk_kd c0 = 11 ∧ sk_ln c0 = 144 ∧ c0 < 159) (ha1 : sk_kd c1 = 11 ∧ sk_ln c1 = 144 ∧ c1 < 159) (hc0 : cells ≤ 0) (hs0 : slots ≤ 0) : ∀ (F : Nat) (s2 : Int32 × sk_M), lp (w_X8_copies_L2 c0 c1 Q) F s2 → TJ G mX8_copies (sk_R 0 0 0) (sk_K G 0 0 (rV Q) noX) cells slots 2 [some (.ref (G.2.2.1 c0)), some (.ref (G.2.2.1 c1)), some (.int s2.1)] [] s2.2 := by
  refine lp_sound (fun c hc9 s2 h => ?_)
  unfold w_X8_copies_L2 at h
  refine T.ild_2 (q := 3) dX8_copies_2 rfl ?_
  refine T.sipush (q := 6) (144) dX8_copies_3 rfl (by decide) ?_
  refine T.ic_ge (tgt := 21) (q := 9) dX8_copies_6 (by decide) rfl (fun h6 => ?_) (fun h6 => ?_)
  · replace h := s_f (fun q => q h6) h
    exact T.retV rfl dX8_copies_21 hc0 hs0 h
  · replace h := s_t h6 h
    refine T.ald_1 (q := 10) dX8_copies_9 rfl ?_
    refine T.ild_2 (q := 11) dX8_copies_10 rfl ?_
    refine T.ald_0 (q := 12) dX8_copies_11 rfl ?_
    refine T.ild_2 (q := 13) dX8_copies_12 rfl ?_
    refine T.lald (ha0).1 (ha0).2.1 (ha0).2.2 dX8_copies_13 (q := 14) rfl h.1 ?_
    replace h := h.2
    refine T.last (ha1).1 (ha1).2.1 (ha1).2.2 dX8_copies_14 (q := 15) rfl h.1 ?_
    refine S.mem h.2 ?_
    intro M14 h
    refine T.inc_2 (q := 18) (1) dX8_copies_15 rfl (by decide) (by decide) sk_ok_r ?_
    refine T.goto (tgt := 2) dX8_copies_18 (by decide) ?_
    exact hc9 ((s2.1 + (1 : Int32)), M14) h
theorem t_X8_copies {G : sk_G} {M : sk_M} {c0 : Nat} {c1 : Nat} (ha0 : sk_kd c0 = 11 ∧ sk_ln c0 = 144 ∧ c0 < 159) (ha1 : sk_kd c1 = 11 ∧ sk_ln c1 = 144 ∧ c1 < 159) {Q : sk_M → Prop} (h : w_X8_copies c0 c1 M Q) : Ctr G mX8_copies 0 0 0 [.ref (G.2.2.1 c0), .ref (G.2.2.1 c1)] M (rV Q) noX := by
  unfold w_X8_copies at h
  refine Ctr.of 1 (by decide) (Nat.le_of_ble_eq_true rfl) ?_
  show TJ G mX8_copies (sk_R 0 0 0) (sk_K G 0 0 (rV Q) noX) 0 0 0 [some (.ref (G.2.2.1 c0)), some (.ref (G.2.2.1 c1)), none] [] M
  refine T.iconst (q := 1) (0) dX8_copies_0 rfl (by decide) ?_
  refine T.ist_2 (q := 2) dX8_copies_1 rfl (by decide) sk_ok_r ?_
  exact tl_X8_copies_L2 ha0 ha1 (by decide) (by decide) _ ((0 : Int32), M) h
theorem tl_X8_image_L7 {G : sk_G} {cells slots : Nat}  {Q : sk_M → Prop} {k32 : sk_M → Prop}  (hc0 : cells ≤ 0) (hs0 : slots ≤ 0) (hk32 : ∀ s32 : sk_M, k32 s32 → TJ G mX8_image (sk_R 1 0 0) (sk_K G 0 0 (rV Q) noX) cells slots 32 [some (.ref (G.2.2.1 140)), none] [] s32) : ∀ (F : Nat) (s7 : Int32 × sk_M), lp (w_X8_image_L7  k32) F s7 → TJ G mX8_image (sk_R 1 0 0) (sk_K G 0 0 (rV Q) noX) cells slots 7 [some (.ref (G.2.2.1 140)), some (.int s7.1)] [] s7.2 := by
  refine lp_sound (fun c hc9 s7 h => ?_)
  unfold w_X8_image_L7 at h
  refine T.ild_1 (q := 8) dX8_image_7 rfl ?_
  refine T.sipush (q := 11) (1411) dX8_image_8 rfl (by decide) ?_
  refine T.ic_ge (tgt := 32) (q := 14) dX8_image_11 (by decide) rfl (fun h11 => ?_) (fun h11 => ?_)
  · replace h := s_f (fun q => q h11) h
    refine T.drop_1 ?_
    exact hk32 s7.2 h
  · replace h := s_t h11 h
    refine T.ald_0 (q := 15) dX8_image_14 rfl ?_
    refine g_X8_17 rfl dX8_image_15 (q := 18) rfl ?_
    refine T.ild_1 (q := 19) dX8_image_18 rfl ?_
    refine T.ald_0 (q := 20) dX8_image_19 rfl ?_
    refine g_X8_13 rfl dX8_image_20 (q := 23) rfl ?_
    refine T.ild_1 (q := 24) dX8_image_23 rfl ?_
    refine T.iald (n := 2260) rfl rfl (by decide) dX8_image_24 (q := 25) rfl h.1 ?_
    replace h := h.2
    refine T.iast (n := 1411) rfl rfl (by decide) dX8_image_25 (q := 26) rfl h.1 ?_
    refine S.mem h.2 ?_
    intro M25 h
    refine T.inc_1 (q := 29) (1) dX8_image_26 rfl (by decide) (by decide) sk_ok_r ?_
    refine T.goto (tgt := 7) dX8_image_29 (by decide) ?_
    exact hc9 ((s7.1 + (1 : Int32)), M25) h
theorem t_X8_image {G : sk_G} {M : sk_M}   {Q : sk_M → Prop} (h : w_X8_image  M Q) : Ctr G mX8_image 1 0 0 [.ref (G.2.2.1 140)] M (rV Q) noX := by
  unfold w_X8_image at h
  refine Ctr.of 1 (by decide) (Nat.le_of_ble_eq_true rfl) ?_
  show TJ G mX8_image (sk_R 1 0 0) (sk_K G 0 0 (rV Q) noX) 0 0 0 [some (.ref (G.2.2.1 140)), none] [] M
  refine T.ald_0 (q := 1) dX8_image_0 rfl ?_
  refine T.iconst (q := 2) (0) dX8_image_1 rfl (by decide) ?_
  refine p_X8_3 rfl dX8_image_2 (q := 5) rfl ?_
  refine S.mem h ?_
  intro M2 h
  refine T.iconst (q := 6) (0) dX8_image_5 rfl (by decide) ?_
  refine T.ist_1 (q := 7) dX8_image_6 rfl (by decide) sk_ok_r ?_
  refine tl_X8_image_L7  (by decide) (by decide) ?_ _ ((0 : Int32), M2) h
  intro s32 h
  refine T.ald_0 (q := 33) dX8_image_32 rfl ?_
  refine g_X8_29 rfl dX8_image_33 (q := 36) rfl ?_
  refine T.ald_0 (q := 37) dX8_image_36 rfl ?_
  refine g_X8_33 rfl dX8_image_37 (q := 40) rfl ?_
  refine k_X8_70 rfl dX8_image_40 (q := 43) rfl (by decide) (by decide) (by decide) (Nat.le_of_ble_eq_true rfl) (t_X8_copies (⟨rfl, rfl, by decide⟩) (⟨rfl, rfl, by decide⟩) h) ?_
  intro M40 h
  refine T.ald_0 (q := 44) dX8_image_43 rfl ?_
  refine T.iconst (q := 45) (1) dX8_image_44 rfl (by decide) ?_
  refine p_X8_74 (Or.inr rfl) rfl dX8_image_45 (q := 48) rfl ?_
  refine S.mem h ?_
  intro M45 h
  exact T.retV rfl dX8_image_48 (by decide) (by decide) h
theorem tl_X8_back_L16 {G : sk_G} {cells slots : Nat}  {Q : Int32 → sk_M → Prop} {k41 : sk_M → Prop}  (hc0 : cells ≤ 0) (hs0 : slots ≤ 0) (hk41 : ∀ s41 : sk_M, k41 s41 → TJ G mX8_back (sk_R 1 0 0) (sk_K G 0 0 (rI Q) noX) cells slots 41 [some (.ref (G.2.2.1 140)), none] [] s41) : ∀ (F : Nat) (s16 : Int32 × sk_M), lp (w_X8_back_L16  k41) F s16 → TJ G mX8_back (sk_R 1 0 0) (sk_K G 0 0 (rI Q) noX) cells slots 16 [some (.ref (G.2.2.1 140)), some (.int s16.1)] [] s16.2 := by
  refine lp_sound (fun c hc9 s16 h => ?_)
  unfold w_X8_back_L16 at h
  refine T.ild_1 (q := 17) dX8_back_16 rfl ?_
  refine T.sipush (q := 20) (1411) dX8_back_17 rfl (by decide) ?_
  refine T.ic_ge (tgt := 41) (q := 23) dX8_back_20 (by decide) rfl (fun h20 => ?_) (fun h20 => ?_)
  · replace h := s_f (fun q => q h20) h
    refine T.drop_1 ?_
    exact hk41 s16.2 h
  · replace h := s_t h20 h
    refine T.ald_0 (q := 24) dX8_back_23 rfl ?_
    refine g_X8_13 rfl dX8_back_24 (q := 27) rfl ?_
    refine T.ild_1 (q := 28) dX8_back_27 rfl ?_
    refine T.ald_0 (q := 29) dX8_back_28 rfl ?_
    refine g_X8_17 rfl dX8_back_29 (q := 32) rfl ?_
    refine T.ild_1 (q := 33) dX8_back_32 rfl ?_
    refine T.iald (n := 1411) rfl rfl (by decide) dX8_back_33 (q := 34) rfl h.1 ?_
    replace h := h.2
    refine T.iast (n := 2260) rfl rfl (by decide) dX8_back_34 (q := 35) rfl h.1 ?_
    refine S.mem h.2 ?_
    intro M34 h
    refine T.inc_1 (q := 38) (1) dX8_back_35 rfl (by decide) (by decide) sk_ok_r ?_
    refine T.goto (tgt := 16) dX8_back_38 (by decide) ?_
    exact hc9 ((s16.1 + (1 : Int32)), M34) h
theorem t_X8_back {G : sk_G} {M : sk_M}   {Q : Int32 → sk_M → Prop} (h : w_X8_back  M Q) : Ctr G mX8_back 1 0 0 [.ref (G.2.2.1 140)] M (rI Q) noX := by
  unfold w_X8_back at h
  refine Ctr.of 1 (by decide) (Nat.le_of_ble_eq_true rfl) ?_
  show TJ G mX8_back (sk_R 1 0 0) (sk_K G 0 0 (rI Q) noX) 0 0 0 [some (.ref (G.2.2.1 140)), none] [] M
  refine T.ald_0 (q := 1) dX8_back_0 rfl ?_
  refine T.iconst (q := 2) (0) dX8_back_1 rfl (by decide) ?_
  refine p_X8_3 rfl dX8_back_2 (q := 5) rfl ?_
  refine S.mem h ?_
  intro M2 h
  refine T.ald_0 (q := 6) dX8_back_5 rfl ?_
  refine g_X8_74 rfl dX8_back_6 (q := 9) rfl ?_
  refine T.if_ne (tgt := 14) (q := 12) dX8_back_9 (by decide) rfl (fun h9 => ?_) (fun h9 => ?_)
  · replace h := s_f h9 h
    refine T.iconst (q := 15) (0) dX8_back_14 rfl (by decide) ?_
    refine T.ist_1 (q := 16) dX8_back_15 rfl (by decide) sk_ok_r ?_
    refine tl_X8_back_L16  (by decide) (by decide) ?_ _ ((0 : Int32), M2) h
    intro s41 h
    refine T.ald_0 (q := 42) dX8_back_41 rfl ?_
    refine g_X8_33 rfl dX8_back_42 (q := 45) rfl ?_
    refine T.ald_0 (q := 46) dX8_back_45 rfl ?_
    refine g_X8_29 rfl dX8_back_46 (q := 49) rfl ?_
    refine k_X8_70 rfl dX8_back_49 (q := 52) rfl (by decide) (by decide) (by decide) (Nat.le_of_ble_eq_true rfl) (t_X8_copies (⟨rfl, rfl, by decide⟩) (⟨rfl, rfl, by decide⟩) h) ?_
    intro M49 h
    refine T.ald_0 (q := 53) dX8_back_52 rfl ?_
    refine T.iconst (q := 54) (0) dX8_back_53 rfl (by decide) ?_
    refine p_X8_78 rfl dX8_back_54 (q := 57) rfl ?_
    refine S.mem h ?_
    intro M54 h
    refine T.iconst (q := 58) (1) dX8_back_57 rfl (by decide) ?_
    exact T.retZ rfl dX8_back_58 (by decide) (by decide) rfl h
  · replace h := s_t h9 h
    refine T.iconst (q := 13) (0) dX8_back_12 rfl (by decide) ?_
    exact T.retZ rfl dX8_back_13 (by decide) (by decide) rfl h
theorem tl_X8_remembers_L86 {G : sk_G} {cells slots : Nat}  {Q : sk_M → Prop} {k122 : sk_M → Prop}  (hc0 : cells ≤ 0) (hs0 : slots ≤ 0) (hk122 : ∀ s122 : sk_M, k122 s122 → TJ G mX8_remembers (sk_R 0 0 0) (sk_K G 0 0 (rV Q) noX) cells slots 122 [some (.ref (G.2.2.1 140)), none] [] s122) : ∀ (F : Nat) (s86 : Int32 × sk_M), lp (w_X8_remembers_L86  k122) F s86 → TJ G mX8_remembers (sk_R 0 0 0) (sk_K G 0 0 (rV Q) noX) cells slots 86 [some (.ref (G.2.2.1 140)), some (.int s86.1)] [] s86.2 := by
  refine lp_sound (fun c hc9 s86 h => ?_)
  unfold w_X8_remembers_L86 at h
  refine T.ild_1 (q := 87) dX8_remembers_86 rfl ?_
  refine T.sipush (q := 90) (562) dX8_remembers_87 rfl (by decide) ?_
  refine T.ic_ge (tgt := 122) (q := 93) dX8_remembers_90 (by decide) rfl (fun h90 => ?_) (fun h90 => ?_)
  · replace h := s_f (fun q => q h90) h
    refine T.drop_1 ?_
    exact hk122 s86.2 h
  · replace h := s_t h90 h
    refine T.ald_0 (q := 94) dX8_remembers_93 rfl ?_
    refine g_X8_26 rfl dX8_remembers_94 (q := 97) rfl ?_
    refine T.sipush (q := 100) (562) dX8_remembers_97 rfl (by decide) ?_
    refine T.ald_0 (q := 101) dX8_remembers_100 rfl ?_
    refine g_X8_78 rfl dX8_remembers_101 (q := 104) rfl ?_
    refine T.iconst (q := 105) (1) dX8_remembers_104 rfl (by decide) ?_
    refine T.isub (q := 106) dX8_remembers_105 rfl ?_
    refine T.imul (q := 107) dX8_remembers_106 rfl ?_
    refine T.ild_1 (q := 108) dX8_remembers_107 rfl ?_
    refine T.iadd (q := 109) dX8_remembers_108 rfl ?_
    refine T.ald_0 (q := 110) dX8_remembers_109 rfl ?_
    refine g_X8_13 rfl dX8_remembers_110 (q := 113) rfl ?_
    refine T.ild_1 (q := 114) dX8_remembers_113 rfl ?_
    refine T.iald (n := 2260) rfl rfl (by decide) dX8_remembers_114 (q := 115) rfl h.1 ?_
    replace h := h.2
    refine T.iast (n := 5620) rfl rfl (by decide) dX8_remembers_115 (q := 116) rfl h.1 ?_
    refine S.mem h.2 ?_
    intro M115 h
    refine T.inc_1 (q := 119) (1) dX8_remembers_116 rfl (by decide) (by decide) sk_ok_r ?_
    refine T.goto (tgt := 86) dX8_remembers_119 (by decide) ?_
    exact hc9 ((s86.1 + (1 : Int32)), M115) h
theorem tl_X8_remembers_L124 {G : sk_G} {cells slots : Nat}  {Q : sk_M → Prop}  (hc0 : cells ≤ 0) (hs0 : slots ≤ 0) : ∀ (F : Nat) (s124 : Int32 × sk_M), lp (w_X8_remembers_L124 Q) F s124 → TJ G mX8_remembers (sk_R 0 0 0) (sk_K G 0 0 (rV Q) noX) cells slots 124 [some (.ref (G.2.2.1 140)), some (.int s124.1)] [] s124.2 := by
  refine lp_sound (fun c hc9 s124 h => ?_)
  unfold w_X8_remembers_L124 at h
  refine T.ild_1 (q := 125) dX8_remembers_124 rfl ?_
  refine T.sipush (q := 128) (144) dX8_remembers_125 rfl (by decide) ?_
  refine T.ic_ge (tgt := 160) (q := 131) dX8_remembers_128 (by decide) rfl (fun h128 => ?_) (fun h128 => ?_)
  · replace h := s_f (fun q => q h128) h
    exact T.retV rfl dX8_remembers_160 hc0 hs0 h
  · replace h := s_t h128 h
    refine T.ald_0 (q := 132) dX8_remembers_131 rfl ?_
    refine g_X8_42 rfl dX8_remembers_132 (q := 135) rfl ?_
    refine T.sipush (q := 138) (144) dX8_remembers_135 rfl (by decide) ?_
    refine T.ald_0 (q := 139) dX8_remembers_138 rfl ?_
    refine g_X8_78 rfl dX8_remembers_139 (q := 142) rfl ?_
    refine T.iconst (q := 143) (1) dX8_remembers_142 rfl (by decide) ?_
    refine T.isub (q := 144) dX8_remembers_143 rfl ?_
    refine T.imul (q := 145) dX8_remembers_144 rfl ?_
    refine T.ild_1 (q := 146) dX8_remembers_145 rfl ?_
    refine T.iadd (q := 147) dX8_remembers_146 rfl ?_
    refine T.ald_0 (q := 148) dX8_remembers_147 rfl ?_
    refine g_X8_29 rfl dX8_remembers_148 (q := 151) rfl ?_
    refine T.ild_1 (q := 152) dX8_remembers_151 rfl ?_
    refine T.lald (n := 144) rfl rfl (by decide) dX8_remembers_152 (q := 153) rfl h.1 ?_
    replace h := h.2
    refine T.last (n := 1440) rfl rfl (by decide) dX8_remembers_153 (q := 154) rfl h.1 ?_
    refine S.mem h.2 ?_
    intro M153 h
    refine T.inc_1 (q := 157) (1) dX8_remembers_154 rfl (by decide) (by decide) sk_ok_r ?_
    refine T.goto (tgt := 124) dX8_remembers_157 (by decide) ?_
    exact hc9 ((s124.1 + (1 : Int32)), M153) h
theorem tl_X8_remembers_L11 {G : sk_G} {cells slots : Nat}  {Q : sk_M → Prop} {k40 : sk_M → Prop}  (hc0 : cells ≤ 0) (hs0 : slots ≤ 0) (hk40 : ∀ s40 : sk_M, k40 s40 → TJ G mX8_remembers (sk_R 0 0 0) (sk_K G 0 0 (rV Q) noX) cells slots 40 [some (.ref (G.2.2.1 140)), none] [] s40) : ∀ (F : Nat) (s11 : Int32 × sk_M), lp (w_X8_remembers_L11  k40) F s11 → TJ G mX8_remembers (sk_R 0 0 0) (sk_K G 0 0 (rV Q) noX) cells slots 11 [some (.ref (G.2.2.1 140)), some (.int s11.1)] [] s11.2 := by
  refine lp_sound (fun c hc9 s11 h => ?_)
  unfold w_X8_remembers_L11 at h
  refine T.ild_1 (q := 12) dX8_remembers_11 rfl ?_
  refine T.sipush (q := 15) (5058) dX8_remembers_12 rfl (by decide) ?_
  refine T.ic_ge (tgt := 40) (q := 18) dX8_remembers_15 (by decide) rfl (fun h15 => ?_) (fun h15 => ?_)
  · replace h := s_f (fun q => q h15) h
    refine T.drop_1 ?_
    exact hk40 s11.2 h
  · replace h := s_t h15 h
    refine T.ald_0 (q := 19) dX8_remembers_18 rfl ?_
    refine g_X8_26 rfl dX8_remembers_19 (q := 22) rfl ?_
    refine T.ild_1 (q := 23) dX8_remembers_22 rfl ?_
    refine T.ald_0 (q := 24) dX8_remembers_23 rfl ?_
    refine g_X8_26 rfl dX8_remembers_24 (q := 27) rfl ?_
    refine T.ild_1 (q := 28) dX8_remembers_27 rfl ?_
    refine T.sipush (q := 31) (562) dX8_remembers_28 rfl (by decide) ?_
    refine T.iadd (q := 32) dX8_remembers_31 rfl ?_
    refine T.iald (n := 5620) rfl rfl (by decide) dX8_remembers_32 (q := 33) rfl h.1 ?_
    replace h := h.2
    refine T.iast (n := 5620) rfl rfl (by decide) dX8_remembers_33 (q := 34) rfl h.1 ?_
    refine S.mem h.2 ?_
    intro M33 h
    refine T.inc_1 (q := 37) (1) dX8_remembers_34 rfl (by decide) (by decide) sk_ok_r ?_
    refine T.goto (tgt := 11) dX8_remembers_37 (by decide) ?_
    exact hc9 ((s11.1 + (1 : Int32)), M33) h
theorem tl_X8_remembers_L42 {G : sk_G} {cells slots : Nat}  {Q : sk_M → Prop} {k71 : sk_M → Prop}  (hc0 : cells ≤ 0) (hs0 : slots ≤ 0) (hk71 : ∀ s71 : sk_M, k71 s71 → TJ G mX8_remembers (sk_R 0 0 0) (sk_K G 0 0 (rV Q) noX) cells slots 71 [some (.ref (G.2.2.1 140)), none] [] s71) : ∀ (F : Nat) (s42 : Int32 × sk_M), lp (w_X8_remembers_L42  k71) F s42 → TJ G mX8_remembers (sk_R 0 0 0) (sk_K G 0 0 (rV Q) noX) cells slots 42 [some (.ref (G.2.2.1 140)), some (.int s42.1)] [] s42.2 := by
  refine lp_sound (fun c hc9 s42 h => ?_)
  unfold w_X8_remembers_L42 at h
  refine T.ild_1 (q := 43) dX8_remembers_42 rfl ?_
  refine T.sipush (q := 46) (1296) dX8_remembers_43 rfl (by decide) ?_
  refine T.ic_ge (tgt := 71) (q := 49) dX8_remembers_46 (by decide) rfl (fun h46 => ?_) (fun h46 => ?_)
  · replace h := s_f (fun q => q h46) h
    refine T.drop_1 ?_
    exact hk71 s42.2 h
  · replace h := s_t h46 h
    refine T.ald_0 (q := 50) dX8_remembers_49 rfl ?_
    refine g_X8_42 rfl dX8_remembers_50 (q := 53) rfl ?_
    refine T.ild_1 (q := 54) dX8_remembers_53 rfl ?_
    refine T.ald_0 (q := 55) dX8_remembers_54 rfl ?_
    refine g_X8_42 rfl dX8_remembers_55 (q := 58) rfl ?_
    refine T.ild_1 (q := 59) dX8_remembers_58 rfl ?_
    refine T.sipush (q := 62) (144) dX8_remembers_59 rfl (by decide) ?_
    refine T.iadd (q := 63) dX8_remembers_62 rfl ?_
    refine T.lald (n := 1440) rfl rfl (by decide) dX8_remembers_63 (q := 64) rfl h.1 ?_
    replace h := h.2
    refine T.last (n := 1440) rfl rfl (by decide) dX8_remembers_64 (q := 65) rfl h.1 ?_
    refine S.mem h.2 ?_
    intro M64 h
    refine T.inc_1 (q := 68) (1) dX8_remembers_65 rfl (by decide) (by decide) sk_ok_r ?_
    refine T.goto (tgt := 42) dX8_remembers_68 (by decide) ?_
    exact hc9 ((s42.1 + (1 : Int32)), M64) h
theorem t_X8_remembers {G : sk_G} {M : sk_M}   {Q : sk_M → Prop} (h : w_X8_remembers  M Q) : Ctr G mX8_remembers 0 0 0 [.ref (G.2.2.1 140)] M (rV Q) noX := by
  unfold w_X8_remembers at h
  refine Ctr.of 1 (by decide) (Nat.le_of_ble_eq_true rfl) ?_
  show TJ G mX8_remembers (sk_R 0 0 0) (sk_K G 0 0 (rV Q) noX) 0 0 0 [some (.ref (G.2.2.1 140)), none] [] M
  refine T.ald_0 (q := 1) dX8_remembers_0 rfl ?_
  refine g_X8_78 rfl dX8_remembers_1 (q := 4) rfl ?_
  refine T.bipush (q := 6) (10) dX8_remembers_4 rfl (by decide) ?_
  refine s_join (fun s84_6 : sk_M => TJ G mX8_remembers (sk_R 0 0 0) (sk_K G 0 0 (rV Q) noX) 0 0 84 [some (.ref (G.2.2.1 140)), none] [] s84_6) h (fun s84_6 h => ?_) (fun j84_6 hj84_6 h => ?_)
  · refine T.iconst (q := 85) (0) dX8_remembers_84 rfl (by decide) ?_
    refine T.ist_1 (q := 86) dX8_remembers_85 rfl (by decide) sk_ok_r ?_
    refine tl_X8_remembers_L86  (by decide) (by decide) ?_ _ ((0 : Int32), s84_6) h
    intro s122 h
    refine T.iconst (q := 123) (0) dX8_remembers_122 rfl (by decide) ?_
    refine T.ist_1 (q := 124) dX8_remembers_123 rfl (by decide) sk_ok_r ?_
    exact tl_X8_remembers_L124  (by decide) (by decide) _ ((0 : Int32), s122) h
  · refine T.ic_ne (tgt := 74) (q := 9) dX8_remembers_6 (by decide) rfl (fun h6 => ?_) (fun h6 => ?_)
    · replace h := s_f h6 h
      refine T.ald_0 (q := 75) dX8_remembers_74 rfl ?_
      refine T.dup (q := 76) dX8_remembers_75 rfl rfl ?_
      refine g_X8_78 rfl dX8_remembers_76 (q := 79) rfl ?_
      refine T.iconst (q := 80) (1) dX8_remembers_79 rfl (by decide) ?_
      refine T.iadd (q := 81) dX8_remembers_80 rfl ?_
      refine p_X8_78 rfl dX8_remembers_81 (q := 84) rfl ?_
      refine S.mem h ?_
      intro M81 h
      exact hj84_6 M81 h
    · replace h := s_t h6 h
      refine T.iconst (q := 10) (0) dX8_remembers_9 rfl (by decide) ?_
      refine T.ist_1 (q := 11) dX8_remembers_10 rfl (by decide) sk_ok_r ?_
      refine tl_X8_remembers_L11  (by decide) (by decide) ?_ _ ((0 : Int32), M) h
      intro s40 h
      refine T.iconst (q := 41) (0) dX8_remembers_40 rfl (by decide) ?_
      refine T.ist_1 (q := 42) dX8_remembers_41 rfl (by decide) sk_ok_r ?_
      refine tl_X8_remembers_L42  (by decide) (by decide) ?_ _ ((0 : Int32), s40) h
      intro s71 h
      refine T.goto (tgt := 84) dX8_remembers_71 (by decide) ?_
      exact hj84_6 s71 h
theorem tl_X8_undo_L26 {G : sk_G} {cells slots : Nat}  {Q : Int32 → sk_M → Prop} {k60 : sk_M → Prop}  (hc0 : cells ≤ 0) (hs0 : slots ≤ 0) (hk60 : ∀ s60 : sk_M, k60 s60 → TJ G mX8_undo (sk_R 0 0 0) (sk_K G 0 0 (rI Q) noX) cells slots 60 [some (.ref (G.2.2.1 140)), none] [] s60) : ∀ (F : Nat) (s26 : Int32 × sk_M), lp (w_X8_undo_L26  k60) F s26 → TJ G mX8_undo (sk_R 0 0 0) (sk_K G 0 0 (rI Q) noX) cells slots 26 [some (.ref (G.2.2.1 140)), some (.int s26.1)] [] s26.2 := by
  refine lp_sound (fun c hc9 s26 h => ?_)
  unfold w_X8_undo_L26 at h
  refine T.ild_1 (q := 27) dX8_undo_26 rfl ?_
  refine T.sipush (q := 30) (562) dX8_undo_27 rfl (by decide) ?_
  refine T.ic_ge (tgt := 60) (q := 33) dX8_undo_30 (by decide) rfl (fun h30 => ?_) (fun h30 => ?_)
  · replace h := s_f (fun q => q h30) h
    refine T.drop_1 ?_
    exact hk60 s26.2 h
  · replace h := s_t h30 h
    refine T.ald_0 (q := 34) dX8_undo_33 rfl ?_
    refine g_X8_13 rfl dX8_undo_34 (q := 37) rfl ?_
    refine T.ild_1 (q := 38) dX8_undo_37 rfl ?_
    refine T.ald_0 (q := 39) dX8_undo_38 rfl ?_
    refine g_X8_26 rfl dX8_undo_39 (q := 42) rfl ?_
    refine T.sipush (q := 45) (562) dX8_undo_42 rfl (by decide) ?_
    refine T.ald_0 (q := 46) dX8_undo_45 rfl ?_
    refine g_X8_78 rfl dX8_undo_46 (q := 49) rfl ?_
    refine T.imul (q := 50) dX8_undo_49 rfl ?_
    refine T.ild_1 (q := 51) dX8_undo_50 rfl ?_
    refine T.iadd (q := 52) dX8_undo_51 rfl ?_
    refine T.iald (n := 5620) rfl rfl (by decide) dX8_undo_52 (q := 53) rfl h.1 ?_
    replace h := h.2
    refine T.iast (n := 2260) rfl rfl (by decide) dX8_undo_53 (q := 54) rfl h.1 ?_
    refine S.mem h.2 ?_
    intro M53 h
    refine T.inc_1 (q := 57) (1) dX8_undo_54 rfl (by decide) (by decide) sk_ok_r ?_
    refine T.goto (tgt := 26) dX8_undo_57 (by decide) ?_
    exact hc9 ((s26.1 + (1 : Int32)), M53) h
theorem tl_X8_undo_L62 {G : sk_G} {cells slots : Nat}  {Q : Int32 → sk_M → Prop}  (hc0 : cells ≤ 0) (hs0 : slots ≤ 0) : ∀ (F : Nat) (s62 : Int32 × sk_M), lp (w_X8_undo_L62 Q) F s62 → TJ G mX8_undo (sk_R 0 0 0) (sk_K G 0 0 (rI Q) noX) cells slots 62 [some (.ref (G.2.2.1 140)), some (.int s62.1)] [] s62.2 := by
  refine lp_sound (fun c hc9 s62 h => ?_)
  unfold w_X8_undo_L62 at h
  refine T.ild_1 (q := 63) dX8_undo_62 rfl ?_
  refine T.sipush (q := 66) (144) dX8_undo_63 rfl (by decide) ?_
  refine T.ic_ge (tgt := 96) (q := 69) dX8_undo_66 (by decide) rfl (fun h66 => ?_) (fun h66 => ?_)
  · replace h := s_f (fun q => q h66) h
    refine T.iconst (q := 97) (1) dX8_undo_96 rfl (by decide) ?_
    exact T.retZ rfl dX8_undo_97 hc0 hs0 rfl h
  · replace h := s_t h66 h
    refine T.ald_0 (q := 70) dX8_undo_69 rfl ?_
    refine g_X8_29 rfl dX8_undo_70 (q := 73) rfl ?_
    refine T.ild_1 (q := 74) dX8_undo_73 rfl ?_
    refine T.ald_0 (q := 75) dX8_undo_74 rfl ?_
    refine g_X8_42 rfl dX8_undo_75 (q := 78) rfl ?_
    refine T.sipush (q := 81) (144) dX8_undo_78 rfl (by decide) ?_
    refine T.ald_0 (q := 82) dX8_undo_81 rfl ?_
    refine g_X8_78 rfl dX8_undo_82 (q := 85) rfl ?_
    refine T.imul (q := 86) dX8_undo_85 rfl ?_
    refine T.ild_1 (q := 87) dX8_undo_86 rfl ?_
    refine T.iadd (q := 88) dX8_undo_87 rfl ?_
    refine T.lald (n := 1440) rfl rfl (by decide) dX8_undo_88 (q := 89) rfl h.1 ?_
    replace h := h.2
    refine T.last (n := 144) rfl rfl (by decide) dX8_undo_89 (q := 90) rfl h.1 ?_
    refine S.mem h.2 ?_
    intro M89 h
    refine T.inc_1 (q := 93) (1) dX8_undo_90 rfl (by decide) (by decide) sk_ok_r ?_
    refine T.goto (tgt := 62) dX8_undo_93 (by decide) ?_
    exact hc9 ((s62.1 + (1 : Int32)), M89) h
theorem t_X8_undo {G : sk_G} {M : sk_M}   {Q : Int32 → sk_M → Prop} (h : w_X8_undo  M Q) : Ctr G mX8_undo 0 0 0 [.ref (G.2.2.1 140)] M (rI Q) noX := by
  unfold w_X8_undo at h
  refine Ctr.of 1 (by decide) (Nat.le_of_ble_eq_true rfl) ?_
  show TJ G mX8_undo (sk_R 0 0 0) (sk_K G 0 0 (rI Q) noX) 0 0 0 [some (.ref (G.2.2.1 140)), none] [] M
  refine T.ald_0 (q := 1) dX8_undo_0 rfl ?_
  refine T.iconst (q := 2) (0) dX8_undo_1 rfl (by decide) ?_
  refine p_X8_3 rfl dX8_undo_2 (q := 5) rfl ?_
  refine S.mem h ?_
  intro M2 h
  refine T.ald_0 (q := 6) dX8_undo_5 rfl ?_
  refine g_X8_78 rfl dX8_undo_6 (q := 9) rfl ?_
  refine T.if_ne (tgt := 14) (q := 12) dX8_undo_9 (by decide) rfl (fun h9 => ?_) (fun h9 => ?_)
  · replace h := s_f h9 h
    refine T.ald_0 (q := 15) dX8_undo_14 rfl ?_
    refine T.dup (q := 16) dX8_undo_15 rfl rfl ?_
    refine g_X8_78 rfl dX8_undo_16 (q := 19) rfl ?_
    refine T.iconst (q := 20) (1) dX8_undo_19 rfl (by decide) ?_
    refine T.isub (q := 21) dX8_undo_20 rfl ?_
    refine p_X8_78 rfl dX8_undo_21 (q := 24) rfl ?_
    refine S.mem h ?_
    intro M21 h
    refine T.iconst (q := 25) (0) dX8_undo_24 rfl (by decide) ?_
    refine T.ist_1 (q := 26) dX8_undo_25 rfl (by decide) sk_ok_r ?_
    refine tl_X8_undo_L26  (by decide) (by decide) ?_ _ ((0 : Int32), M21) h
    intro s60 h
    refine T.iconst (q := 61) (0) dX8_undo_60 rfl (by decide) ?_
    refine T.ist_1 (q := 62) dX8_undo_61 rfl (by decide) sk_ok_r ?_
    exact tl_X8_undo_L62  (by decide) (by decide) _ ((0 : Int32), s60) h
  · replace h := s_t h9 h
    refine T.iconst (q := 13) (0) dX8_undo_12 rfl (by decide) ?_
    exact T.retZ rfl dX8_undo_13 (by decide) (by decide) rfl h
theorem t_X8_vaults {G : sk_G} {M : sk_M}   {P : Int32 → Prop} (h : P (f_X8_vaults  M)) : Ctr G mX8_vaults 0 0 0 [.ref (G.2.2.1 140)] M (rI fun r9 M9 => P r9 ∧ M9 = M) noX := by
  unfold f_X8_vaults at h
  refine Ctr.of 0 (by decide) (Nat.le_of_ble_eq_true rfl) ?_
  show TJ G mX8_vaults (sk_R 0 0 0) (sk_K G 0 0 (rI fun r9 M9 => P r9 ∧ M9 = M) noX) 0 0 0 [some (.ref (G.2.2.1 140))] [] M
  refine T.ald_0 (q := 1) dX8_vaults_0 rfl ?_
  refine g_X8_13 rfl dX8_vaults_1 (q := 4) rfl ?_
  refine T.iconst (q := 5) (0) dX8_vaults_4 rfl (by decide) ?_
  refine T.ialdk (n := 2260) rfl rfl (by decide) dX8_vaults_5 (q := 6) rfl (k9 := 0) (by decide) ?_
  exact T.retI rfl dX8_vaults_6 (by decide) (by decide) ⟨h, rfl⟩
theorem t_X8_people {G : sk_G} {M : sk_M}   {P : Int32 → Prop} (h : P (f_X8_people  M)) : Ctr G mX8_people 0 0 0 [.ref (G.2.2.1 140)] M (rI fun r9 M9 => P r9 ∧ M9 = M) noX := by
  unfold f_X8_people at h
  refine Ctr.of 0 (by decide) (Nat.le_of_ble_eq_true rfl) ?_
  show TJ G mX8_people (sk_R 0 0 0) (sk_K G 0 0 (rI fun r9 M9 => P r9 ∧ M9 = M) noX) 0 0 0 [some (.ref (G.2.2.1 140))] [] M
  refine T.ald_0 (q := 1) dX8_people_0 rfl ?_
  refine g_X8_13 rfl dX8_people_1 (q := 4) rfl ?_
  refine T.iconst (q := 5) (1) dX8_people_4 rfl (by decide) ?_
  refine T.ialdk (n := 2260) rfl rfl (by decide) dX8_people_5 (q := 6) rfl (k9 := 1) (by decide) ?_
  exact T.retI rfl dX8_people_6 (by decide) (by decide) ⟨h, rfl⟩
theorem t_X8_contracts {G : sk_G} {M : sk_M}   {P : Int32 → Prop} (h : P (f_X8_contracts  M)) : Ctr G mX8_contracts 0 0 0 [.ref (G.2.2.1 140)] M (rI fun r9 M9 => P r9 ∧ M9 = M) noX := by
  unfold f_X8_contracts at h
  refine Ctr.of 0 (by decide) (Nat.le_of_ble_eq_true rfl) ?_
  show TJ G mX8_contracts (sk_R 0 0 0) (sk_K G 0 0 (rI fun r9 M9 => P r9 ∧ M9 = M) noX) 0 0 0 [some (.ref (G.2.2.1 140))] [] M
  refine T.ald_0 (q := 1) dX8_contracts_0 rfl ?_
  refine g_X8_13 rfl dX8_contracts_1 (q := 4) rfl ?_
  refine T.iconst (q := 5) (2) dX8_contracts_4 rfl (by decide) ?_
  refine T.ialdk (n := 2260) rfl rfl (by decide) dX8_contracts_5 (q := 6) rfl (k9 := 2) (by decide) ?_
  exact T.retI rfl dX8_contracts_6 (by decide) (by decide) ⟨h, rfl⟩
theorem t_X8_of {G : sk_G} {M : sk_M} {a1 : Int32} {a2 : Int32}  {Q : Int32 → Prop} (h : w_X8_of a1 a2 M Q) : Ctr G mX8_of 0 0 0 [.ref (G.2.2.1 140), .int a1, .int a2] M (rI fun r9 M9 => Q r9 ∧ M9 = M) noX := by
  unfold w_X8_of at h
  refine Ctr.of 0 (by decide) (Nat.le_of_ble_eq_true rfl) ?_
  show TJ G mX8_of (sk_R 0 0 0) (sk_K G 0 0 (rI fun r9 M9 => Q r9 ∧ M9 = M) noX) 0 0 0 [some (.ref (G.2.2.1 140)), some (.int a1), some (.int a2)] [] M
  refine T.ald_0 (q := 1) dX8_of_0 rfl ?_
  refine g_X8_13 rfl dX8_of_1 (q := 4) rfl ?_
  refine T.bipush (q := 6) (10) dX8_of_4 rfl (by decide) ?_
  refine T.iconst (q := 7) (4) dX8_of_6 rfl (by decide) ?_
  refine T.ild_1 (q := 8) dX8_of_7 rfl ?_
  refine T.imul (q := 9) dX8_of_8 rfl ?_
  refine T.iadd (q := 10) dX8_of_9 rfl ?_
  refine T.ild_2 (q := 11) dX8_of_10 rfl ?_
  refine T.iadd (q := 12) dX8_of_11 rfl ?_
  refine T.iald (n := 2260) rfl rfl (by decide) dX8_of_12 (q := 13) rfl h.1 ?_
  replace h := h.2
  exact T.retI rfl dX8_of_13 (by decide) (by decide) ⟨h, rfl⟩
theorem t_X8_sets {G : sk_G} {M : sk_M} {a1 : Int32} {a2 : Int32} {a3 : Int32}  {Q : sk_M → Prop} (h : w_X8_sets a1 a2 a3 M Q) : Ctr G mX8_sets 0 0 0 [.ref (G.2.2.1 140), .int a1, .int a2, .int a3] M (rV Q) noX := by
  unfold w_X8_sets at h
  refine Ctr.of 0 (by decide) (Nat.le_of_ble_eq_true rfl) ?_
  show TJ G mX8_sets (sk_R 0 0 0) (sk_K G 0 0 (rV Q) noX) 0 0 0 [some (.ref (G.2.2.1 140)), some (.int a1), some (.int a2), some (.int a3)] [] M
  refine T.ald_0 (q := 1) dX8_sets_0 rfl ?_
  refine g_X8_13 rfl dX8_sets_1 (q := 4) rfl ?_
  refine T.bipush (q := 6) (10) dX8_sets_4 rfl (by decide) ?_
  refine T.iconst (q := 7) (4) dX8_sets_6 rfl (by decide) ?_
  refine T.ild_1 (q := 8) dX8_sets_7 rfl ?_
  refine T.imul (q := 9) dX8_sets_8 rfl ?_
  refine T.iadd (q := 10) dX8_sets_9 rfl ?_
  refine T.ild_2 (q := 11) dX8_sets_10 rfl ?_
  refine T.iadd (q := 12) dX8_sets_11 rfl ?_
  refine T.ild_3 (q := 13) dX8_sets_12 rfl ?_
  refine T.iast (n := 2260) rfl rfl (by decide) dX8_sets_13 (q := 14) rfl h.1 ?_
  refine S.mem h.2 ?_
  intro M13 h
  exact T.retV rfl dX8_sets_14 (by decide) (by decide) h
theorem t_X8_ofContract {G : sk_G} {M : sk_M} {a1 : Int32} {a2 : Int32}  {Q : Int32 → Prop} (h : w_X8_ofContract a1 a2 M Q) : Ctr G mX8_ofContract 0 0 0 [.ref (G.2.2.1 140), .int a1, .int a2] M (rI fun r9 M9 => Q r9 ∧ M9 = M) noX := by
  unfold w_X8_ofContract at h
  refine Ctr.of 0 (by decide) (Nat.le_of_ble_eq_true rfl) ?_
  show TJ G mX8_ofContract (sk_R 0 0 0) (sk_K G 0 0 (rI fun r9 M9 => Q r9 ∧ M9 = M) noX) 0 0 0 [some (.ref (G.2.2.1 140)), some (.int a1), some (.int a2)] [] M
  refine T.ald_0 (q := 1) dX8_ofContract_0 rfl ?_
  refine g_X8_13 rfl dX8_ofContract_1 (q := 4) rfl ?_
  refine T.bipush (q := 6) (34) dX8_ofContract_4 rfl (by decide) ?_
  refine T.iconst (q := 7) (4) dX8_ofContract_6 rfl (by decide) ?_
  refine T.ild_1 (q := 8) dX8_ofContract_7 rfl ?_
  refine T.imul (q := 9) dX8_ofContract_8 rfl ?_
  refine T.iadd (q := 10) dX8_ofContract_9 rfl ?_
  refine T.ild_2 (q := 11) dX8_ofContract_10 rfl ?_
  refine T.iadd (q := 12) dX8_ofContract_11 rfl ?_
  refine T.iald (n := 2260) rfl rfl (by decide) dX8_ofContract_12 (q := 13) rfl h.1 ?_
  replace h := h.2
  exact T.retI rfl dX8_ofContract_13 (by decide) (by decide) ⟨h, rfl⟩
theorem t_X8_noVault {G : sk_G} {M : sk_M} {a1 : Int32}  {P : Int32 → Prop} (h : P (f_X8_noVault a1 M)) : Ctr G mX8_noVault 1 0 0 [.ref (G.2.2.1 140), .int a1] M (rI fun r9 M9 => P r9 ∧ M9 = M) noX := by
  unfold f_X8_noVault at h
  refine Ctr.of 0 (by decide) (Nat.le_of_ble_eq_true rfl) ?_
  show TJ G mX8_noVault (sk_R 1 0 0) (sk_K G 0 0 (rI fun r9 M9 => P r9 ∧ M9 = M) noX) 0 0 0 [some (.ref (G.2.2.1 140)), some (.int a1)] [] M
  refine T.ild_1 (q := 1) dX8_noVault_0 rfl ?_
  refine T.iconst (q := 2) (0) dX8_noVault_1 rfl (by decide) ?_
  refine T.ald_0 (q := 3) dX8_noVault_2 rfl ?_
  refine k_X8_81 rfl dX8_noVault_3 (q := 6) rfl (by decide) (by decide) (by decide) (Nat.le_of_ble_eq_true rfl) (t_X8_vaults (P := fun r9 => r9 = (f_X8_vaults M)) rfl) ?_
  rintro _ _ ⟨rfl, h9⟩
  obtain rfl := h9.symm
  refine T.iconst (q := 7) (1) dX8_noVault_6 rfl (by decide) ?_
  refine T.isub (q := 8) dX8_noVault_7 rfl ?_
  refine k_X8_85 rfl dX8_noVault_8 (q := 11) rfl (by decide) (by decide) (by decide) (Nat.le_of_ble_eq_true rfl) (t_X8_in (P := fun r9 => r9 = (f_X8_in a1 (0 : Int32) ((f_X8_vaults M) - (1 : Int32)))) rfl) ?_
  rintro _ _ ⟨rfl, h9⟩
  obtain rfl := h9.symm
  refine T.if_ne (tgt := 18) (q := 14) dX8_noVault_11 (by decide) rfl (fun h11 => ?_) (fun h11 => ?_)
  · replace h := s_fP h11 h
    refine T.iconst (q := 19) (0) dX8_noVault_18 rfl (by decide) ?_
    exact T.retZ rfl dX8_noVault_19 (by decide) (by decide) rfl ⟨h, rfl⟩
  · replace h := s_tP h11 h
    refine T.iconst (q := 15) (1) dX8_noVault_14 rfl (by decide) ?_
    refine T.goto (tgt := 19) dX8_noVault_15 (by decide) ?_
    exact T.retZ rfl dX8_noVault_19 (by decide) (by decide) rfl ⟨h, rfl⟩
theorem t_X8_noPerson {G : sk_G} {M : sk_M} {a1 : Int32}  {P : Int32 → Prop} (h : P (f_X8_noPerson a1 M)) : Ctr G mX8_noPerson 1 0 0 [.ref (G.2.2.1 140), .int a1] M (rI fun r9 M9 => P r9 ∧ M9 = M) noX := by
  unfold f_X8_noPerson at h
  refine Ctr.of 0 (by decide) (Nat.le_of_ble_eq_true rfl) ?_
  show TJ G mX8_noPerson (sk_R 1 0 0) (sk_K G 0 0 (rI fun r9 M9 => P r9 ∧ M9 = M) noX) 0 0 0 [some (.ref (G.2.2.1 140)), some (.int a1)] [] M
  refine T.ild_1 (q := 1) dX8_noPerson_0 rfl ?_
  refine T.iconst (q := 2) (0) dX8_noPerson_1 rfl (by decide) ?_
  refine T.ald_0 (q := 3) dX8_noPerson_2 rfl ?_
  refine k_X8_89 rfl dX8_noPerson_3 (q := 6) rfl (by decide) (by decide) (by decide) (Nat.le_of_ble_eq_true rfl) (t_X8_people (P := fun r9 => r9 = (f_X8_people M)) rfl) ?_
  rintro _ _ ⟨rfl, h9⟩
  obtain rfl := h9.symm
  refine T.iconst (q := 7) (1) dX8_noPerson_6 rfl (by decide) ?_
  refine T.isub (q := 8) dX8_noPerson_7 rfl ?_
  refine k_X8_85 rfl dX8_noPerson_8 (q := 11) rfl (by decide) (by decide) (by decide) (Nat.le_of_ble_eq_true rfl) (t_X8_in (P := fun r9 => r9 = (f_X8_in a1 (0 : Int32) ((f_X8_people M) - (1 : Int32)))) rfl) ?_
  rintro _ _ ⟨rfl, h9⟩
  obtain rfl := h9.symm
  refine T.if_ne (tgt := 18) (q := 14) dX8_noPerson_11 (by decide) rfl (fun h11 => ?_) (fun h11 => ?_)
  · replace h := s_fP h11 h
    refine T.iconst (q := 19) (0) dX8_noPerson_18 rfl (by decide) ?_
    exact T.retZ rfl dX8_noPerson_19 (by decide) (by decide) rfl ⟨h, rfl⟩
  · replace h := s_tP h11 h
    refine T.iconst (q := 15) (1) dX8_noPerson_14 rfl (by decide) ?_
    refine T.goto (tgt := 19) dX8_noPerson_15 (by decide) ?_
    exact T.retZ rfl dX8_noPerson_19 (by decide) (by decide) rfl ⟨h, rfl⟩
theorem t_X8_noCode {G : sk_G} {M : sk_M} {a0 : Int32}  {P : Int32 → Prop} (h : P (f_X8_noCode a0)) : Ctr G mX8_noCode 1 0 0 [.int a0] M (rI fun r9 M9 => P r9 ∧ M9 = M) noX := by
  unfold f_X8_noCode at h
  refine Ctr.of 0 (by decide) (Nat.le_of_ble_eq_true rfl) ?_
  show TJ G mX8_noCode (sk_R 1 0 0) (sk_K G 0 0 (rI fun r9 M9 => P r9 ∧ M9 = M) noX) 0 0 0 [some (.int a0)] [] M
  refine T.ild_0 (q := 1) dX8_noCode_0 rfl ?_
  refine T.iconst (q := 2) (0) dX8_noCode_1 rfl (by decide) ?_
  refine T.sipush (q := 5) (215) dX8_noCode_2 rfl (by decide) ?_
  refine k_X8_85 rfl dX8_noCode_5 (q := 8) rfl (by decide) (by decide) (by decide) (Nat.le_of_ble_eq_true rfl) (t_X8_in (P := fun r9 => r9 = (f_X8_in a0 (0 : Int32) (215 : Int32))) rfl) ?_
  rintro _ _ ⟨rfl, h9⟩
  obtain rfl := h9.symm
  refine T.if_ne (tgt := 15) (q := 11) dX8_noCode_8 (by decide) rfl (fun h8 => ?_) (fun h8 => ?_)
  · replace h := s_fP h8 h
    refine T.iconst (q := 16) (0) dX8_noCode_15 rfl (by decide) ?_
    exact T.retZ rfl dX8_noCode_16 (by decide) (by decide) rfl ⟨h, rfl⟩
  · replace h := s_tP h8 h
    refine T.iconst (q := 12) (1) dX8_noCode_11 rfl (by decide) ?_
    refine T.goto (tgt := 16) dX8_noCode_12 (by decide) ?_
    exact T.retZ rfl dX8_noCode_16 (by decide) (by decide) rfl ⟨h, rfl⟩
theorem t_X8_draw {G : sk_G} {M : sk_M} {a1 : Int32}  {Q : Int32 → sk_M → Prop} (h : w_X8_draw a1 M Q) : Ctr G mX8_draw 0 0 0 [.ref (G.2.2.1 140), .int a1] M (rI Q) noX := by
  unfold w_X8_draw at h
  refine Ctr.of 0 (by decide) (Nat.le_of_ble_eq_true rfl) ?_
  show TJ G mX8_draw (sk_R 0 0 0) (sk_K G 0 0 (rI Q) noX) 0 0 0 [some (.ref (G.2.2.1 140)), some (.int a1)] [] M
  refine T.ald_0 (q := 1) dX8_draw_0 rfl ?_
  refine g_X8_13 rfl dX8_draw_1 (q := 4) rfl ?_
  refine T.bipush (q := 6) (9) dX8_draw_4 rfl (by decide) ?_
  refine T.ldc (q := 8) (1103515245) dX8_draw_6 rfl w_X8_c92 ?_
  refine T.ald_0 (q := 9) dX8_draw_8 rfl ?_
  refine g_X8_13 rfl dX8_draw_9 (q := 12) rfl ?_
  refine T.bipush (q := 14) (9) dX8_draw_12 rfl (by decide) ?_
  refine T.ialdk (n := 2260) rfl rfl (by decide) dX8_draw_14 (q := 15) rfl (k9 := 9) (by decide) ?_
  refine T.imul (q := 16) dX8_draw_15 rfl ?_
  refine T.sipush (q := 19) (12345) dX8_draw_16 rfl (by decide) ?_
  refine T.iadd (q := 20) dX8_draw_19 rfl ?_
  refine T.iastk (n := 2260) rfl rfl (by decide) dX8_draw_20 (q := 21) rfl (k9 := 9) (by decide) ?_
  refine S.mem h ?_
  intro M20 h
  refine T.ald_0 (q := 22) dX8_draw_21 rfl ?_
  refine g_X8_13 rfl dX8_draw_22 (q := 25) rfl ?_
  refine T.bipush (q := 27) (9) dX8_draw_25 rfl (by decide) ?_
  refine T.ialdk (n := 2260) rfl rfl (by decide) dX8_draw_27 (q := 28) rfl (k9 := 9) (by decide) ?_
  refine T.bipush (q := 30) (16) dX8_draw_28 rfl (by decide) ?_
  refine T.ishr (q := 31) dX8_draw_30 rfl ?_
  refine T.sipush (q := 34) (32767) dX8_draw_31 rfl (by decide) ?_
  refine T.iand (q := 35) dX8_draw_34 rfl ?_
  refine T.ild_1 (q := 36) dX8_draw_35 rfl ?_
  refine T.irem (q := 37) dX8_draw_36 rfl h.1 ?_
  replace h := h.2
  exact T.retI rfl dX8_draw_37 (by decide) (by decide) h
theorem t_X8_at {G : sk_G} {M : sk_M} {a0 : Int32} {a1 : Int32}  {P : Int32 → Prop} (h : P (f_X8_at a0 a1)) : Ctr G mX8_at 0 0 0 [.int a0, .int a1] M (rI fun r9 M9 => P r9 ∧ M9 = M) noX := by
  unfold f_X8_at at h
  refine Ctr.of 0 (by decide) (Nat.le_of_ble_eq_true rfl) ?_
  show TJ G mX8_at (sk_R 0 0 0) (sk_K G 0 0 (rI fun r9 M9 => P r9 ∧ M9 = M) noX) 0 0 0 [some (.int a0), some (.int a1)] [] M
  refine T.iconst (q := 1) (4) dX8_at_0 rfl (by decide) ?_
  refine T.bipush (q := 3) (6) dX8_at_1 rfl (by decide) ?_
  refine T.ild_0 (q := 4) dX8_at_3 rfl ?_
  refine T.imul (q := 5) dX8_at_4 rfl ?_
  refine T.ild_1 (q := 6) dX8_at_5 rfl ?_
  refine T.iadd (q := 7) dX8_at_6 rfl ?_
  refine T.imul (q := 8) dX8_at_7 rfl ?_
  exact T.retI rfl dX8_at_8 (by decide) (by decide) ⟨h, rfl⟩
theorem t_X8_canBe {G : sk_G} {M : sk_M} {a1 : Int32} {a2 : Int32} {a3 : Int32}  {Q : Int32 → Prop} (h : w_X8_canBe a1 a2 a3 M Q) : Ctr G mX8_canBe 1 0 0 [.ref (G.2.2.1 140), .int a1, .int a2, .int a3] M (rI fun r9 M9 => Q r9 ∧ M9 = M) noX := by
  unfold w_X8_canBe at h
  refine Ctr.of 0 (by decide) (Nat.le_of_ble_eq_true rfl) ?_
  show TJ G mX8_canBe (sk_R 1 0 0) (sk_K G 0 0 (rI fun r9 M9 => Q r9 ∧ M9 = M) noX) 0 0 0 [some (.ref (G.2.2.1 140)), some (.int a1), some (.int a2), some (.int a3)] [] M
  refine T.ald_0 (q := 1) dX8_canBe_0 rfl ?_
  refine g_X8_29 rfl dX8_canBe_1 (q := 4) rfl ?_
  refine T.ild_1 (q := 5) dX8_canBe_4 rfl ?_
  refine T.ild_2 (q := 6) dX8_canBe_5 rfl ?_
  refine k_X8_93 rfl dX8_canBe_6 (q := 9) rfl (by decide) (by decide) (by decide) (Nat.le_of_ble_eq_true rfl) (t_X8_at (P := fun r9 => r9 = (f_X8_at a1 a2)) rfl) ?_
  rintro _ _ ⟨rfl, h9⟩
  obtain rfl := h9.symm
  refine T.ild_3 (q := 10) dX8_canBe_9 rfl ?_
  refine T.bipush (q := 12) (64) dX8_canBe_10 rfl (by decide) ?_
  refine T.idiv (q := 13) dX8_canBe_12 rfl (by decide) ?_
  refine T.iadd (q := 14) dX8_canBe_13 rfl ?_
  refine T.lald (n := 144) rfl rfl (by decide) dX8_canBe_14 (q := 15) rfl h.1 ?_
  replace h := h.2
  refine T.ild_3 (q := 16) dX8_canBe_15 rfl ?_
  refine T.bipush (q := 18) (64) dX8_canBe_16 rfl (by decide) ?_
  refine T.irem (q := 19) dX8_canBe_18 rfl (by decide) ?_
  refine T.lshr (q := 20) dX8_canBe_19 rfl ?_
  refine T.lconst (q := 21) (1) dX8_canBe_20 rfl (by decide) ?_
  refine T.land (q := 22) dX8_canBe_21 rfl ?_
  refine T.lconst (q := 23) (1) dX8_canBe_22 rfl (by decide) ?_
  refine T.lcmp (q := 24) dX8_canBe_23 rfl ?_
  refine T.if_ne (tgt := 31) (q := 27) dX8_canBe_24 (by decide) rfl (fun h24 => ?_) (fun h24 => ?_)
  · replace h := s_f h24 h
    refine T.iconst (q := 32) (0) dX8_canBe_31 rfl (by decide) ?_
    exact T.retZ rfl dX8_canBe_32 (by decide) (by decide) rfl ⟨h, rfl⟩
  · replace h := s_t h24 h
    refine T.iconst (q := 28) (1) dX8_canBe_27 rfl (by decide) ?_
    refine T.goto (tgt := 32) dX8_canBe_28 (by decide) ?_
    exact T.retZ rfl dX8_canBe_32 (by decide) (by decide) rfl ⟨h, rfl⟩
theorem t_X8_isNot {G : sk_G} {M : sk_M} {a1 : Int32} {a2 : Int32} {a3 : Int32}  {Q : sk_M → Prop} (h : w_X8_isNot a1 a2 a3 M Q) : Ctr G mX8_isNot 1 0 0 [.ref (G.2.2.1 140), .int a1, .int a2, .int a3] M (rV Q) noX := by
  unfold w_X8_isNot at h
  refine Ctr.of 0 (by decide) (Nat.le_of_ble_eq_true rfl) ?_
  show TJ G mX8_isNot (sk_R 1 0 0) (sk_K G 0 0 (rV Q) noX) 0 0 0 [some (.ref (G.2.2.1 140)), some (.int a1), some (.int a2), some (.int a3)] [] M
  refine T.ald_0 (q := 1) dX8_isNot_0 rfl ?_
  refine g_X8_29 rfl dX8_isNot_1 (q := 4) rfl ?_
  refine T.ild_1 (q := 5) dX8_isNot_4 rfl ?_
  refine T.ild_2 (q := 6) dX8_isNot_5 rfl ?_
  refine k_X8_93 rfl dX8_isNot_6 (q := 9) rfl (by decide) (by decide) (by decide) (Nat.le_of_ble_eq_true rfl) (t_X8_at (P := fun r9 => r9 = (f_X8_at a1 a2)) rfl) ?_
  rintro _ _ ⟨rfl, h9⟩
  obtain rfl := h9.symm
  refine T.ild_3 (q := 10) dX8_isNot_9 rfl ?_
  refine T.bipush (q := 12) (64) dX8_isNot_10 rfl (by decide) ?_
  refine T.idiv (q := 13) dX8_isNot_12 rfl (by decide) ?_
  refine T.iadd (q := 14) dX8_isNot_13 rfl ?_
  refine T.dup2 (q := 15) dX8_isNot_14 rfl rfl rfl ?_
  refine T.lald (n := 144) rfl rfl (by decide) dX8_isNot_15 (q := 16) rfl h.1 ?_
  replace h := h.2
  refine T.lconst (q := 17) (1) dX8_isNot_16 rfl (by decide) ?_
  refine T.ild_3 (q := 18) dX8_isNot_17 rfl ?_
  refine T.bipush (q := 20) (64) dX8_isNot_18 rfl (by decide) ?_
  refine T.irem (q := 21) dX8_isNot_20 rfl (by decide) ?_
  refine T.lshl (q := 22) dX8_isNot_21 rfl ?_
  refine T.ldc2 (q := 25) (-1) dX8_isNot_22 rfl w_X8_c97 ?_
  refine T.lxor (q := 26) dX8_isNot_25 rfl ?_
  refine T.land (q := 27) dX8_isNot_26 rfl ?_
  refine T.last (n := 144) rfl rfl (by decide) dX8_isNot_27 (q := 28) rfl h.1 ?_
  refine S.mem h.2 ?_
  intro M27 h
  exact T.retV rfl dX8_isNot_28 (by decide) (by decide) h
theorem tl_X8_forgets_L2 {G : sk_G} {cells slots : Nat} {a1 : Int32} {a2 : Int32} {Q : sk_M → Prop}  (hc0 : cells ≤ 0) (hs0 : slots ≤ 0) : ∀ (F : Nat) (s2 : Int32 × sk_M), lp (w_X8_forgets_L2 a1 a2 Q) F s2 → TJ G mX8_forgets (sk_R 1 0 0) (sk_K G 0 0 (rV Q) noX) cells slots 2 [some (.ref (G.2.2.1 140)), some (.int a1), some (.int a2), some (.int s2.1)] [] s2.2 := by
  refine lp_sound (fun c hc9 s2 h => ?_)
  unfold w_X8_forgets_L2 at h
  refine T.ild_3 (q := 3) dX8_forgets_2 rfl ?_
  refine T.iconst (q := 4) (4) dX8_forgets_3 rfl (by decide) ?_
  refine T.ic_ge (tgt := 39) (q := 7) dX8_forgets_4 (by decide) rfl (fun h4 => ?_) (fun h4 => ?_)
  · replace h := s_f (fun q => q h4) h
    exact T.retV rfl dX8_forgets_39 hc0 hs0 h
  · replace h := s_t h4 h
    refine T.ald_0 (q := 8) dX8_forgets_7 rfl ?_
    refine g_X8_29 rfl dX8_forgets_8 (q := 11) rfl ?_
    refine T.ild_1 (q := 12) dX8_forgets_11 rfl ?_
    refine T.ild_2 (q := 13) dX8_forgets_12 rfl ?_
    refine k_X8_93 rfl dX8_forgets_13 (q := 16) rfl (by decide) hc0 hs0 (Nat.le_of_ble_eq_true rfl) (t_X8_at (P := fun r9 => r9 = (f_X8_at a1 a2)) rfl) ?_
    rintro _ _ ⟨rfl, h9⟩
    obtain rfl := h9.symm
    refine T.ild_3 (q := 17) dX8_forgets_16 rfl ?_
    refine T.iadd (q := 18) dX8_forgets_17 rfl ?_
    refine T.ild_3 (q := 19) dX8_forgets_18 rfl ?_
    refine T.iconst (q := 20) (3) dX8_forgets_19 rfl (by decide) ?_
    refine T.ic_ge (tgt := 29) (q := 23) dX8_forgets_20 (by decide) rfl (fun h20 => ?_) (fun h20 => ?_)
    · replace h := s_f (fun q => q h20) h
      refine T.ldc2 (q := 32) (16777215) dX8_forgets_29 rfl w_X8_c99 ?_
      refine T.last (n := 144) rfl rfl (by decide) dX8_forgets_32 (q := 33) rfl h.1 ?_
      refine S.mem h.2 ?_
      intro M32 h
      refine T.inc_3 (q := 36) (1) dX8_forgets_33 rfl (by decide) (by decide) sk_ok_i ?_
      refine T.goto (tgt := 2) dX8_forgets_36 (by decide) ?_
      exact hc9 ((s2.1 + (1 : Int32)), M32) h
    · replace h := s_t h20 h
      refine T.ldc2 (q := 26) (-1) dX8_forgets_23 rfl w_X8_c97 ?_
      refine T.goto (tgt := 32) dX8_forgets_26 (by decide) ?_
      refine T.last (n := 144) rfl rfl (by decide) dX8_forgets_32 (q := 33) rfl h.1 ?_
      refine S.mem h.2 ?_
      intro M32 h
      refine T.inc_3 (q := 36) (1) dX8_forgets_33 rfl (by decide) (by decide) sk_ok_i ?_
      refine T.goto (tgt := 2) dX8_forgets_36 (by decide) ?_
      exact hc9 ((s2.1 + (1 : Int32)), M32) h
theorem t_X8_forgets {G : sk_G} {M : sk_M} {a1 : Int32} {a2 : Int32}  {Q : sk_M → Prop} (h : w_X8_forgets a1 a2 M Q) : Ctr G mX8_forgets 1 0 0 [.ref (G.2.2.1 140), .int a1, .int a2] M (rV Q) noX := by
  unfold w_X8_forgets at h
  refine Ctr.of 1 (by decide) (Nat.le_of_ble_eq_true rfl) ?_
  show TJ G mX8_forgets (sk_R 1 0 0) (sk_K G 0 0 (rV Q) noX) 0 0 0 [some (.ref (G.2.2.1 140)), some (.int a1), some (.int a2), none] [] M
  refine T.iconst (q := 1) (0) dX8_forgets_0 rfl (by decide) ?_
  refine T.ist_3 (q := 2) dX8_forgets_1 rfl (by decide) sk_ok_i ?_
  exact tl_X8_forgets_L2  (by decide) (by decide) _ ((0 : Int32), M) h
theorem tl_X8_allForget_L2 {G : sk_G} {cells slots : Nat} {a1 : Int32} {Q : sk_M → Prop}  (hc0 : cells ≤ 0) (hs0 : slots ≤ 0) : ∀ (F : Nat) (s2 : Int32 × sk_M), lp (w_X8_allForget_L2 a1 Q) F s2 → TJ G mX8_allForget (sk_R 2 0 0) (sk_K G 0 0 (rV Q) noX) cells slots 2 [some (.ref (G.2.2.1 140)), some (.int a1), some (.int s2.1)] [] s2.2 := by
  refine lp_sound (fun c hc9 s2 h => ?_)
  unfold w_X8_allForget_L2 at h
  refine T.ild_2 (q := 3) dX8_allForget_2 rfl ?_
  refine T.bipush (q := 5) (6) dX8_allForget_3 rfl (by decide) ?_
  refine T.ic_ge (tgt := 20) (q := 8) dX8_allForget_5 (by decide) rfl (fun h5 => ?_) (fun h5 => ?_)
  · replace h := s_f (fun q => q h5) h
    exact T.retV rfl dX8_allForget_20 hc0 hs0 h
  · replace h := s_t h5 h
    refine T.ald_0 (q := 9) dX8_allForget_8 rfl ?_
    refine T.ild_2 (q := 10) dX8_allForget_9 rfl ?_
    refine T.ild_1 (q := 11) dX8_allForget_10 rfl ?_
    refine k_X8_101 rfl dX8_allForget_11 (q := 14) rfl (by decide) hc0 hs0 (Nat.le_of_ble_eq_true rfl) (t_X8_forgets  h) ?_
    intro M11 h
    refine T.inc_2 (q := 17) (1) dX8_allForget_14 rfl (by decide) (by decide) sk_ok_i ?_
    refine T.goto (tgt := 2) dX8_allForget_17 (by decide) ?_
    exact hc9 ((s2.1 + (1 : Int32)), M11) h
theorem t_X8_allForget {G : sk_G} {M : sk_M} {a1 : Int32}  {Q : sk_M → Prop} (h : w_X8_allForget a1 M Q) : Ctr G mX8_allForget 2 0 0 [.ref (G.2.2.1 140), .int a1] M (rV Q) noX := by
  unfold w_X8_allForget at h
  refine Ctr.of 1 (by decide) (Nat.le_of_ble_eq_true rfl) ?_
  show TJ G mX8_allForget (sk_R 2 0 0) (sk_K G 0 0 (rV Q) noX) 0 0 0 [some (.ref (G.2.2.1 140)), some (.int a1), none] [] M
  refine T.iconst (q := 1) (0) dX8_allForget_0 rfl (by decide) ?_
  refine T.ist_2 (q := 2) dX8_allForget_1 rfl (by decide) sk_ok_i ?_
  exact tl_X8_allForget_L2  (by decide) (by decide) _ ((0 : Int32), M) h
theorem tl_X8_leftOf_L5 {G : sk_G} {M : sk_M} {cells slots : Nat} {a1 : Int32} {a2 : Int32} {Q : Int32 → Prop}  (hc0 : cells ≤ 0) (hs0 : slots ≤ 0) : ∀ (F : Nat) (s5 : Int32 × Int32), lp (w_X8_leftOf_L5 a1 a2 M Q) F s5 → TJ G mX8_leftOf (sk_R 1 0 0) (sk_K G 0 0 (rI fun r9 M9 => Q r9 ∧ M9 = M) noX) cells slots 5 [some (.ref (G.2.2.1 140)), some (.int a1), some (.int a2), some (.int s5.1), some (.int s5.2)] [] M := by
  refine lp_sound (fun c hc9 s5 h => ?_)
  unfold w_X8_leftOf_L5 at h
  refine T.ild_4 (q := 7) dX8_leftOf_5 rfl ?_
  refine T.iconst (q := 8) (4) dX8_leftOf_7 rfl (by decide) ?_
  refine T.ic_ge (tgt := 36) (q := 11) dX8_leftOf_8 (by decide) rfl (fun h8 => ?_) (fun h8 => ?_)
  · replace h := s_f (fun q => q h8) h
    refine T.ild_3 (q := 37) dX8_leftOf_36 rfl ?_
    exact T.retI rfl dX8_leftOf_37 hc0 hs0 ⟨h, rfl⟩
  · replace h := s_t h8 h
    refine T.ild_3 (q := 12) dX8_leftOf_11 rfl ?_
    refine T.ald_0 (q := 13) dX8_leftOf_12 rfl ?_
    refine g_X8_29 rfl dX8_leftOf_13 (q := 16) rfl ?_
    refine T.ild_1 (q := 17) dX8_leftOf_16 rfl ?_
    refine T.ild_2 (q := 18) dX8_leftOf_17 rfl ?_
    refine k_X8_93 rfl dX8_leftOf_18 (q := 21) rfl (by decide) hc0 hs0 (Nat.le_of_ble_eq_true rfl) (t_X8_at (P := fun r9 => r9 = (f_X8_at a1 a2)) rfl) ?_
    rintro _ _ ⟨rfl, h9⟩
    obtain rfl := h9.symm
    refine T.ild_4 (q := 23) dX8_leftOf_21 rfl ?_
    refine T.iadd (q := 24) dX8_leftOf_23 rfl ?_
    refine T.lald (n := 144) rfl rfl (by decide) dX8_leftOf_24 (q := 25) rfl h.1 ?_
    replace h := h.2
    refine k_X8_105 rfl dX8_leftOf_25 (q := 28) rfl (by decide) hc0 hs0 (Nat.le_of_ble_eq_true rfl) (t_bc64 (P := fun r9 => r9 = (bc64 (M.2 146 ((f_X8_at a1 a2) + s5.2).toNatClampNeg))) rfl) ?_
    rintro _ _ ⟨rfl, h9⟩
    obtain rfl := h9.symm
    refine T.iadd (q := 29) dX8_leftOf_28 rfl ?_
    refine T.ist_3 (q := 30) dX8_leftOf_29 rfl (by decide) sk_ok_i ?_
    refine S.i3 h ?_
    intro y29 h
    refine T.inc_4 (q := 33) (1) dX8_leftOf_30 rfl (by decide) (by decide) sk_ok_i ?_
    refine T.goto (tgt := 5) dX8_leftOf_33 (by decide) ?_
    exact hc9 (y29, (s5.2 + (1 : Int32))) h
theorem t_X8_leftOf {G : sk_G} {M : sk_M} {a1 : Int32} {a2 : Int32}  {Q : Int32 → Prop} (h : w_X8_leftOf a1 a2 M Q) : Ctr G mX8_leftOf 1 0 0 [.ref (G.2.2.1 140), .int a1, .int a2] M (rI fun r9 M9 => Q r9 ∧ M9 = M) noX := by
  unfold w_X8_leftOf at h
  refine Ctr.of 2 (by decide) (Nat.le_of_ble_eq_true rfl) ?_
  show TJ G mX8_leftOf (sk_R 1 0 0) (sk_K G 0 0 (rI fun r9 M9 => Q r9 ∧ M9 = M) noX) 0 0 0 [some (.ref (G.2.2.1 140)), some (.int a1), some (.int a2), none, none] [] M
  refine T.iconst (q := 1) (0) dX8_leftOf_0 rfl (by decide) ?_
  refine T.ist_3 (q := 2) dX8_leftOf_1 rfl (by decide) sk_ok_i ?_
  refine T.iconst (q := 3) (0) dX8_leftOf_2 rfl (by decide) ?_
  refine T.ist_4 (q := 5) dX8_leftOf_3 rfl (by decide) sk_ok_i ?_
  exact tl_X8_leftOf_L5  (by decide) (by decide) _ ((0 : Int32), (0 : Int32)) h
theorem t_X8_figureOf {G : sk_G} {M : sk_M} {a0 : Int32} {a1 : Int32}  {P : Int32 → Prop} (h : P (f_X8_figureOf a0 a1)) : Ctr G mX8_figureOf 0 0 0 [.int a0, .int a1] M (rI fun r9 M9 => P r9 ∧ M9 = M) noX := by
  unfold f_X8_figureOf at h
  refine Ctr.of 0 (by decide) (Nat.le_of_ble_eq_true rfl) ?_
  show TJ G mX8_figureOf (sk_R 0 0 0) (sk_K G 0 0 (rI fun r9 M9 => P r9 ∧ M9 = M) noX) 0 0 0 [some (.int a0), some (.int a1)] [] M
  refine T.ild_1 (q := 1) dX8_figureOf_0 rfl ?_
  refine T.if_ne (tgt := 11) (q := 4) dX8_figureOf_1 (by decide) rfl (fun h1 => ?_) (fun h1 => ?_)
  · replace h := s_fP h1 h
    refine T.ild_1 (q := 12) dX8_figureOf_11 rfl ?_
    refine T.iconst (q := 13) (1) dX8_figureOf_12 rfl (by decide) ?_
    refine T.ic_ne (tgt := 26) (q := 16) dX8_figureOf_13 (by decide) rfl (fun h13 => ?_) (fun h13 => ?_)
    · replace h := s_fP h13 h
      refine T.ild_0 (q := 27) dX8_figureOf_26 rfl ?_
      refine T.bipush (q := 29) (6) dX8_figureOf_27 rfl (by decide) ?_
      refine T.irem (q := 30) dX8_figureOf_29 rfl (by decide) ?_
      exact T.retI rfl dX8_figureOf_30 (by decide) (by decide) ⟨h, rfl⟩
    · replace h := s_tP h13 h
      refine T.ild_0 (q := 17) dX8_figureOf_16 rfl ?_
      refine T.bipush (q := 19) (6) dX8_figureOf_17 rfl (by decide) ?_
      refine T.idiv (q := 20) dX8_figureOf_19 rfl (by decide) ?_
      refine T.bipush (q := 22) (6) dX8_figureOf_20 rfl (by decide) ?_
      refine T.irem (q := 23) dX8_figureOf_22 rfl (by decide) ?_
      refine T.goto (tgt := 30) dX8_figureOf_23 (by decide) ?_
      exact T.retI rfl dX8_figureOf_30 (by decide) (by decide) ⟨h, rfl⟩
  · replace h := s_tP h1 h
    refine T.ild_0 (q := 5) dX8_figureOf_4 rfl ?_
    refine T.bipush (q := 7) (36) dX8_figureOf_5 rfl (by decide) ?_
    refine T.idiv (q := 8) dX8_figureOf_7 rfl (by decide) ?_
    refine T.goto (tgt := 30) dX8_figureOf_8 (by decide) ?_
    exact T.retI rfl dX8_figureOf_30 (by decide) (by decide) ⟨h, rfl⟩
theorem tl_X8_feed_L60 {G : sk_G} {cells slots : Nat}  {Q : Int32 → sk_M → Prop} {k106 : sk_M → Prop}  (hc0 : cells ≤ 0) (hs0 : slots ≤ 0) (hk106 : ∀ s106 : sk_M, k106 s106 → TJ G mX8_feed (sk_R 0 0 0) (sk_K G 0 0 (rI Q) noX) cells slots 106 [some (.ref (G.2.2.1 140)), none, none, none, none, none, none] [] s106) : ∀ (F : Nat) (s60 : Int32 × sk_M), lp (w_X8_feed_L60  k106) F s60 → TJ G mX8_feed (sk_R 0 0 0) (sk_K G 0 0 (rI Q) noX) cells slots 60 [some (.ref (G.2.2.1 140)), none, none, none, none, none, some (.int s60.1)] [] s60.2 := by
  refine lp_sound (fun c hc9 s60 h => ?_)
  unfold w_X8_feed_L60 at h
  refine T.ild_6 (q := 62) dX8_feed_60 rfl ?_
  refine T.bipush (q := 64) (20) dX8_feed_62 rfl (by decide) ?_
  refine T.ic_ge (tgt := 106) (q := 67) dX8_feed_64 (by decide) rfl (fun h64 => ?_) (fun h64 => ?_)
  · replace h := s_f (fun q => q h64) h
    refine T.drop_6 ?_
    exact hk106 s60.2 h
  · replace h := s_t h64 h
    refine T.ald_0 (q := 68) dX8_feed_67 rfl ?_
    refine g_X8_45 rfl dX8_feed_68 (q := 71) rfl ?_
    refine T.ald_0 (q := 72) dX8_feed_71 rfl ?_
    refine g_X8_111 rfl dX8_feed_72 (q := 75) rfl ?_
    refine T.ild_6 (q := 77) dX8_feed_75 rfl ?_
    refine T.iadd (q := 78) dX8_feed_77 rfl ?_
    refine T.ald_0 (q := 79) dX8_feed_78 rfl ?_
    refine g_X8_52 rfl dX8_feed_79 (q := 82) rfl ?_
    refine T.ild_6 (q := 84) dX8_feed_82 rfl ?_
    refine T.iconst (q := 85) (4) dX8_feed_84 rfl (by decide) ?_
    refine T.idiv (q := 86) dX8_feed_85 rfl (by decide) ?_
    refine T.iald (n := 5) rfl rfl (by decide) dX8_feed_86 (q := 87) rfl h.1 ?_
    replace h := h.2
    refine T.bipush (q := 89) (24) dX8_feed_87 rfl (by decide) ?_
    refine T.bipush (q := 91) (8) dX8_feed_89 rfl (by decide) ?_
    refine T.ild_6 (q := 93) dX8_feed_91 rfl ?_
    refine T.iconst (q := 94) (4) dX8_feed_93 rfl (by decide) ?_
    refine T.irem (q := 95) dX8_feed_94 rfl (by decide) ?_
    refine T.imul (q := 96) dX8_feed_95 rfl ?_
    refine T.isub (q := 97) dX8_feed_96 rfl ?_
    refine T.ishr (q := 98) dX8_feed_97 rfl ?_
    refine T.i2b (q := 99) dX8_feed_98 rfl ?_
    refine T.bast (n := 400) rfl rfl (by decide) dX8_feed_99 (q := 100) rfl h.1 ?_
    refine S.mem h.2 ?_
    intro M99 h
    refine T.inc_6 (q := 103) (1) dX8_feed_100 rfl (by decide) (by decide) sk_ok_n ?_
    refine T.goto (tgt := 60) dX8_feed_103 (by decide) ?_
    exact hc9 ((s60.1 + (1 : Int32)), M99) h
theorem t_X8_feed {G : sk_G} {M : sk_M} {a1 : Int32} {a2 : Int32} {a3 : Int32} {a4 : Int32} {a5 : Int32}  {Q : Int32 → sk_M → Prop} (h : w_X8_feed a1 a2 a3 a4 a5 M Q) : Ctr G mX8_feed 0 0 0 [.ref (G.2.2.1 140), .int a1, .int a2, .int a3, .int a4, .int a5] M (rI Q) noX := by
  unfold w_X8_feed at h
  refine Ctr.of 1 (by decide) (Nat.le_of_ble_eq_true rfl) ?_
  show TJ G mX8_feed (sk_R 0 0 0) (sk_K G 0 0 (rI Q) noX) 0 0 0 [some (.ref (G.2.2.1 140)), some (.int a1), some (.int a2), some (.int a3), some (.int a4), some (.int a5), none] [] M
  refine T.ald_0 (q := 1) dX8_feed_0 rfl ?_
  refine T.iconst (q := 2) (0) dX8_feed_1 rfl (by decide) ?_
  refine p_X8_3 rfl dX8_feed_2 (q := 5) rfl ?_
  refine S.mem h ?_
  intro M2 h
  refine T.ald_0 (q := 6) dX8_feed_5 rfl ?_
  refine g_X8_111 rfl dX8_feed_6 (q := 9) rfl ?_
  refine T.bipush (q := 11) (20) dX8_feed_9 rfl (by decide) ?_
  refine T.iadd (q := 12) dX8_feed_11 rfl ?_
  refine T.sipush (q := 15) (400) dX8_feed_12 rfl (by decide) ?_
  refine T.ic_le (tgt := 20) (q := 18) dX8_feed_15 (by decide) rfl (fun h15 => ?_) (fun h15 => ?_)
  · replace h := s_f (fun q => q h15) h
    refine T.ald_0 (q := 21) dX8_feed_20 rfl ?_
    refine g_X8_52 rfl dX8_feed_21 (q := 24) rfl ?_
    refine T.iconst (q := 25) (0) dX8_feed_24 rfl (by decide) ?_
    refine T.ild_1 (q := 26) dX8_feed_25 rfl ?_
    refine T.iastk (n := 5) rfl rfl (by decide) dX8_feed_26 (q := 27) rfl (k9 := 0) (by decide) ?_
    refine S.mem h ?_
    intro M26 h
    refine T.ald_0 (q := 28) dX8_feed_27 rfl ?_
    refine g_X8_52 rfl dX8_feed_28 (q := 31) rfl ?_
    refine T.iconst (q := 32) (1) dX8_feed_31 rfl (by decide) ?_
    refine T.ild_2 (q := 33) dX8_feed_32 rfl ?_
    refine T.iastk (n := 5) rfl rfl (by decide) dX8_feed_33 (q := 34) rfl (k9 := 1) (by decide) ?_
    refine S.mem h ?_
    intro M33 h
    refine T.ald_0 (q := 35) dX8_feed_34 rfl ?_
    refine g_X8_52 rfl dX8_feed_35 (q := 38) rfl ?_
    refine T.iconst (q := 39) (2) dX8_feed_38 rfl (by decide) ?_
    refine T.ild_3 (q := 40) dX8_feed_39 rfl ?_
    refine T.iastk (n := 5) rfl rfl (by decide) dX8_feed_40 (q := 41) rfl (k9 := 2) (by decide) ?_
    refine S.mem h ?_
    intro M40 h
    refine T.ald_0 (q := 42) dX8_feed_41 rfl ?_
    refine g_X8_52 rfl dX8_feed_42 (q := 45) rfl ?_
    refine T.iconst (q := 46) (3) dX8_feed_45 rfl (by decide) ?_
    refine T.ild_4 (q := 48) dX8_feed_46 rfl ?_
    refine T.iastk (n := 5) rfl rfl (by decide) dX8_feed_48 (q := 49) rfl (k9 := 3) (by decide) ?_
    refine S.mem h ?_
    intro M48 h
    refine T.ald_0 (q := 50) dX8_feed_49 rfl ?_
    refine g_X8_52 rfl dX8_feed_50 (q := 53) rfl ?_
    refine T.iconst (q := 54) (4) dX8_feed_53 rfl (by decide) ?_
    refine T.ild_5 (q := 56) dX8_feed_54 rfl ?_
    refine T.iastk (n := 5) rfl rfl (by decide) dX8_feed_56 (q := 57) rfl (k9 := 4) (by decide) ?_
    refine S.mem h ?_
    intro M56 h
    refine T.iconst (q := 58) (0) dX8_feed_57 rfl (by decide) ?_
    refine T.ist_6 (q := 60) dX8_feed_58 rfl (by decide) sk_ok_i ?_
    refine T.drop_1 ?_
    refine T.drop_2 ?_
    refine T.drop_3 ?_
    refine T.drop_4 ?_
    refine T.drop_5 ?_
    refine tl_X8_feed_L60  (by decide) (by decide) ?_ _ ((0 : Int32), M56) h
    intro s106 h
    refine T.ald_0 (q := 107) dX8_feed_106 rfl ?_
    refine T.dup (q := 108) dX8_feed_107 rfl rfl ?_
    refine g_X8_111 rfl dX8_feed_108 (q := 111) rfl ?_
    refine T.bipush (q := 113) (20) dX8_feed_111 rfl (by decide) ?_
    refine T.iadd (q := 114) dX8_feed_113 rfl ?_
    refine p_X8_111 rfl dX8_feed_114 (q := 117) rfl ?_
    refine S.mem h ?_
    intro M114 h
    refine T.ald_0 (q := 118) dX8_feed_117 rfl ?_
    refine g_X8_111 rfl dX8_feed_118 (q := 121) rfl ?_
    exact T.retI rfl dX8_feed_121 (by decide) (by decide) h
  · replace h := s_t h15 h
    refine T.iconst (q := 19) (-1) dX8_feed_18 rfl (by decide) ?_
    exact T.retI rfl dX8_feed_19 (by decide) (by decide) h
theorem t_X8_end {G : sk_G} {M : sk_M} {a1 : Int32}  {Q : Int32 → sk_M → Prop} (h : w_X8_end a1 M Q) : Ctr G mX8_end 0 0 0 [.ref (G.2.2.1 140), .int a1] M (rI Q) noX := by
  unfold w_X8_end at h
  refine Ctr.of 0 (by decide) (Nat.le_of_ble_eq_true rfl) ?_
  show TJ G mX8_end (sk_R 0 0 0) (sk_K G 0 0 (rI Q) noX) 0 0 0 [some (.ref (G.2.2.1 140)), some (.int a1)] [] M
  refine T.ald_0 (q := 1) dX8_end_0 rfl ?_
  refine T.iconst (q := 2) (0) dX8_end_1 rfl (by decide) ?_
  refine p_X8_3 rfl dX8_end_2 (q := 5) rfl ?_
  refine S.mem h ?_
  intro M2 h
  refine T.ild_1 (q := 6) dX8_end_5 rfl ?_
  refine T.if_lt (tgt := 17) (q := 9) dX8_end_6 (by decide) rfl (fun h6 => ?_) (fun h6 => ?_)
  · replace h := s_t (Or.inl h6) h
    refine T.iconst (q := 18) (0) dX8_end_17 rfl (by decide) ?_
    exact T.retZ rfl dX8_end_18 (by decide) (by decide) rfl h
  · refine T.ild_1 (q := 10) dX8_end_9 rfl ?_
    refine T.ald_0 (q := 11) dX8_end_10 rfl ?_
    refine g_X8_111 rfl dX8_end_11 (q := 14) rfl ?_
    refine T.ic_le (tgt := 19) (q := 17) dX8_end_14 (by decide) rfl (fun h14 => ?_) (fun h14 => ?_)
    · replace h := s_f (fun q => q.elim h6 (fun q => q h14)) h
      refine T.ald_0 (q := 20) dX8_end_19 rfl ?_
      refine T.ild_1 (q := 21) dX8_end_20 rfl ?_
      refine p_X8_111 rfl dX8_end_21 (q := 24) rfl ?_
      refine S.mem h ?_
      intro M21 h
      refine T.iconst (q := 25) (1) dX8_end_24 rfl (by decide) ?_
      exact T.retZ rfl dX8_end_25 (by decide) (by decide) rfl h
    · replace h := s_t (Or.inr h14) h
      refine T.iconst (q := 18) (0) dX8_end_17 rfl (by decide) ?_
      exact T.retZ rfl dX8_end_18 (by decide) (by decide) rfl h
theorem t_X8_isAt {G : sk_G} {M : sk_M} {a1 : Int32} {a2 : Int32}  {Q : Int32 → Prop} (h : w_X8_isAt a1 a2 M Q) : Ctr G mX8_isAt 0 0 0 [.ref (G.2.2.1 140), .int a1, .int a2] M (rI fun r9 M9 => Q r9 ∧ M9 = M) noX := by
  unfold w_X8_isAt at h
  refine Ctr.of 0 (by decide) (Nat.le_of_ble_eq_true rfl) ?_
  show TJ G mX8_isAt (sk_R 0 0 0) (sk_K G 0 0 (rI fun r9 M9 => Q r9 ∧ M9 = M) noX) 0 0 0 [some (.ref (G.2.2.1 140)), some (.int a1), some (.int a2)] [] M
  refine T.ald_0 (q := 1) dX8_isAt_0 rfl ?_
  refine g_X8_114 rfl dX8_isAt_1 (q := 4) rfl ?_
  refine T.ald_0 (q := 5) dX8_isAt_4 rfl ?_
  refine g_X8_117 rfl dX8_isAt_5 (q := 8) rfl ?_
  refine T.ic_ge (tgt := 41) (q := 11) dX8_isAt_8 (by decide) rfl (fun h8 => ?_) (fun h8 => ?_)
  · replace h := s_f (fun q => q h8) h
    refine T.iconst (q := 42) (0) dX8_isAt_41 rfl (by decide) ?_
    exact T.retZ rfl dX8_isAt_42 (by decide) (by decide) rfl ⟨h, rfl⟩
  · replace h := s_t h8 h
    refine T.ald_0 (q := 12) dX8_isAt_11 rfl ?_
    refine g_X8_45 rfl dX8_isAt_12 (q := 15) rfl ?_
    refine T.ald_0 (q := 16) dX8_isAt_15 rfl ?_
    refine g_X8_114 rfl dX8_isAt_16 (q := 19) rfl ?_
    refine T.bald (n := 400) rfl rfl (by decide) dX8_isAt_19 (q := 20) rfl h.1 ?_
    replace h := h.2
    refine T.ild_1 (q := 21) dX8_isAt_20 rfl ?_
    refine T.ic_lt (tgt := 41) (q := 24) dX8_isAt_21 (by decide) rfl (fun h21 => ?_) (fun h21 => ?_)
    · replace h := s_f (fun q => q h21) h
      refine T.iconst (q := 42) (0) dX8_isAt_41 rfl (by decide) ?_
      exact T.retZ rfl dX8_isAt_42 (by decide) (by decide) rfl ⟨h, rfl⟩
    · replace h := s_t h21 h
      refine T.ald_0 (q := 25) dX8_isAt_24 rfl ?_
      refine g_X8_45 rfl dX8_isAt_25 (q := 28) rfl ?_
      refine T.ald_0 (q := 29) dX8_isAt_28 rfl ?_
      refine g_X8_114 rfl dX8_isAt_29 (q := 32) rfl ?_
      refine T.bald (n := 400) rfl rfl (by decide) dX8_isAt_32 (q := 33) rfl h.1 ?_
      replace h := h.2
      refine T.ild_2 (q := 34) dX8_isAt_33 rfl ?_
      refine T.ic_gt (tgt := 41) (q := 37) dX8_isAt_34 (by decide) rfl (fun h34 => ?_) (fun h34 => ?_)
      · replace h := s_f (fun q => q h34) h
        refine T.iconst (q := 42) (0) dX8_isAt_41 rfl (by decide) ?_
        exact T.retZ rfl dX8_isAt_42 (by decide) (by decide) rfl ⟨h, rfl⟩
      · replace h := s_t h34 h
        refine T.iconst (q := 38) (1) dX8_isAt_37 rfl (by decide) ?_
        refine T.goto (tgt := 42) dX8_isAt_38 (by decide) ?_
        exact T.retZ rfl dX8_isAt_42 (by decide) (by decide) rfl ⟨h, rfl⟩
theorem tl_X8_blanks_L0 {G : sk_G} {cells slots : Nat}  {Q : sk_M → Prop}  (hc0 : cells ≤ 0) (hs0 : slots ≤ 0) : ∀ (F : Nat) (s0 : sk_M), lp (w_X8_blanks_L0 Q) F s0 → TJ G mX8_blanks (sk_R 1 0 0) (sk_K G 0 0 (rV Q) noX) cells slots 0 [some (.ref (G.2.2.1 140))] [] s0 := by
  refine lp_sound (fun c hc9 s0 h => ?_)
  unfold w_X8_blanks_L0 at h
  refine T.ald_0 (q := 1) dX8_blanks_0 rfl ?_
  refine T.bipush (q := 3) (32) dX8_blanks_1 rfl (by decide) ?_
  refine T.bipush (q := 5) (32) dX8_blanks_3 rfl (by decide) ?_
  refine k_X8_120 rfl dX8_blanks_5 (q := 8) rfl (by decide) hc0 hs0 (Nat.le_of_ble_eq_true rfl) (t_X8_isAt  h) ?_
  rintro r5 _ ⟨h, h9⟩
  obtain rfl := h9.symm
  refine T.if_eq (tgt := 24) (q := 11) dX8_blanks_8 (by decide) rfl (fun h8 => ?_) (fun h8 => ?_)
  · replace h := s_f (fun q => q h8) h
    refine T.ald_0 (q := 25) dX8_blanks_24 rfl ?_
    refine T.ald_0 (q := 26) dX8_blanks_25 rfl ?_
    refine g_X8_114 rfl dX8_blanks_26 (q := 29) rfl ?_
    refine p_X8_124 rfl dX8_blanks_29 (q := 32) rfl ?_
    refine S.mem h ?_
    intro M29 h
    exact T.retV rfl dX8_blanks_32 hc0 hs0 h
  · replace h := s_t h8 h
    refine T.ald_0 (q := 12) dX8_blanks_11 rfl ?_
    refine T.dup (q := 13) dX8_blanks_12 rfl rfl ?_
    refine g_X8_114 rfl dX8_blanks_13 (q := 16) rfl ?_
    refine T.iconst (q := 17) (1) dX8_blanks_16 rfl (by decide) ?_
    refine T.iadd (q := 18) dX8_blanks_17 rfl ?_
    refine p_X8_114 rfl dX8_blanks_18 (q := 21) rfl ?_
    refine S.mem h ?_
    intro M18 h
    refine T.goto (tgt := 0) dX8_blanks_21 (by decide) ?_
    exact hc9 M18 h
theorem t_X8_blanks {G : sk_G} {M : sk_M}   {Q : sk_M → Prop} (h : w_X8_blanks  M Q) : Ctr G mX8_blanks 1 0 0 [.ref (G.2.2.1 140)] M (rV Q) noX := by
  unfold w_X8_blanks at h
  refine Ctr.of 0 (by decide) (Nat.le_of_ble_eq_true rfl) ?_
  show TJ G mX8_blanks (sk_R 1 0 0) (sk_K G 0 0 (rV Q) noX) 0 0 0 [some (.ref (G.2.2.1 140))] [] M
  exact tl_X8_blanks_L0  (by decide) (by decide) _ M h
theorem tl_X8_letters_L4 {G : sk_G} {cells slots : Nat}  {Q : sk_M → Prop}  (hc0 : cells ≤ 0) (hs0 : slots ≤ 0) : ∀ (F : Nat) (s4 : sk_M), lp (w_X8_letters_L4 Q) F s4 → TJ G mX8_letters (sk_R 2 0 0) (sk_K G 0 0 (rV Q) noX) cells slots 4 [some (.ref (G.2.2.1 140))] [] s4 := by
  refine lp_sound (fun c hc9 s4 h => ?_)
  unfold w_X8_letters_L4 at h
  refine T.ald_0 (q := 5) dX8_letters_4 rfl ?_
  refine T.bipush (q := 7) (97) dX8_letters_5 rfl (by decide) ?_
  refine T.bipush (q := 9) (122) dX8_letters_7 rfl (by decide) ?_
  refine k_X8_120 rfl dX8_letters_9 (q := 12) rfl (by decide) hc0 hs0 (Nat.le_of_ble_eq_true rfl) (t_X8_isAt  h) ?_
  rintro r9 _ ⟨h, h9⟩
  obtain rfl := h9.symm
  refine T.if_eq (tgt := 28) (q := 15) dX8_letters_12 (by decide) rfl (fun h12 => ?_) (fun h12 => ?_)
  · replace h := s_f (fun q => q h12) h
    exact T.retV rfl dX8_letters_28 hc0 hs0 h
  · replace h := s_t h12 h
    refine T.ald_0 (q := 16) dX8_letters_15 rfl ?_
    refine T.dup (q := 17) dX8_letters_16 rfl rfl ?_
    refine g_X8_114 rfl dX8_letters_17 (q := 20) rfl ?_
    refine T.iconst (q := 21) (1) dX8_letters_20 rfl (by decide) ?_
    refine T.iadd (q := 22) dX8_letters_21 rfl ?_
    refine p_X8_114 rfl dX8_letters_22 (q := 25) rfl ?_
    refine S.mem h ?_
    intro M22 h
    refine T.goto (tgt := 4) dX8_letters_25 (by decide) ?_
    exact hc9 M22 h
theorem t_X8_letters {G : sk_G} {M : sk_M}   {Q : sk_M → Prop} (h : w_X8_letters  M Q) : Ctr G mX8_letters 2 0 0 [.ref (G.2.2.1 140)] M (rV Q) noX := by
  unfold w_X8_letters at h
  refine Ctr.of 0 (by decide) (Nat.le_of_ble_eq_true rfl) ?_
  show TJ G mX8_letters (sk_R 2 0 0) (sk_K G 0 0 (rV Q) noX) 0 0 0 [some (.ref (G.2.2.1 140))] [] M
  refine T.ald_0 (q := 1) dX8_letters_0 rfl ?_
  refine k_X8_127 rfl dX8_letters_1 (q := 4) rfl (by decide) (by decide) (by decide) (Nat.le_of_ble_eq_true rfl) (t_X8_blanks  h) ?_
  intro M1 h
  exact tl_X8_letters_L4  (by decide) (by decide) _ M1 h
theorem tl_X8_isWord_L24 {G : sk_G} {M : sk_M} {cells slots : Nat} {j1 : Nat} {Q : Int32 → Prop} (hj1 : j1 < sk_SN) (hc0 : cells ≤ 0) (hs0 : slots ≤ 0) : ∀ (F : Nat) (s24 : Int32 × Int32), lp (w_X8_isWord_L24 j1 M Q) F s24 → TJ G mX8_isWord (sk_R 4 0 0) (sk_K G 0 0 (rI fun r9 M9 => Q r9 ∧ M9 = M) noX) cells slots 24 [some (.ref (G.2.2.1 140)), some (.ref (G.2.2.2.2.1 j1)), some (.int s24.1), some (.int s24.2)] [] M := by
  refine lp_sound (fun c hc9 s24 h => ?_)
  unfold w_X8_isWord_L24 at h
  refine T.ild_2 (q := 25) dX8_isWord_24 rfl ?_
  refine T.if_eq (tgt := 67) (q := 28) dX8_isWord_25 (by decide) rfl (fun h25 => ?_) (fun h25 => ?_)
  · replace h := s_f (fun q => q.1 h25) h
    refine T.ild_2 (q := 68) dX8_isWord_67 rfl ?_
    exact T.retZ rfl dX8_isWord_68 hc0 hs0 (nz01 h.1) ⟨h.2, rfl⟩
  · refine T.ild_3 (q := 29) dX8_isWord_28 rfl ?_
    refine T.ald_1 (q := 30) dX8_isWord_29 rfl ?_
    refine T.cVs (As := []) w_X8_130 cw_J0_length_8abf5 np_J0_length_8abf5 rfl (by decide) rfl hj1 dX8_isWord_30 (q := 33) rfl (d9 := 1) (by decide) hc0 hs0 (Nat.le_of_ble_eq_true rfl) (c_strLen (d := 1) (by decide) hj1) ?_
    rintro _ _ ⟨rfl, h9⟩
    obtain rfl := h9.symm
    refine T.ic_ge (tgt := 67) (q := 36) dX8_isWord_33 (by decide) rfl (fun h33 => ?_) (fun h33 => ?_)
    · replace h := s_f (fun q => (fun q => q h33) q.2) h
      refine T.ild_2 (q := 68) dX8_isWord_67 rfl ?_
      exact T.retZ rfl dX8_isWord_68 hc0 hs0 (nz01 h.1) ⟨h.2, rfl⟩
    · replace h := s_t ⟨h25, h33⟩ h
      refine T.ald_0 (q := 37) dX8_isWord_36 rfl ?_
      refine g_X8_45 rfl dX8_isWord_37 (q := 40) rfl ?_
      refine T.ald_0 (q := 41) dX8_isWord_40 rfl ?_
      refine g_X8_124 rfl dX8_isWord_41 (q := 44) rfl ?_
      refine T.ild_3 (q := 45) dX8_isWord_44 rfl ?_
      refine T.iadd (q := 46) dX8_isWord_45 rfl ?_
      refine T.bald (n := 400) rfl rfl (by decide) dX8_isWord_46 (q := 47) rfl h.1 ?_
      replace h := h.2
      refine T.ald_1 (q := 48) dX8_isWord_47 rfl ?_
      refine T.ild_3 (q := 49) dX8_isWord_48 rfl ?_
      refine T.cVs (As := [.int s24.2]) w_X8_135 cw_J0_charAt_5068e np_J0_charAt_5068e rfl (by decide) rfl hj1 dX8_isWord_49 (q := 52) rfl (d9 := 3) (by decide) hc0 hs0 (Nat.le_of_ble_eq_true rfl) (t_charAt hj1 h.1) ?_
      rintro _ _ ⟨rfl, h9⟩
      obtain rfl := h9.symm
      replace h := h.2
      refine T.ic_ne (tgt := 59) (q := 55) dX8_isWord_52 (by decide) rfl (fun h52 => ?_) (fun h52 => ?_)
      · replace h := s_f h52 h
        refine T.iconst (q := 60) (0) dX8_isWord_59 rfl (by decide) ?_
        refine T.ist_2 (q := 61) dX8_isWord_60 rfl (by decide) sk_ok_r ?_
        refine T.inc_3 (q := 64) (1) dX8_isWord_61 rfl (by decide) (by decide) sk_ok_i ?_
        refine T.goto (tgt := 24) dX8_isWord_64 (by decide) ?_
        exact hc9 ((0 : Int32), (s24.2 + (1 : Int32))) h
      · replace h := s_t h52 h
        refine T.iconst (q := 56) (1) dX8_isWord_55 rfl (by decide) ?_
        refine T.goto (tgt := 60) dX8_isWord_56 (by decide) ?_
        refine T.ist_2 (q := 61) dX8_isWord_60 rfl (by decide) sk_ok_r ?_
        refine T.inc_3 (q := 64) (1) dX8_isWord_61 rfl (by decide) (by decide) sk_ok_i ?_
        refine T.goto (tgt := 24) dX8_isWord_64 (by decide) ?_
        exact hc9 ((1 : Int32), (s24.2 + (1 : Int32))) h
theorem t_X8_isWord {G : sk_G} {M : sk_M} {j1 : Nat} (hj1 : j1 < sk_SN) {Q : Int32 → Prop} (h : w_X8_isWord j1 M Q) : Ctr G mX8_isWord 4 0 0 [.ref (G.2.2.1 140), .ref (G.2.2.2.2.1 j1)] M (rI fun r9 M9 => Q r9 ∧ M9 = M) noX := by
  unfold w_X8_isWord at h
  refine Ctr.of 2 (by decide) (Nat.le_of_ble_eq_true rfl) ?_
  show TJ G mX8_isWord (sk_R 4 0 0) (sk_K G 0 0 (rI fun r9 M9 => Q r9 ∧ M9 = M) noX) 0 0 0 [some (.ref (G.2.2.1 140)), some (.ref (G.2.2.2.2.1 j1)), none, none] [] M
  refine T.ald_0 (q := 1) dX8_isWord_0 rfl ?_
  refine g_X8_114 rfl dX8_isWord_1 (q := 4) rfl ?_
  refine T.ald_0 (q := 5) dX8_isWord_4 rfl ?_
  refine g_X8_124 rfl dX8_isWord_5 (q := 8) rfl ?_
  refine T.isub (q := 9) dX8_isWord_8 rfl ?_
  refine T.ald_1 (q := 10) dX8_isWord_9 rfl ?_
  refine T.cVs (As := []) w_X8_130 cw_J0_length_8abf5 np_J0_length_8abf5 rfl (by decide) rfl hj1 dX8_isWord_10 (q := 13) rfl (d9 := 1) (by decide) (by decide) (by decide) (Nat.le_of_ble_eq_true rfl) (c_strLen (d := 1) (by decide) hj1) ?_
  rintro _ _ ⟨rfl, h9⟩
  obtain rfl := h9.symm
  refine s_dia (fun s21_13 : Int32 => TJ G mX8_isWord (sk_R 4 0 0) (sk_K G 0 0 (rI fun r9 M9 => Q r9 ∧ M9 = M) noX) 0 0 21 [some (.ref (G.2.2.1 140)), some (.ref (G.2.2.2.2.1 j1)), none, none] [.int s21_13] M) h (fun s21_13 h => ?_) (fun k9 hJ9 h => ?_)
  · refine T.ist_2 (q := 22) dX8_isWord_21 rfl (by decide) sk_ok_r ?_
    refine T.iconst (q := 23) (0) dX8_isWord_22 rfl (by decide) ?_
    refine T.ist_3 (q := 24) dX8_isWord_23 rfl (by decide) sk_ok_i ?_
    exact tl_X8_isWord_L24 hj1 (by decide) (by decide) _ (s21_13, (0 : Int32)) h
  · refine T.ic_ne (tgt := 20) (q := 16) dX8_isWord_13 (by decide) rfl (fun h13 => ?_) (fun h13 => ?_)
    · replace h := s_fk h13 h
      refine T.iconst (q := 21) (0) dX8_isWord_20 rfl (by decide) ?_
      exact hJ9 _ h
    · replace h := s_tk h13 h
      refine T.iconst (q := 17) (1) dX8_isWord_16 rfl (by decide) ?_
      refine T.goto (tgt := 21) dX8_isWord_17 (by decide) ?_
      exact hJ9 _ h
theorem t_X8_passes {G : sk_G} {M : sk_M} {j1 : Nat} (hj1 : j1 < sk_SN) {Q : Int32 → sk_M → Prop} (h : w_X8_passes j1 M Q) : Ctr G mX8_passes 5 0 0 [.ref (G.2.2.1 140), .ref (G.2.2.2.2.1 j1)] M (rI Q) noX := by
  unfold w_X8_passes at h
  refine Ctr.of 0 (by decide) (Nat.le_of_ble_eq_true rfl) ?_
  show TJ G mX8_passes (sk_R 5 0 0) (sk_K G 0 0 (rI Q) noX) 0 0 0 [some (.ref (G.2.2.1 140)), some (.ref (G.2.2.2.2.1 j1))] [] M
  refine T.ald_0 (q := 1) dX8_passes_0 rfl ?_
  refine k_X8_139 rfl dX8_passes_1 (q := 4) rfl (by decide) (by decide) (by decide) (Nat.le_of_ble_eq_true rfl) (t_X8_letters  h) ?_
  intro M1 h
  refine T.ald_0 (q := 5) dX8_passes_4 rfl ?_
  refine T.ald_1 (q := 6) dX8_passes_5 rfl ?_
  refine k_X8_142 rfl dX8_passes_6 (q := 9) rfl (by decide) (by decide) (by decide) (Nat.le_of_ble_eq_true rfl) (t_X8_isWord hj1 h) ?_
  rintro r6 _ ⟨h, h9⟩
  obtain rfl := h9.symm
  refine T.if_eq (tgt := 14) (q := 12) dX8_passes_9 (by decide) rfl (fun h9 => ?_) (fun h9 => ?_)
  · replace h := s_f (fun q => q h9) h
    refine T.ald_0 (q := 15) dX8_passes_14 rfl ?_
    refine T.ald_0 (q := 16) dX8_passes_15 rfl ?_
    refine g_X8_124 rfl dX8_passes_16 (q := 19) rfl ?_
    refine p_X8_114 rfl dX8_passes_19 (q := 22) rfl ?_
    refine S.mem h ?_
    intro M19 h
    refine T.iconst (q := 23) (0) dX8_passes_22 rfl (by decide) ?_
    exact T.retZ rfl dX8_passes_23 (by decide) (by decide) rfl h
  · replace h := s_t h9 h
    refine T.iconst (q := 13) (1) dX8_passes_12 rfl (by decide) ?_
    exact T.retZ rfl dX8_passes_13 (by decide) (by decide) rfl h
theorem t_X8_sign {G : sk_G} {M : sk_M} {a1 : Int32}  {Q : Int32 → sk_M → Prop} (h : w_X8_sign a1 M Q) : Ctr G mX8_sign 2 0 0 [.ref (G.2.2.1 140), .int a1] M (rI Q) noX := by
  unfold w_X8_sign at h
  refine Ctr.of 0 (by decide) (Nat.le_of_ble_eq_true rfl) ?_
  show TJ G mX8_sign (sk_R 2 0 0) (sk_K G 0 0 (rI Q) noX) 0 0 0 [some (.ref (G.2.2.1 140)), some (.int a1)] [] M
  refine T.ald_0 (q := 1) dX8_sign_0 rfl ?_
  refine k_X8_127 rfl dX8_sign_1 (q := 4) rfl (by decide) (by decide) (by decide) (Nat.le_of_ble_eq_true rfl) (t_X8_blanks  h) ?_
  intro M1 h
  refine T.ald_0 (q := 5) dX8_sign_4 rfl ?_
  refine T.ild_1 (q := 6) dX8_sign_5 rfl ?_
  refine T.ild_1 (q := 7) dX8_sign_6 rfl ?_
  refine k_X8_120 rfl dX8_sign_7 (q := 10) rfl (by decide) (by decide) (by decide) (Nat.le_of_ble_eq_true rfl) (t_X8_isAt  h) ?_
  rintro r7 _ ⟨h, h9⟩
  obtain rfl := h9.symm
  refine T.if_ne (tgt := 15) (q := 13) dX8_sign_10 (by decide) rfl (fun h10 => ?_) (fun h10 => ?_)
  · replace h := s_f h10 h
    refine T.ald_0 (q := 16) dX8_sign_15 rfl ?_
    refine T.dup (q := 17) dX8_sign_16 rfl rfl ?_
    refine g_X8_114 rfl dX8_sign_17 (q := 20) rfl ?_
    refine T.iconst (q := 21) (1) dX8_sign_20 rfl (by decide) ?_
    refine T.iadd (q := 22) dX8_sign_21 rfl ?_
    refine p_X8_114 rfl dX8_sign_22 (q := 25) rfl ?_
    refine S.mem h ?_
    intro M22 h
    refine T.iconst (q := 26) (1) dX8_sign_25 rfl (by decide) ?_
    exact T.retZ rfl dX8_sign_26 (by decide) (by decide) rfl h
  · replace h := s_t h10 h
    refine T.iconst (q := 14) (0) dX8_sign_13 rfl (by decide) ?_
    exact T.retZ rfl dX8_sign_14 (by decide) (by decide) rfl h
theorem tl_X8_number_L6 {G : sk_G} {cells slots : Nat} {a1 : Int32} {a2 : Int32} {Q : Int32 → sk_M → Prop} {k65 : (Int32 × sk_M) → Prop}  (hc0 : cells ≤ 0) (hs0 : slots ≤ 0) (hk65 : ∀ s65 : Int32 × sk_M, k65 s65 → TJ G mX8_number (sk_R 2 0 0) (sk_K G 0 0 (rI Q) noX) cells slots 65 [some (.ref (G.2.2.1 140)), some (.int a1), some (.int a2), some (.int s65.1)] [] s65.2) : ∀ (F : Nat) (s6 : Int32 × sk_M), lp (w_X8_number_L6  k65) F s6 → TJ G mX8_number (sk_R 2 0 0) (sk_K G 0 0 (rI Q) noX) cells slots 6 [some (.ref (G.2.2.1 140)), some (.int a1), some (.int a2), some (.int s6.1)] [] s6.2 := by
  refine lp_sound (fun c hc9 s6 h => ?_)
  unfold w_X8_number_L6 at h
  refine T.ald_0 (q := 7) dX8_number_6 rfl ?_
  refine T.bipush (q := 9) (48) dX8_number_7 rfl (by decide) ?_
  refine T.bipush (q := 11) (57) dX8_number_9 rfl (by decide) ?_
  refine k_X8_120 rfl dX8_number_11 (q := 14) rfl (by decide) hc0 hs0 (Nat.le_of_ble_eq_true rfl) (t_X8_isAt  h) ?_
  rintro r11 _ ⟨h, h9⟩
  obtain rfl := h9.symm
  refine T.if_eq (tgt := 65) (q := 17) dX8_number_14 (by decide) rfl (fun h14 => ?_) (fun h14 => ?_)
  · replace h := s_f (fun q => q h14) h
    exact hk65 (s6.1, s6.2) h
  · replace h := s_t h14 h
    refine T.ald_0 (q := 18) dX8_number_17 rfl ?_
    refine g_X8_114 rfl dX8_number_18 (q := 21) rfl ?_
    refine T.ald_0 (q := 22) dX8_number_21 rfl ?_
    refine g_X8_124 rfl dX8_number_22 (q := 25) rfl ?_
    refine T.isub (q := 26) dX8_number_25 rfl ?_
    refine T.iconst (q := 27) (3) dX8_number_26 rfl (by decide) ?_
    refine T.ic_ge (tgt := 50) (q := 30) dX8_number_27 (by decide) rfl (fun h27 => ?_) (fun h27 => ?_)
    · replace h := s_f (fun q => q h27) h
      refine T.ild_3 (q := 51) dX8_number_50 rfl ?_
      refine T.ist_3 (q := 52) dX8_number_51 rfl (by decide) sk_ok_i ?_
      refine T.ald_0 (q := 53) dX8_number_52 rfl ?_
      refine T.dup (q := 54) dX8_number_53 rfl rfl ?_
      refine g_X8_114 rfl dX8_number_54 (q := 57) rfl ?_
      refine T.iconst (q := 58) (1) dX8_number_57 rfl (by decide) ?_
      refine T.iadd (q := 59) dX8_number_58 rfl ?_
      refine p_X8_114 rfl dX8_number_59 (q := 62) rfl ?_
      refine S.mem h ?_
      intro M59 h
      refine T.goto (tgt := 6) dX8_number_62 (by decide) ?_
      exact hc9 (s6.1, M59) h
    · replace h := s_t h27 h
      refine T.bipush (q := 32) (10) dX8_number_30 rfl (by decide) ?_
      refine T.ild_3 (q := 33) dX8_number_32 rfl ?_
      refine T.imul (q := 34) dX8_number_33 rfl ?_
      refine T.ald_0 (q := 35) dX8_number_34 rfl ?_
      refine g_X8_45 rfl dX8_number_35 (q := 38) rfl ?_
      refine T.ald_0 (q := 39) dX8_number_38 rfl ?_
      refine g_X8_114 rfl dX8_number_39 (q := 42) rfl ?_
      refine T.bald (n := 400) rfl rfl (by decide) dX8_number_42 (q := 43) rfl h.1 ?_
      replace h := h.2
      refine T.iadd (q := 44) dX8_number_43 rfl ?_
      refine T.bipush (q := 46) (48) dX8_number_44 rfl (by decide) ?_
      refine T.isub (q := 47) dX8_number_46 rfl ?_
      refine T.goto (tgt := 51) dX8_number_47 (by decide) ?_
      refine T.ist_3 (q := 52) dX8_number_51 rfl (by decide) sk_ok_i ?_
      refine S.i3 h ?_
      intro y51 h
      refine T.ald_0 (q := 53) dX8_number_52 rfl ?_
      refine T.dup (q := 54) dX8_number_53 rfl rfl ?_
      refine g_X8_114 rfl dX8_number_54 (q := 57) rfl ?_
      refine T.iconst (q := 58) (1) dX8_number_57 rfl (by decide) ?_
      refine T.iadd (q := 59) dX8_number_58 rfl ?_
      refine p_X8_114 rfl dX8_number_59 (q := 62) rfl ?_
      refine S.mem h ?_
      intro M59 h
      refine T.goto (tgt := 6) dX8_number_62 (by decide) ?_
      exact hc9 (y51, M59) h
theorem t_X8_number {G : sk_G} {M : sk_M} {a1 : Int32} {a2 : Int32}  {Q : Int32 → sk_M → Prop} (h : w_X8_number a1 a2 M Q) : Ctr G mX8_number 2 0 0 [.ref (G.2.2.1 140), .int a1, .int a2] M (rI Q) noX := by
  unfold w_X8_number at h
  refine Ctr.of 1 (by decide) (Nat.le_of_ble_eq_true rfl) ?_
  show TJ G mX8_number (sk_R 2 0 0) (sk_K G 0 0 (rI Q) noX) 0 0 0 [some (.ref (G.2.2.1 140)), some (.int a1), some (.int a2), none] [] M
  refine T.ald_0 (q := 1) dX8_number_0 rfl ?_
  refine k_X8_127 rfl dX8_number_1 (q := 4) rfl (by decide) (by decide) (by decide) (Nat.le_of_ble_eq_true rfl) (t_X8_blanks  h) ?_
  intro M1 h
  refine T.iconst (q := 5) (0) dX8_number_4 rfl (by decide) ?_
  refine T.ist_3 (q := 6) dX8_number_5 rfl (by decide) sk_ok_i ?_
  refine tl_X8_number_L6  (by decide) (by decide) ?_ _ ((0 : Int32), M1) h
  intro s65 h
  refine T.ald_0 (q := 66) dX8_number_65 rfl ?_
  refine g_X8_114 rfl dX8_number_66 (q := 69) rfl ?_
  refine T.ald_0 (q := 70) dX8_number_69 rfl ?_
  refine g_X8_124 rfl dX8_number_70 (q := 73) rfl ?_
  refine T.ic_eq (tgt := 99) (q := 76) dX8_number_73 (by decide) rfl (fun h73 => ?_) (fun h73 => ?_)
  · replace h := s_t (Or.inl h73) h
    refine T.iconst (q := 100) (-1) dX8_number_99 rfl (by decide) ?_
    refine T.goto (tgt := 104) dX8_number_100 (by decide) ?_
    exact T.retI rfl dX8_number_104 (by decide) (by decide) h
  · refine T.ald_0 (q := 77) dX8_number_76 rfl ?_
    refine g_X8_114 rfl dX8_number_77 (q := 80) rfl ?_
    refine T.ald_0 (q := 81) dX8_number_80 rfl ?_
    refine g_X8_124 rfl dX8_number_81 (q := 84) rfl ?_
    refine T.isub (q := 85) dX8_number_84 rfl ?_
    refine T.iconst (q := 86) (3) dX8_number_85 rfl (by decide) ?_
    refine T.ic_gt (tgt := 99) (q := 89) dX8_number_86 (by decide) rfl (fun h86 => ?_) (fun h86 => ?_)
    · replace h := s_t (Or.inr (Or.inl h86)) h
      refine T.iconst (q := 100) (-1) dX8_number_99 rfl (by decide) ?_
      refine T.goto (tgt := 104) dX8_number_100 (by decide) ?_
      exact T.retI rfl dX8_number_104 (by decide) (by decide) h
    · refine T.ild_3 (q := 90) dX8_number_89 rfl ?_
      refine T.ild_1 (q := 91) dX8_number_90 rfl ?_
      refine T.ic_lt (tgt := 99) (q := 94) dX8_number_91 (by decide) rfl (fun h91 => ?_) (fun h91 => ?_)
      · replace h := s_t (Or.inr (Or.inr (Or.inl h91))) h
        refine T.iconst (q := 100) (-1) dX8_number_99 rfl (by decide) ?_
        refine T.goto (tgt := 104) dX8_number_100 (by decide) ?_
        exact T.retI rfl dX8_number_104 (by decide) (by decide) h
      · refine T.ild_3 (q := 95) dX8_number_94 rfl ?_
        refine T.ild_2 (q := 96) dX8_number_95 rfl ?_
        refine T.ic_le (tgt := 103) (q := 99) dX8_number_96 (by decide) rfl (fun h96 => ?_) (fun h96 => ?_)
        · replace h := s_f (fun q => q.elim h73 (fun q => q.elim h86 (fun q => q.elim h91 (fun q => q h96)))) h
          refine T.ild_3 (q := 104) dX8_number_103 rfl ?_
          exact T.retI rfl dX8_number_104 (by decide) (by decide) h
        · replace h := s_t (Or.inr (Or.inr (Or.inr h96))) h
          refine T.iconst (q := 100) (-1) dX8_number_99 rfl (by decide) ?_
          refine T.goto (tgt := 104) dX8_number_100 (by decide) ?_
          exact T.retI rfl dX8_number_104 (by decide) (by decide) h
theorem t_X8_after {G : sk_G} {M : sk_M} {j1 : Nat} {a2 : Int32} {a3 : Int32} (hj1 : j1 < sk_SN) {Q : Int32 → sk_M → Prop} (h : w_X8_after j1 a2 a3 M Q) : Ctr G mX8_after 5 0 0 [.ref (G.2.2.1 140), .ref (G.2.2.2.2.1 j1), .int a2, .int a3] M (rI Q) noX := by
  unfold w_X8_after at h
  refine Ctr.of 0 (by decide) (Nat.le_of_ble_eq_true rfl) ?_
  show TJ G mX8_after (sk_R 5 0 0) (sk_K G 0 0 (rI Q) noX) 0 0 0 [some (.ref (G.2.2.1 140)), some (.ref (G.2.2.2.2.1 j1)), some (.int a2), some (.int a3)] [] M
  refine T.ald_0 (q := 1) dX8_after_0 rfl ?_
  refine k_X8_139 rfl dX8_after_1 (q := 4) rfl (by decide) (by decide) (by decide) (Nat.le_of_ble_eq_true rfl) (t_X8_letters  h) ?_
  intro M1 h
  refine T.ald_0 (q := 5) dX8_after_4 rfl ?_
  refine T.ald_1 (q := 6) dX8_after_5 rfl ?_
  refine k_X8_142 rfl dX8_after_6 (q := 9) rfl (by decide) (by decide) (by decide) (Nat.le_of_ble_eq_true rfl) (t_X8_isWord hj1 h) ?_
  rintro r6 _ ⟨h, h9⟩
  obtain rfl := h9.symm
  refine T.if_eq (tgt := 21) (q := 12) dX8_after_9 (by decide) rfl (fun h9 => ?_) (fun h9 => ?_)
  · replace h := s_f (fun q => q h9) h
    refine T.iconst (q := 22) (-1) dX8_after_21 rfl (by decide) ?_
    exact T.retI rfl dX8_after_22 (by decide) (by decide) h
  · replace h := s_t h9 h
    refine T.ald_0 (q := 13) dX8_after_12 rfl ?_
    refine T.ild_2 (q := 14) dX8_after_13 rfl ?_
    refine T.ild_3 (q := 15) dX8_after_14 rfl ?_
    refine k_X8_146 rfl dX8_after_15 (q := 18) rfl (by decide) (by decide) (by decide) (Nat.le_of_ble_eq_true rfl) (t_X8_number  h) ?_
    intro r15 M15 h
    refine T.goto (tgt := 22) dX8_after_18 (by decide) ?_
    exact T.retI rfl dX8_after_22 (by decide) (by decide) h
theorem t_X8_isFigure {G : sk_G} {M : sk_M}   {Q : Int32 → sk_M → Prop} (h : w_X8_isFigure  M Q) : Ctr G mX8_isFigure 2 0 0 [.ref (G.2.2.1 140)] M (rI Q) noX := by
  unfold w_X8_isFigure at h
  refine Ctr.of 0 (by decide) (Nat.le_of_ble_eq_true rfl) ?_
  show TJ G mX8_isFigure (sk_R 2 0 0) (sk_K G 0 0 (rI Q) noX) 0 0 0 [some (.ref (G.2.2.1 140))] [] M
  refine T.ald_0 (q := 1) dX8_isFigure_0 rfl ?_
  refine k_X8_127 rfl dX8_isFigure_1 (q := 4) rfl (by decide) (by decide) (by decide) (Nat.le_of_ble_eq_true rfl) (t_X8_blanks  h) ?_
  intro M1 h
  refine T.ald_0 (q := 5) dX8_isFigure_4 rfl ?_
  refine T.bipush (q := 7) (48) dX8_isFigure_5 rfl (by decide) ?_
  refine T.bipush (q := 9) (57) dX8_isFigure_7 rfl (by decide) ?_
  refine k_X8_120 rfl dX8_isFigure_9 (q := 12) rfl (by decide) (by decide) (by decide) (Nat.le_of_ble_eq_true rfl) (t_X8_isAt  h) ?_
  rintro r9 _ ⟨h, h9⟩
  obtain rfl := h9.symm
  exact T.retZ rfl dX8_isFigure_12 (by decide) (by decide) (nz01 h.1) h.2
theorem t_X8_fault {G : sk_G} {M : sk_M}   {Q : Int32 → sk_M → Prop} (h : w_X8_fault  M Q) : Ctr G mX8_fault 0 0 0 [.ref (G.2.2.1 140)] M (rI Q) noX := by
  unfold w_X8_fault at h
  refine Ctr.of 0 (by decide) (Nat.le_of_ble_eq_true rfl) ?_
  show TJ G mX8_fault (sk_R 0 0 0) (sk_K G 0 0 (rI Q) noX) 0 0 0 [some (.ref (G.2.2.1 140))] [] M
  refine T.ald_0 (q := 1) dX8_fault_0 rfl ?_
  refine T.iconst (q := 2) (0) dX8_fault_1 rfl (by decide) ?_
  refine p_X8_3 rfl dX8_fault_2 (q := 5) rfl ?_
  refine S.mem h ?_
  intro M2 h
  refine T.ald_0 (q := 6) dX8_fault_5 rfl ?_
  refine g_X8_49 rfl dX8_fault_6 (q := 9) rfl ?_
  exact T.retI rfl dX8_fault_9 (by decide) (by decide) h
theorem t_X8_uses {G : sk_G} {M : sk_M}   {Q : sk_M → Prop} (h : w_X8_uses  M Q) : Ctr G mX8_uses 0 0 0 [.ref (G.2.2.1 140)] M (rV Q) noX := by
  unfold w_X8_uses at h
  refine Ctr.of 0 (by decide) (Nat.le_of_ble_eq_true rfl) ?_
  show TJ G mX8_uses (sk_R 0 0 0) (sk_K G 0 0 (rV Q) noX) 0 0 0 [some (.ref (G.2.2.1 140))] [] M
  refine T.ald_0 (q := 1) dX8_uses_0 rfl ?_
  refine T.iconst (q := 2) (0) dX8_uses_1 rfl (by decide) ?_
  refine p_X8_3 rfl dX8_uses_2 (q := 5) rfl ?_
  refine S.mem h ?_
  intro M2 h
  refine T.ald_0 (q := 6) dX8_uses_5 rfl ?_
  refine T.ald_0 (q := 7) dX8_uses_6 rfl ?_
  refine g_X8_111 rfl dX8_uses_7 (q := 10) rfl ?_
  refine p_X8_117 rfl dX8_uses_10 (q := 13) rfl ?_
  refine S.mem h ?_
  intro M10 h
  refine T.ald_0 (q := 14) dX8_uses_13 rfl ?_
  refine T.iconst (q := 15) (0) dX8_uses_14 rfl (by decide) ?_
  refine p_X8_111 rfl dX8_uses_15 (q := 18) rfl ?_
  refine S.mem h ?_
  intro M15 h
  refine T.ald_0 (q := 19) dX8_uses_18 rfl ?_
  refine T.iconst (q := 20) (0) dX8_uses_19 rfl (by decide) ?_
  refine p_X8_114 rfl dX8_uses_20 (q := 23) rfl ?_
  refine S.mem h ?_
  intro M20 h
  exact T.retV rfl dX8_uses_23 (by decide) (by decide) h
theorem t_X8_personTold {G : sk_G} {M : sk_M}   {Q : Int32 → sk_M → Prop} (h : w_X8_personTold  M Q) : Ctr G mX8_personTold 3 0 0 [.ref (G.2.2.1 140)] M (rI Q) noX := by
  unfold w_X8_personTold at h
  refine Ctr.of 0 (by decide) (Nat.le_of_ble_eq_true rfl) ?_
  show TJ G mX8_personTold (sk_R 3 0 0) (sk_K G 0 0 (rI Q) noX) 0 0 0 [some (.ref (G.2.2.1 140))] [] M
  refine T.ald_0 (q := 1) dX8_personTold_0 rfl ?_
  refine T.iconst (q := 2) (0) dX8_personTold_1 rfl (by decide) ?_
  refine T.ald_0 (q := 3) dX8_personTold_2 rfl ?_
  refine k_X8_89 rfl dX8_personTold_3 (q := 6) rfl (by decide) (by decide) (by decide) (Nat.le_of_ble_eq_true rfl) (t_X8_people (P := fun r9 => r9 = (f_X8_people M)) rfl) ?_
  rintro _ _ ⟨rfl, h9⟩
  obtain rfl := h9.symm
  refine T.iconst (q := 7) (1) dX8_personTold_6 rfl (by decide) ?_
  refine T.isub (q := 8) dX8_personTold_7 rfl ?_
  refine k_X8_146 rfl dX8_personTold_8 (q := 11) rfl (by decide) (by decide) (by decide) (Nat.le_of_ble_eq_true rfl) (t_X8_number  h) ?_
  intro r8 M8 h
  exact T.retI rfl dX8_personTold_11 (by decide) (by decide) h
theorem t_X8_vaultTold {G : sk_G} {M : sk_M}   {Q : Int32 → sk_M → Prop} (h : w_X8_vaultTold  M Q) : Ctr G mX8_vaultTold 3 0 0 [.ref (G.2.2.1 140)] M (rI Q) noX := by
  unfold w_X8_vaultTold at h
  refine Ctr.of 0 (by decide) (Nat.le_of_ble_eq_true rfl) ?_
  show TJ G mX8_vaultTold (sk_R 3 0 0) (sk_K G 0 0 (rI Q) noX) 0 0 0 [some (.ref (G.2.2.1 140))] [] M
  refine T.ald_0 (q := 1) dX8_vaultTold_0 rfl ?_
  refine T.iconst (q := 2) (0) dX8_vaultTold_1 rfl (by decide) ?_
  refine T.ald_0 (q := 3) dX8_vaultTold_2 rfl ?_
  refine k_X8_81 rfl dX8_vaultTold_3 (q := 6) rfl (by decide) (by decide) (by decide) (Nat.le_of_ble_eq_true rfl) (t_X8_vaults (P := fun r9 => r9 = (f_X8_vaults M)) rfl) ?_
  rintro _ _ ⟨rfl, h9⟩
  obtain rfl := h9.symm
  refine T.iconst (q := 7) (1) dX8_vaultTold_6 rfl (by decide) ?_
  refine T.isub (q := 8) dX8_vaultTold_7 rfl ?_
  refine k_X8_146 rfl dX8_vaultTold_8 (q := 11) rfl (by decide) (by decide) (by decide) (Nat.le_of_ble_eq_true rfl) (t_X8_number  h) ?_
  intro r8 M8 h
  exact T.retI rfl dX8_vaultTold_11 (by decide) (by decide) h
theorem tl_X8_codeTold_L8 {G : sk_G} {cells slots : Nat}  {Q : Int32 → sk_M → Prop} {k95 : (Int32 × Int32 × sk_M) → Prop}  (hc0 : cells ≤ 0) (hs0 : slots ≤ 0) (hk95 : ∀ s95 : Int32 × Int32 × sk_M, k95 s95 → TJ G mX8_codeTold (sk_R 2 0 0) (sk_K G 0 0 (rI Q) noX) cells slots 95 [some (.ref (G.2.2.1 140)), some (.int s95.1), some (.int s95.2.1)] [] s95.2.2) : ∀ (F : Nat) (s8 : Int32 × Int32 × sk_M), lp (w_X8_codeTold_L8  k95) F s8 → TJ G mX8_codeTold (sk_R 2 0 0) (sk_K G 0 0 (rI Q) noX) cells slots 8 [some (.ref (G.2.2.1 140)), some (.int s8.1), some (.int s8.2.1)] [] s8.2.2 := by
  refine lp_sound (fun c hc9 s8 h => ?_)
  unfold w_X8_codeTold_L8 at h
  refine T.ald_0 (q := 9) dX8_codeTold_8 rfl ?_
  refine T.bipush (q := 11) (48) dX8_codeTold_9 rfl (by decide) ?_
  refine T.bipush (q := 13) (57) dX8_codeTold_11 rfl (by decide) ?_
  refine k_X8_120 rfl dX8_codeTold_13 (q := 16) rfl (by decide) hc0 hs0 (Nat.le_of_ble_eq_true rfl) (t_X8_isAt  h) ?_
  rintro r13 _ ⟨h, h9⟩
  obtain rfl := h9.symm
  refine T.if_eq (tgt := 95) (q := 19) dX8_codeTold_16 (by decide) rfl (fun h16 => ?_) (fun h16 => ?_)
  · replace h := s_f (fun q => q h16) h
    exact hk95 (s8.1, s8.2.1, s8.2.2) h
  · replace h := s_t h16 h
    refine T.ild_2 (q := 20) dX8_codeTold_19 rfl ?_
    refine s_join (fun s55_20 : Int32 => TJ G mX8_codeTold (sk_R 2 0 0) (sk_K G 0 0 (rI Q) noX) cells slots 55 [some (.ref (G.2.2.1 140)), some (.int s8.1), none] [.int s55_20] s8.2.2) h (fun s55_20 h => ?_) (fun j55_20 hj55_20 h => ?_)
    · refine T.ist_2 (q := 56) dX8_codeTold_55 rfl (by decide) sk_ok_i ?_
      refine T.ild_2 (q := 57) dX8_codeTold_56 rfl ?_
      refine T.if_eq (tgt := 80) (q := 60) dX8_codeTold_57 (by decide) rfl (fun h57 => ?_) (fun h57 => ?_)
      · replace h := s_f (fun q => q h57) h
        refine T.ild_1 (q := 81) dX8_codeTold_80 rfl ?_
        refine T.ist_1 (q := 82) dX8_codeTold_81 rfl (by decide) sk_ok_r ?_
        refine T.ald_0 (q := 83) dX8_codeTold_82 rfl ?_
        refine T.dup (q := 84) dX8_codeTold_83 rfl rfl ?_
        refine g_X8_114 rfl dX8_codeTold_84 (q := 87) rfl ?_
        refine T.iconst (q := 88) (1) dX8_codeTold_87 rfl (by decide) ?_
        refine T.iadd (q := 89) dX8_codeTold_88 rfl ?_
        refine p_X8_114 rfl dX8_codeTold_89 (q := 92) rfl ?_
        refine S.mem h ?_
        intro M89 h
        refine T.goto (tgt := 8) dX8_codeTold_92 (by decide) ?_
        exact hc9 (s8.1, s55_20, M89) h
      · replace h := s_t h57 h
        refine T.bipush (q := 62) (6) dX8_codeTold_60 rfl (by decide) ?_
        refine T.ild_1 (q := 63) dX8_codeTold_62 rfl ?_
        refine T.imul (q := 64) dX8_codeTold_63 rfl ?_
        refine T.ald_0 (q := 65) dX8_codeTold_64 rfl ?_
        refine g_X8_45 rfl dX8_codeTold_65 (q := 68) rfl ?_
        refine T.ald_0 (q := 69) dX8_codeTold_68 rfl ?_
        refine g_X8_114 rfl dX8_codeTold_69 (q := 72) rfl ?_
        refine T.bald (n := 400) rfl rfl (by decide) dX8_codeTold_72 (q := 73) rfl h.1 ?_
        replace h := h.2
        refine T.iadd (q := 74) dX8_codeTold_73 rfl ?_
        refine T.bipush (q := 76) (48) dX8_codeTold_74 rfl (by decide) ?_
        refine T.isub (q := 77) dX8_codeTold_76 rfl ?_
        refine T.goto (tgt := 81) dX8_codeTold_77 (by decide) ?_
        refine T.ist_1 (q := 82) dX8_codeTold_81 rfl (by decide) sk_ok_r ?_
        refine S.i1 h ?_
        intro y81 h
        refine T.ald_0 (q := 83) dX8_codeTold_82 rfl ?_
        refine T.dup (q := 84) dX8_codeTold_83 rfl rfl ?_
        refine g_X8_114 rfl dX8_codeTold_84 (q := 87) rfl ?_
        refine T.iconst (q := 88) (1) dX8_codeTold_87 rfl (by decide) ?_
        refine T.iadd (q := 89) dX8_codeTold_88 rfl ?_
        refine p_X8_114 rfl dX8_codeTold_89 (q := 92) rfl ?_
        refine S.mem h ?_
        intro M89 h
        refine T.goto (tgt := 8) dX8_codeTold_92 (by decide) ?_
        exact hc9 (y81, s55_20, M89) h
    · refine s_join (fun s54_20 : Unit => TJ G mX8_codeTold (sk_R 2 0 0) (sk_K G 0 0 (rI Q) noX) cells slots 54 [some (.ref (G.2.2.1 140)), some (.int s8.1), none] [] s8.2.2) h (fun s54_20 h => ?_) (fun j54_20 hj54_20 h => ?_)
      · refine T.iconst (q := 55) (0) dX8_codeTold_54 rfl (by decide) ?_
        exact hj55_20 (0 : Int32) h
      · refine T.if_eq (tgt := 54) (q := 23) dX8_codeTold_20 (by decide) rfl (fun h20 => ?_) (fun h20 => ?_)
        · replace h := s_f (fun q => q.1 h20) h
          refine T.drop_2 ?_
          exact hj54_20 () h
        · refine T.ald_0 (q := 24) dX8_codeTold_23 rfl ?_
          refine g_X8_114 rfl dX8_codeTold_24 (q := 27) rfl ?_
          refine T.ald_0 (q := 28) dX8_codeTold_27 rfl ?_
          refine g_X8_124 rfl dX8_codeTold_28 (q := 31) rfl ?_
          refine T.isub (q := 32) dX8_codeTold_31 rfl ?_
          refine T.iconst (q := 33) (3) dX8_codeTold_32 rfl (by decide) ?_
          refine T.ic_ge (tgt := 54) (q := 36) dX8_codeTold_33 (by decide) rfl (fun h33 => ?_) (fun h33 => ?_)
          · replace h := s_f (fun q => (fun q => q h33) q.2) h
            refine T.drop_2 ?_
            exact hj54_20 () h
          · replace h := s_t ⟨h20, h33⟩ h
            refine T.ald_0 (q := 37) dX8_codeTold_36 rfl ?_
            refine g_X8_45 rfl dX8_codeTold_37 (q := 40) rfl ?_
            refine T.ald_0 (q := 41) dX8_codeTold_40 rfl ?_
            refine g_X8_114 rfl dX8_codeTold_41 (q := 44) rfl ?_
            refine T.bald (n := 400) rfl rfl (by decide) dX8_codeTold_44 (q := 45) rfl h.1 ?_
            replace h := h.2
            refine T.bipush (q := 47) (54) dX8_codeTold_45 rfl (by decide) ?_
            refine T.ic_ge (tgt := 54) (q := 50) dX8_codeTold_47 (by decide) rfl (fun h47 => ?_) (fun h47 => ?_)
            · replace h := s_f (fun q => q h47) h
              refine T.drop_2 ?_
              exact hj54_20 () h
            · replace h := s_t h47 h
              refine T.iconst (q := 51) (1) dX8_codeTold_50 rfl (by decide) ?_
              refine T.goto (tgt := 55) dX8_codeTold_51 (by decide) ?_
              refine T.drop_2 ?_
              exact hj55_20 (1 : Int32) h
theorem t_X8_codeTold {G : sk_G} {M : sk_M}   {Q : Int32 → sk_M → Prop} (h : w_X8_codeTold  M Q) : Ctr G mX8_codeTold 2 0 0 [.ref (G.2.2.1 140)] M (rI Q) noX := by
  unfold w_X8_codeTold at h
  refine Ctr.of 2 (by decide) (Nat.le_of_ble_eq_true rfl) ?_
  show TJ G mX8_codeTold (sk_R 2 0 0) (sk_K G 0 0 (rI Q) noX) 0 0 0 [some (.ref (G.2.2.1 140)), none, none] [] M
  refine T.ald_0 (q := 1) dX8_codeTold_0 rfl ?_
  refine k_X8_127 rfl dX8_codeTold_1 (q := 4) rfl (by decide) (by decide) (by decide) (Nat.le_of_ble_eq_true rfl) (t_X8_blanks  h) ?_
  intro M1 h
  refine T.iconst (q := 5) (0) dX8_codeTold_4 rfl (by decide) ?_
  refine T.ist_1 (q := 6) dX8_codeTold_5 rfl (by decide) sk_ok_r ?_
  refine T.iconst (q := 7) (1) dX8_codeTold_6 rfl (by decide) ?_
  refine T.ist_2 (q := 8) dX8_codeTold_7 rfl (by decide) sk_ok_i ?_
  refine tl_X8_codeTold_L8  (by decide) (by decide) ?_ _ ((0 : Int32), (1 : Int32), M1) h
  intro s95 h
  refine T.ild_2 (q := 96) dX8_codeTold_95 rfl ?_
  refine T.if_eq (tgt := 116) (q := 99) dX8_codeTold_96 (by decide) rfl (fun h96 => ?_) (fun h96 => ?_)
  · replace h := s_f (fun q => q.1 h96) h
    refine T.iconst (q := 117) (-1) dX8_codeTold_116 rfl (by decide) ?_
    exact T.retI rfl dX8_codeTold_117 (by decide) (by decide) h
  · refine T.ald_0 (q := 100) dX8_codeTold_99 rfl ?_
    refine g_X8_114 rfl dX8_codeTold_100 (q := 103) rfl ?_
    refine T.ald_0 (q := 104) dX8_codeTold_103 rfl ?_
    refine g_X8_124 rfl dX8_codeTold_104 (q := 107) rfl ?_
    refine T.isub (q := 108) dX8_codeTold_107 rfl ?_
    refine T.iconst (q := 109) (3) dX8_codeTold_108 rfl (by decide) ?_
    refine T.ic_ne (tgt := 116) (q := 112) dX8_codeTold_109 (by decide) rfl (fun h109 => ?_) (fun h109 => ?_)
    · replace h := s_f (fun q => h109 q.2) h
      refine T.iconst (q := 117) (-1) dX8_codeTold_116 rfl (by decide) ?_
      exact T.retI rfl dX8_codeTold_117 (by decide) (by decide) h
    · replace h := s_t ⟨h96, h109⟩ h
      refine T.ild_1 (q := 113) dX8_codeTold_112 rfl ?_
      refine T.goto (tgt := 117) dX8_codeTold_113 (by decide) ?_
      exact T.retI rfl dX8_codeTold_117 (by decide) (by decide) h
theorem tl_X8_readVault_L80 {G : sk_G} {cells slots : Nat} {y4 : Int32} {Q : Int32 → sk_M → Prop} {k120 : sk_M → Prop}  (hc0 : cells ≤ 0) (hs0 : slots ≤ 0) (hk120 : ∀ s120 : sk_M, k120 s120 → TJ G mX8_readVault (sk_R 6 0 0) (sk_K G 0 0 (rI Q) noX) cells slots 120 [some (.ref (G.2.2.1 140)), some (.int y4), none, none, none] [] s120) : ∀ (F : Nat) (s80 : sk_M), lp (w_X8_readVault_L80 y4 Q k120) F s80 → TJ G mX8_readVault (sk_R 6 0 0) (sk_K G 0 0 (rI Q) noX) cells slots 80 [some (.ref (G.2.2.1 140)), some (.int y4), none, none, none] [] s80 := by
  refine lp_sound (fun c hc9 s80 h => ?_)
  unfold w_X8_readVault_L80 at h
  refine T.ald_0 (q := 81) dX8_readVault_80 rfl ?_
  refine T.iconst (q := 82) (0) dX8_readVault_81 rfl (by decide) ?_
  refine T.bipush (q := 84) (6) dX8_readVault_82 rfl (by decide) ?_
  refine k_X8_146 rfl dX8_readVault_84 (q := 87) rfl (by decide) hc0 hs0 (Nat.le_of_ble_eq_true rfl) (t_X8_number  h) ?_
  intro r84 M84 h
  refine T.ist_4 (q := 89) dX8_readVault_87 rfl (by decide) sk_ok_n ?_
  refine T.ild_4 (q := 91) dX8_readVault_89 rfl ?_
  refine T.if_ge (tgt := 96) (q := 94) dX8_readVault_91 (by decide) rfl (fun h91 => ?_) (fun h91 => ?_)
  · replace h := s_f (fun q => q h91) h
    refine T.ald_0 (q := 97) dX8_readVault_96 rfl ?_
    refine T.ild_1 (q := 98) dX8_readVault_97 rfl ?_
    refine T.iconst (q := 99) (1) dX8_readVault_98 rfl (by decide) ?_
    refine T.ald_0 (q := 100) dX8_readVault_99 rfl ?_
    refine T.ild_1 (q := 101) dX8_readVault_100 rfl ?_
    refine T.iconst (q := 102) (1) dX8_readVault_101 rfl (by decide) ?_
    refine k_X8_167 rfl dX8_readVault_102 (q := 105) rfl (by decide) hc0 hs0 (Nat.le_of_ble_eq_true rfl) (t_X8_of  h) ?_
    rintro r102 _ ⟨h, h9⟩
    obtain rfl := h9.symm
    refine T.iconst (q := 106) (1) dX8_readVault_105 rfl (by decide) ?_
    refine T.ild_4 (q := 108) dX8_readVault_106 rfl ?_
    refine T.ishl (q := 109) dX8_readVault_108 rfl ?_
    refine T.ior (q := 110) dX8_readVault_109 rfl ?_
    refine k_X8_158 rfl dX8_readVault_110 (q := 113) rfl (by decide) hc0 hs0 (Nat.le_of_ble_eq_true rfl) (t_X8_sets  h) ?_
    intro M110 h
    refine T.ald_0 (q := 114) dX8_readVault_113 rfl ?_
    refine k_X8_170 rfl dX8_readVault_114 (q := 117) rfl (by decide) hc0 hs0 (Nat.le_of_ble_eq_true rfl) (t_X8_isFigure  h) ?_
    intro r114 M114 h
    refine T.if_ne (tgt := 80) (q := 120) dX8_readVault_117 (by decide) rfl (fun h117 => ?_) (fun h117 => ?_)
    · replace h := s_f h117 h
      refine T.drop_4 ?_
      exact hc9 M114 h
    · replace h := s_t h117 h
      refine T.drop_4 ?_
      exact hk120 M114 h
  · replace h := s_t h91 h
    refine T.iconst (q := 95) (0) dX8_readVault_94 rfl (by decide) ?_
    exact T.retZ rfl dX8_readVault_95 hc0 hs0 rfl h
theorem t_X8_readVault {G : sk_G} {M : sk_M}   {Q : Int32 → sk_M → Prop} (h : w_X8_readVault  M Q) : Ctr G mX8_readVault 6 0 0 [.ref (G.2.2.1 140)] M (rI Q) noX := by
  unfold w_X8_readVault at h
  refine Ctr.of 4 (by decide) (Nat.le_of_ble_eq_true rfl) ?_
  show TJ G mX8_readVault (sk_R 6 0 0) (sk_K G 0 0 (rI Q) noX) 0 0 0 [some (.ref (G.2.2.1 140)), none, none, none, none] [] M
  refine T.ald_0 (q := 1) dX8_readVault_0 rfl ?_
  refine k_X8_81 rfl dX8_readVault_1 (q := 4) rfl (by decide) (by decide) (by decide) (Nat.le_of_ble_eq_true rfl) (t_X8_vaults (P := fun r9 => r9 = (f_X8_vaults M)) rfl) ?_
  rintro _ _ ⟨rfl, h9⟩
  obtain rfl := h9.symm
  refine T.ist_1 (q := 5) dX8_readVault_4 rfl (by decide) sk_ok_r ?_
  refine S.i1 h ?_
  intro y4 h
  refine T.ild_1 (q := 6) dX8_readVault_5 rfl ?_
  refine T.bipush (q := 8) (6) dX8_readVault_6 rfl (by decide) ?_
  refine T.ic_ne (tgt := 13) (q := 11) dX8_readVault_8 (by decide) rfl (fun h8 => ?_) (fun h8 => ?_)
  · replace h := s_f h8 h
    refine T.ald_0 (q := 14) dX8_readVault_13 rfl ?_
    refine k_X8_149 rfl dX8_readVault_14 (q := 17) rfl (by decide) (by decide) (by decide) (Nat.le_of_ble_eq_true rfl) (t_X8_codeTold  h) ?_
    intro r14 M14 h
    refine T.ist_2 (q := 18) dX8_readVault_17 rfl (by decide) sk_ok_i ?_
    refine T.ild_2 (q := 19) dX8_readVault_18 rfl ?_
    refine s_join (fun s36_19 : Int32 × sk_M => TJ G mX8_readVault (sk_R 6 0 0) (sk_K G 0 0 (rI Q) noX) 0 0 36 [some (.ref (G.2.2.1 140)), some (.int y4), some (.int r14), none, none] [.int s36_19.1] s36_19.2) h (fun s36_19 h => ?_) (fun j36_19 hj36_19 h => ?_)
    · refine T.ist_3 (q := 37) dX8_readVault_36 rfl (by decide) sk_ok_i ?_
      refine T.ild_3 (q := 38) dX8_readVault_37 rfl ?_
      refine T.if_ge (tgt := 43) (q := 41) dX8_readVault_38 (by decide) rfl (fun h38 => ?_) (fun h38 => ?_)
      · replace h := s_f (fun q => q h38) h
        refine T.ald_0 (q := 44) dX8_readVault_43 rfl ?_
        refine T.ild_1 (q := 45) dX8_readVault_44 rfl ?_
        refine T.iconst (q := 46) (0) dX8_readVault_45 rfl (by decide) ?_
        refine T.ild_2 (q := 47) dX8_readVault_46 rfl ?_
        refine k_X8_158 rfl dX8_readVault_47 (q := 50) rfl (by decide) (by decide) (by decide) (Nat.le_of_ble_eq_true rfl) (t_X8_sets  h) ?_
        intro M47 h
        refine T.ald_0 (q := 51) dX8_readVault_50 rfl ?_
        refine T.ild_1 (q := 52) dX8_readVault_51 rfl ?_
        refine T.iconst (q := 53) (1) dX8_readVault_52 rfl (by decide) ?_
        refine T.iconst (q := 54) (0) dX8_readVault_53 rfl (by decide) ?_
        refine k_X8_158 rfl dX8_readVault_54 (q := 57) rfl (by decide) (by decide) (by decide) (Nat.le_of_ble_eq_true rfl) (t_X8_sets  h) ?_
        intro M54 h
        refine T.ald_0 (q := 58) dX8_readVault_57 rfl ?_
        refine T.ild_1 (q := 59) dX8_readVault_58 rfl ?_
        refine T.iconst (q := 60) (2) dX8_readVault_59 rfl (by decide) ?_
        refine T.ild_3 (q := 61) dX8_readVault_60 rfl ?_
        refine k_X8_158 rfl dX8_readVault_61 (q := 64) rfl (by decide) (by decide) (by decide) (Nat.le_of_ble_eq_true rfl) (t_X8_sets  h) ?_
        intro M61 h
        refine T.ald_0 (q := 65) dX8_readVault_64 rfl ?_
        refine T.ild_1 (q := 66) dX8_readVault_65 rfl ?_
        refine T.iconst (q := 67) (3) dX8_readVault_66 rfl (by decide) ?_
        refine T.iconst (q := 68) (0) dX8_readVault_67 rfl (by decide) ?_
        refine k_X8_158 rfl dX8_readVault_68 (q := 71) rfl (by decide) (by decide) (by decide) (Nat.le_of_ble_eq_true rfl) (t_X8_sets  h) ?_
        intro M68 h
        refine T.ald_0 (q := 72) dX8_readVault_71 rfl ?_
        refine T.ldcS (q := 74) "guard" 2 dX8_readVault_72 rfl (by decide +kernel) ?_
        refine k_X8_164 rfl dX8_readVault_74 (q := 77) rfl (by decide) (by decide) (by decide) (Nat.le_of_ble_eq_true rfl) (t_X8_passes ((by decide)) h) ?_
        intro r74 M74 h
        refine s_join (fun s120_77 : sk_M => TJ G mX8_readVault (sk_R 6 0 0) (sk_K G 0 0 (rI Q) noX) 0 0 120 [some (.ref (G.2.2.1 140)), some (.int y4), none, none, none] [] s120_77) h (fun s120_77 h => ?_) (fun j120_77 hj120_77 h => ?_)
        · refine T.ald_0 (q := 121) dX8_readVault_120 rfl ?_
          refine T.ild_1 (q := 122) dX8_readVault_121 rfl ?_
          refine k_X8_174 rfl dX8_readVault_122 (q := 125) rfl (by decide) (by decide) (by decide) (Nat.le_of_ble_eq_true rfl) (t_X8_allForget  h) ?_
          intro M122 h
          refine T.ald_0 (q := 126) dX8_readVault_125 rfl ?_
          refine g_X8_13 rfl dX8_readVault_126 (q := 129) rfl ?_
          refine T.iconst (q := 130) (0) dX8_readVault_129 rfl (by decide) ?_
          refine T.dup2 (q := 131) dX8_readVault_130 rfl rfl rfl ?_
          refine T.ialdk (n := 2260) rfl rfl (by decide) dX8_readVault_131 (q := 132) rfl (k9 := 0) (by decide) ?_
          refine T.iconst (q := 133) (1) dX8_readVault_132 rfl (by decide) ?_
          refine T.iadd (q := 134) dX8_readVault_133 rfl ?_
          refine T.iastk (n := 2260) rfl rfl (by decide) dX8_readVault_134 (q := 135) rfl (k9 := 0) (by decide) ?_
          refine S.mem h ?_
          intro M134 h
          refine T.iconst (q := 136) (1) dX8_readVault_135 rfl (by decide) ?_
          exact T.retZ rfl dX8_readVault_136 (by decide) (by decide) rfl h
        · refine T.if_eq (tgt := 120) (q := 80) dX8_readVault_77 (by decide) rfl (fun h77 => ?_) (fun h77 => ?_)
          · replace h := s_f (fun q => q h77) h
            refine T.drop_2 ?_
            refine T.drop_3 ?_
            exact hj120_77 M74 h
          · replace h := s_t h77 h
            refine T.drop_2 ?_
            refine T.drop_3 ?_
            refine tl_X8_readVault_L80  (by decide) (by decide) ?_ _ M74 h
            intro s120 h
            exact hj120_77 s120 h
      · replace h := s_t h38 h
        refine T.iconst (q := 42) (0) dX8_readVault_41 rfl (by decide) ?_
        exact T.retZ rfl dX8_readVault_42 (by decide) (by decide) rfl h
    · refine T.if_ge (tgt := 26) (q := 22) dX8_readVault_19 (by decide) rfl (fun h19 => ?_) (fun h19 => ?_)
      · replace h := s_f (fun q => q h19) h
        refine T.ald_0 (q := 27) dX8_readVault_26 rfl ?_
        refine T.ldcS (q := 29) "worth" 1 dX8_readVault_27 rfl (by decide +kernel) ?_
        refine T.iconst (q := 30) (0) dX8_readVault_29 rfl (by decide) ?_
        refine T.sipush (q := 33) (999) dX8_readVault_30 rfl (by decide) ?_
        refine k_X8_154 rfl dX8_readVault_33 (q := 36) rfl (by decide) (by decide) (by decide) (Nat.le_of_ble_eq_true rfl) (t_X8_after ((by decide)) h) ?_
        intro r33 M33 h
        exact hj36_19 (r33, M33) h
      · replace h := s_t h19 h
        refine T.iconst (q := 23) (-1) dX8_readVault_22 rfl (by decide) ?_
        refine T.goto (tgt := 36) dX8_readVault_23 (by decide) ?_
        exact hj36_19 ((-1 : Int32), M14) h
  · replace h := s_t h8 h
    refine T.iconst (q := 12) (0) dX8_readVault_11 rfl (by decide) ?_
    exact T.retZ rfl dX8_readVault_12 (by decide) (by decide) rfl h
theorem tl_X8_readPerson_L13 {G : sk_G} {cells slots : Nat}  {Q : Int32 → sk_M → Prop} {k34 : sk_M → Prop}  (hc0 : cells ≤ 0) (hs0 : slots ≤ 0) (hk34 : ∀ s34 : sk_M, k34 s34 → TJ G mX8_readPerson (sk_R 2 0 0) (sk_K G 0 0 (rI Q) noX) cells slots 34 [some (.ref (G.2.2.1 140)), none] [] s34) : ∀ (F : Nat) (s13 : Int32 × sk_M), lp (w_X8_readPerson_L13  k34) F s13 → TJ G mX8_readPerson (sk_R 2 0 0) (sk_K G 0 0 (rI Q) noX) cells slots 13 [some (.ref (G.2.2.1 140)), some (.int s13.1)] [] s13.2 := by
  refine lp_sound (fun c hc9 s13 h => ?_)
  unfold w_X8_readPerson_L13 at h
  refine T.ild_1 (q := 14) dX8_readPerson_13 rfl ?_
  refine T.bipush (q := 16) (6) dX8_readPerson_14 rfl (by decide) ?_
  refine T.ic_ge (tgt := 34) (q := 19) dX8_readPerson_16 (by decide) rfl (fun h16 => ?_) (fun h16 => ?_)
  · replace h := s_f (fun q => q h16) h
    refine T.drop_1 ?_
    exact hk34 s13.2 h
  · replace h := s_t h16 h
    refine T.ald_0 (q := 20) dX8_readPerson_19 rfl ?_
    refine T.ald_0 (q := 21) dX8_readPerson_20 rfl ?_
    refine k_X8_89 rfl dX8_readPerson_21 (q := 24) rfl (by decide) hc0 hs0 (Nat.le_of_ble_eq_true rfl) (t_X8_people (P := fun r9 => r9 = (f_X8_people s13.2)) rfl) ?_
    rintro _ _ ⟨rfl, h9⟩
    obtain rfl := h9.symm
    refine T.ild_1 (q := 25) dX8_readPerson_24 rfl ?_
    refine k_X8_101 rfl dX8_readPerson_25 (q := 28) rfl (by decide) hc0 hs0 (Nat.le_of_ble_eq_true rfl) (t_X8_forgets  h) ?_
    intro M25 h
    refine T.inc_1 (q := 31) (1) dX8_readPerson_28 rfl (by decide) (by decide) sk_ok_r ?_
    refine T.goto (tgt := 13) dX8_readPerson_31 (by decide) ?_
    exact hc9 ((s13.1 + (1 : Int32)), M25) h
theorem t_X8_readPerson {G : sk_G} {M : sk_M}   {Q : Int32 → sk_M → Prop} (h : w_X8_readPerson  M Q) : Ctr G mX8_readPerson 2 0 0 [.ref (G.2.2.1 140)] M (rI Q) noX := by
  unfold w_X8_readPerson at h
  refine Ctr.of 1 (by decide) (Nat.le_of_ble_eq_true rfl) ?_
  show TJ G mX8_readPerson (sk_R 2 0 0) (sk_K G 0 0 (rI Q) noX) 0 0 0 [some (.ref (G.2.2.1 140)), none] [] M
  refine T.ald_0 (q := 1) dX8_readPerson_0 rfl ?_
  refine k_X8_89 rfl dX8_readPerson_1 (q := 4) rfl (by decide) (by decide) (by decide) (Nat.le_of_ble_eq_true rfl) (t_X8_people (P := fun r9 => r9 = (f_X8_people M)) rfl) ?_
  rintro _ _ ⟨rfl, h9⟩
  obtain rfl := h9.symm
  refine T.bipush (q := 6) (6) dX8_readPerson_4 rfl (by decide) ?_
  refine T.ic_ne (tgt := 11) (q := 9) dX8_readPerson_6 (by decide) rfl (fun h6 => ?_) (fun h6 => ?_)
  · replace h := s_f h6 h
    refine T.iconst (q := 12) (0) dX8_readPerson_11 rfl (by decide) ?_
    refine T.ist_1 (q := 13) dX8_readPerson_12 rfl (by decide) sk_ok_r ?_
    refine tl_X8_readPerson_L13  (by decide) (by decide) ?_ _ ((0 : Int32), M) h
    intro s34 h
    refine T.ald_0 (q := 35) dX8_readPerson_34 rfl ?_
    refine g_X8_13 rfl dX8_readPerson_35 (q := 38) rfl ?_
    refine T.iconst (q := 39) (1) dX8_readPerson_38 rfl (by decide) ?_
    refine T.dup2 (q := 40) dX8_readPerson_39 rfl rfl rfl ?_
    refine T.ialdk (n := 2260) rfl rfl (by decide) dX8_readPerson_40 (q := 41) rfl (k9 := 1) (by decide) ?_
    refine T.iconst (q := 42) (1) dX8_readPerson_41 rfl (by decide) ?_
    refine T.iadd (q := 43) dX8_readPerson_42 rfl ?_
    refine T.iastk (n := 2260) rfl rfl (by decide) dX8_readPerson_43 (q := 44) rfl (k9 := 1) (by decide) ?_
    refine S.mem h ?_
    intro M43 h
    refine T.iconst (q := 45) (1) dX8_readPerson_44 rfl (by decide) ?_
    exact T.retZ rfl dX8_readPerson_45 (by decide) (by decide) rfl h
  · replace h := s_t h6 h
    refine T.iconst (q := 10) (0) dX8_readPerson_9 rfl (by decide) ?_
    exact T.retZ rfl dX8_readPerson_10 (by decide) (by decide) rfl h
theorem t_X8_readContract {G : sk_G} {M : sk_M} {a1 : Int32}  {Q : Int32 → sk_M → Prop} (h : w_X8_readContract a1 M Q) : Ctr G mX8_readContract 6 0 0 [.ref (G.2.2.1 140), .int a1] M (rI Q) noX := by
  unfold w_X8_readContract at h
  refine Ctr.of 4 (by decide) (Nat.le_of_ble_eq_true rfl) ?_
  show TJ G mX8_readContract (sk_R 6 0 0) (sk_K G 0 0 (rI Q) noX) 0 0 0 [some (.ref (G.2.2.1 140)), some (.int a1), none, none, none, none] [] M
  refine T.ald_0 (q := 1) dX8_readContract_0 rfl ?_
  refine k_X8_178 rfl dX8_readContract_1 (q := 4) rfl (by decide) (by decide) (by decide) (Nat.le_of_ble_eq_true rfl) (t_X8_contracts (P := fun r9 => r9 = (f_X8_contracts M)) rfl) ?_
  rintro _ _ ⟨rfl, h9⟩
  obtain rfl := h9.symm
  refine T.bipush (q := 6) (12) dX8_readContract_4 rfl (by decide) ?_
  refine T.ic_ne (tgt := 11) (q := 9) dX8_readContract_6 (by decide) rfl (fun h6 => ?_) (fun h6 => ?_)
  · replace h := s_f h6 h
    refine T.ald_0 (q := 12) dX8_readContract_11 rfl ?_
    refine k_X8_181 rfl dX8_readContract_12 (q := 15) rfl (by decide) (by decide) (by decide) (Nat.le_of_ble_eq_true rfl) (t_X8_personTold  h) ?_
    intro r12 M12 h
    refine T.ist_2 (q := 16) dX8_readContract_15 rfl (by decide) sk_ok_i ?_
    refine T.ild_2 (q := 17) dX8_readContract_16 rfl ?_
    refine s_join (fun s28_17 : Int32 × sk_M => TJ G mX8_readContract (sk_R 6 0 0) (sk_K G 0 0 (rI Q) noX) 0 0 28 [some (.ref (G.2.2.1 140)), some (.int a1), some (.int r12), none, none, none] [.int s28_17.1] s28_17.2) h (fun s28_17 h => ?_) (fun j28_17 hj28_17 h => ?_)
    · refine T.ist_3 (q := 29) dX8_readContract_28 rfl (by decide) sk_ok_i ?_
      refine T.ild_3 (q := 30) dX8_readContract_29 rfl ?_
      refine T.if_ge (tgt := 35) (q := 33) dX8_readContract_30 (by decide) rfl (fun h30 => ?_) (fun h30 => ?_)
      · replace h := s_f (fun q => q h30) h
        refine T.ild_1 (q := 36) dX8_readContract_35 rfl ?_
        refine s_join (fun s53_36 : Int32 × sk_M => TJ G mX8_readContract (sk_R 6 0 0) (sk_K G 0 0 (rI Q) noX) 0 0 53 [some (.ref (G.2.2.1 140)), some (.int a1), some (.int r12), some (.int s28_17.1), none, none] [.int s53_36.1] s53_36.2) h (fun s53_36 h => ?_) (fun j53_36 hj53_36 h => ?_)
        · refine T.ist_4 (q := 55) dX8_readContract_53 rfl (by decide) sk_ok_i ?_
          refine T.ild_1 (q := 56) dX8_readContract_55 rfl ?_
          refine T.if_eq (tgt := 66) (q := 59) dX8_readContract_56 (by decide) rfl (fun h56 => ?_) (fun h56 => ?_)
          · replace h := s_f (fun q => q.1 h56) h
            refine T.bipush (q := 68) (34) dX8_readContract_66 rfl (by decide) ?_
            refine T.iconst (q := 69) (4) dX8_readContract_68 rfl (by decide) ?_
            refine T.ald_0 (q := 70) dX8_readContract_69 rfl ?_
            refine k_X8_178 rfl dX8_readContract_70 (q := 73) rfl (by decide) (by decide) (by decide) (Nat.le_of_ble_eq_true rfl) (t_X8_contracts (P := fun r9 => r9 = (f_X8_contracts s53_36.2)) rfl) ?_
            rintro _ _ ⟨rfl, h9⟩
            obtain rfl := h9.symm
            refine T.imul (q := 74) dX8_readContract_73 rfl ?_
            refine T.iadd (q := 75) dX8_readContract_74 rfl ?_
            refine T.ist_5 (q := 77) dX8_readContract_75 rfl (by decide) sk_ok_i ?_
            refine S.i5 h ?_
            intro y75 h
            refine T.ald_0 (q := 78) dX8_readContract_77 rfl ?_
            refine g_X8_13 rfl dX8_readContract_78 (q := 81) rfl ?_
            refine T.ild_5 (q := 83) dX8_readContract_81 rfl ?_
            refine T.iconst (q := 84) (0) dX8_readContract_83 rfl (by decide) ?_
            refine T.iadd (q := 85) dX8_readContract_84 rfl ?_
            refine T.ild_1 (q := 86) dX8_readContract_85 rfl ?_
            refine s_dia (fun s94_86 : Int32 => TJ G mX8_readContract (sk_R 6 0 0) (sk_K G 0 0 (rI Q) noX) 0 0 94 [some (.ref (G.2.2.1 140)), some (.int a1), some (.int r12), some (.int s28_17.1), some (.int s53_36.1), some (.int y75)] [.int s94_86, .int (y75 + (0 : Int32)), .ref (G.2.2.1 141)] s53_36.2) h (fun s94_86 h => ?_) (fun k9 hJ9 h => ?_)
            · refine T.iast (n := 2260) rfl rfl (by decide) dX8_readContract_94 (q := 95) rfl h.1 ?_
              refine S.mem h.2 ?_
              intro M94 h
              refine T.ald_0 (q := 96) dX8_readContract_95 rfl ?_
              refine g_X8_13 rfl dX8_readContract_96 (q := 99) rfl ?_
              refine T.ild_5 (q := 101) dX8_readContract_99 rfl ?_
              refine T.iconst (q := 102) (1) dX8_readContract_101 rfl (by decide) ?_
              refine T.iadd (q := 103) dX8_readContract_102 rfl ?_
              refine T.ild_2 (q := 104) dX8_readContract_103 rfl ?_
              refine T.iast (n := 2260) rfl rfl (by decide) dX8_readContract_104 (q := 105) rfl h.1 ?_
              refine S.mem h.2 ?_
              intro M104 h
              refine T.ald_0 (q := 106) dX8_readContract_105 rfl ?_
              refine g_X8_13 rfl dX8_readContract_106 (q := 109) rfl ?_
              refine T.ild_5 (q := 111) dX8_readContract_109 rfl ?_
              refine T.iconst (q := 112) (2) dX8_readContract_111 rfl (by decide) ?_
              refine T.iadd (q := 113) dX8_readContract_112 rfl ?_
              refine T.ild_3 (q := 114) dX8_readContract_113 rfl ?_
              refine T.iast (n := 2260) rfl rfl (by decide) dX8_readContract_114 (q := 115) rfl h.1 ?_
              refine S.mem h.2 ?_
              intro M114 h
              refine T.ald_0 (q := 116) dX8_readContract_115 rfl ?_
              refine g_X8_13 rfl dX8_readContract_116 (q := 119) rfl ?_
              refine T.ild_5 (q := 121) dX8_readContract_119 rfl ?_
              refine T.iconst (q := 122) (3) dX8_readContract_121 rfl (by decide) ?_
              refine T.iadd (q := 123) dX8_readContract_122 rfl ?_
              refine T.ild_4 (q := 125) dX8_readContract_123 rfl ?_
              refine T.iast (n := 2260) rfl rfl (by decide) dX8_readContract_125 (q := 126) rfl h.1 ?_
              refine S.mem h.2 ?_
              intro M125 h
              refine T.ald_0 (q := 127) dX8_readContract_126 rfl ?_
              refine g_X8_13 rfl dX8_readContract_127 (q := 130) rfl ?_
              refine T.iconst (q := 131) (2) dX8_readContract_130 rfl (by decide) ?_
              refine T.dup2 (q := 132) dX8_readContract_131 rfl rfl rfl ?_
              refine T.ialdk (n := 2260) rfl rfl (by decide) dX8_readContract_132 (q := 133) rfl (k9 := 2) (by decide) ?_
              refine T.iconst (q := 134) (1) dX8_readContract_133 rfl (by decide) ?_
              refine T.iadd (q := 135) dX8_readContract_134 rfl ?_
              refine T.iastk (n := 2260) rfl rfl (by decide) dX8_readContract_135 (q := 136) rfl (k9 := 2) (by decide) ?_
              refine S.mem h ?_
              intro M135 h
              refine T.iconst (q := 137) (1) dX8_readContract_136 rfl (by decide) ?_
              exact T.retZ rfl dX8_readContract_137 (by decide) (by decide) rfl h
            · refine T.if_eq (tgt := 93) (q := 89) dX8_readContract_86 (by decide) rfl (fun h86 => ?_) (fun h86 => ?_)
              · replace h := s_fk (fun q => q h86) h
                refine T.iconst (q := 94) (0) dX8_readContract_93 rfl (by decide) ?_
                exact hJ9 _ h
              · replace h := s_tk h86 h
                refine T.iconst (q := 90) (1) dX8_readContract_89 rfl (by decide) ?_
                refine T.goto (tgt := 94) dX8_readContract_90 (by decide) ?_
                exact hJ9 _ h
          · refine T.ild_4 (q := 61) dX8_readContract_59 rfl ?_
            refine T.if_ge (tgt := 66) (q := 64) dX8_readContract_61 (by decide) rfl (fun h61 => ?_) (fun h61 => ?_)
            · replace h := s_f (fun q => (fun q => q h61) q.2) h
              refine T.bipush (q := 68) (34) dX8_readContract_66 rfl (by decide) ?_
              refine T.iconst (q := 69) (4) dX8_readContract_68 rfl (by decide) ?_
              refine T.ald_0 (q := 70) dX8_readContract_69 rfl ?_
              refine k_X8_178 rfl dX8_readContract_70 (q := 73) rfl (by decide) (by decide) (by decide) (Nat.le_of_ble_eq_true rfl) (t_X8_contracts (P := fun r9 => r9 = (f_X8_contracts s53_36.2)) rfl) ?_
              rintro _ _ ⟨rfl, h9⟩
              obtain rfl := h9.symm
              refine T.imul (q := 74) dX8_readContract_73 rfl ?_
              refine T.iadd (q := 75) dX8_readContract_74 rfl ?_
              refine T.ist_5 (q := 77) dX8_readContract_75 rfl (by decide) sk_ok_i ?_
              refine S.i5 h ?_
              intro y75 h
              refine T.ald_0 (q := 78) dX8_readContract_77 rfl ?_
              refine g_X8_13 rfl dX8_readContract_78 (q := 81) rfl ?_
              refine T.ild_5 (q := 83) dX8_readContract_81 rfl ?_
              refine T.iconst (q := 84) (0) dX8_readContract_83 rfl (by decide) ?_
              refine T.iadd (q := 85) dX8_readContract_84 rfl ?_
              refine T.ild_1 (q := 86) dX8_readContract_85 rfl ?_
              refine s_dia (fun s94_86 : Int32 => TJ G mX8_readContract (sk_R 6 0 0) (sk_K G 0 0 (rI Q) noX) 0 0 94 [some (.ref (G.2.2.1 140)), some (.int a1), some (.int r12), some (.int s28_17.1), some (.int s53_36.1), some (.int y75)] [.int s94_86, .int (y75 + (0 : Int32)), .ref (G.2.2.1 141)] s53_36.2) h (fun s94_86 h => ?_) (fun k9 hJ9 h => ?_)
              · refine T.iast (n := 2260) rfl rfl (by decide) dX8_readContract_94 (q := 95) rfl h.1 ?_
                refine S.mem h.2 ?_
                intro M94 h
                refine T.ald_0 (q := 96) dX8_readContract_95 rfl ?_
                refine g_X8_13 rfl dX8_readContract_96 (q := 99) rfl ?_
                refine T.ild_5 (q := 101) dX8_readContract_99 rfl ?_
                refine T.iconst (q := 102) (1) dX8_readContract_101 rfl (by decide) ?_
                refine T.iadd (q := 103) dX8_readContract_102 rfl ?_
                refine T.ild_2 (q := 104) dX8_readContract_103 rfl ?_
                refine T.iast (n := 2260) rfl rfl (by decide) dX8_readContract_104 (q := 105) rfl h.1 ?_
                refine S.mem h.2 ?_
                intro M104 h
                refine T.ald_0 (q := 106) dX8_readContract_105 rfl ?_
                refine g_X8_13 rfl dX8_readContract_106 (q := 109) rfl ?_
                refine T.ild_5 (q := 111) dX8_readContract_109 rfl ?_
                refine T.iconst (q := 112) (2) dX8_readContract_111 rfl (by decide) ?_
                refine T.iadd (q := 113) dX8_readContract_112 rfl ?_
                refine T.ild_3 (q := 114) dX8_readContract_113 rfl ?_
                refine T.iast (n := 2260) rfl rfl (by decide) dX8_readContract_114 (q := 115) rfl h.1 ?_
                refine S.mem h.2 ?_
                intro M114 h
                refine T.ald_0 (q := 116) dX8_readContract_115 rfl ?_
                refine g_X8_13 rfl dX8_readContract_116 (q := 119) rfl ?_
                refine T.ild_5 (q := 121) dX8_readContract_119 rfl ?_
                refine T.iconst (q := 122) (3) dX8_readContract_121 rfl (by decide) ?_
                refine T.iadd (q := 123) dX8_readContract_122 rfl ?_
                refine T.ild_4 (q := 125) dX8_readContract_123 rfl ?_
                refine T.iast (n := 2260) rfl rfl (by decide) dX8_readContract_125 (q := 126) rfl h.1 ?_
                refine S.mem h.2 ?_
                intro M125 h
                refine T.ald_0 (q := 127) dX8_readContract_126 rfl ?_
                refine g_X8_13 rfl dX8_readContract_127 (q := 130) rfl ?_
                refine T.iconst (q := 131) (2) dX8_readContract_130 rfl (by decide) ?_
                refine T.dup2 (q := 132) dX8_readContract_131 rfl rfl rfl ?_
                refine T.ialdk (n := 2260) rfl rfl (by decide) dX8_readContract_132 (q := 133) rfl (k9 := 2) (by decide) ?_
                refine T.iconst (q := 134) (1) dX8_readContract_133 rfl (by decide) ?_
                refine T.iadd (q := 135) dX8_readContract_134 rfl ?_
                refine T.iastk (n := 2260) rfl rfl (by decide) dX8_readContract_135 (q := 136) rfl (k9 := 2) (by decide) ?_
                refine S.mem h ?_
                intro M135 h
                refine T.iconst (q := 137) (1) dX8_readContract_136 rfl (by decide) ?_
                exact T.retZ rfl dX8_readContract_137 (by decide) (by decide) rfl h
              · refine T.if_eq (tgt := 93) (q := 89) dX8_readContract_86 (by decide) rfl (fun h86 => ?_) (fun h86 => ?_)
                · replace h := s_fk (fun q => q h86) h
                  refine T.iconst (q := 94) (0) dX8_readContract_93 rfl (by decide) ?_
                  exact hJ9 _ h
                · replace h := s_tk h86 h
                  refine T.iconst (q := 90) (1) dX8_readContract_89 rfl (by decide) ?_
                  refine T.goto (tgt := 94) dX8_readContract_90 (by decide) ?_
                  exact hJ9 _ h
            · replace h := s_t ⟨h56, h61⟩ h
              refine T.iconst (q := 65) (0) dX8_readContract_64 rfl (by decide) ?_
              exact T.retZ rfl dX8_readContract_65 (by decide) (by decide) rfl h
        · refine T.if_eq (tgt := 52) (q := 39) dX8_readContract_36 (by decide) rfl (fun h36 => ?_) (fun h36 => ?_)
          · replace h := s_f (fun q => q h36) h
            refine T.iconst (q := 53) (-1) dX8_readContract_52 rfl (by decide) ?_
            exact hj53_36 ((-1 : Int32), s28_17.2) h
          · replace h := s_t h36 h
            refine T.ald_0 (q := 40) dX8_readContract_39 rfl ?_
            refine T.ldcS (q := 42) "by" 6 dX8_readContract_40 rfl (by decide +kernel) ?_
            refine T.iconst (q := 43) (0) dX8_readContract_42 rfl (by decide) ?_
            refine T.sipush (q := 46) (999) dX8_readContract_43 rfl (by decide) ?_
            refine k_X8_154 rfl dX8_readContract_46 (q := 49) rfl (by decide) (by decide) (by decide) (Nat.le_of_ble_eq_true rfl) (t_X8_after ((by decide)) h) ?_
            intro r46 M46 h
            refine T.goto (tgt := 53) dX8_readContract_49 (by decide) ?_
            exact hj53_36 (r46, M46) h
      · replace h := s_t h30 h
        refine T.iconst (q := 34) (0) dX8_readContract_33 rfl (by decide) ?_
        exact T.retZ rfl dX8_readContract_34 (by decide) (by decide) rfl h
    · refine T.if_ge (tgt := 24) (q := 20) dX8_readContract_17 (by decide) rfl (fun h17 => ?_) (fun h17 => ?_)
      · replace h := s_f (fun q => q h17) h
        refine T.ald_0 (q := 25) dX8_readContract_24 rfl ?_
        refine k_X8_184 rfl dX8_readContract_25 (q := 28) rfl (by decide) (by decide) (by decide) (Nat.le_of_ble_eq_true rfl) (t_X8_vaultTold  h) ?_
        intro r25 M25 h
        exact hj28_17 (r25, M25) h
      · replace h := s_t h17 h
        refine T.iconst (q := 21) (-1) dX8_readContract_20 rfl (by decide) ?_
        refine T.goto (tgt := 28) dX8_readContract_21 (by decide) ?_
        exact hj28_17 ((-1 : Int32), M12) h
  · replace h := s_t h6 h
    refine T.iconst (q := 10) (0) dX8_readContract_9 rfl (by decide) ?_
    exact T.retZ rfl dX8_readContract_10 (by decide) (by decide) rfl h
theorem t_X8_readBankLine {G : sk_G} {M : sk_M}   {Q : Int32 → sk_M → Prop} (h : w_X8_readBankLine  M Q) : Ctr G mX8_readBankLine 7 0 0 [.ref (G.2.2.1 140)] M (rI Q) noX := by
  unfold w_X8_readBankLine at h
  refine Ctr.of 2 (by decide) (Nat.le_of_ble_eq_true rfl) ?_
  show TJ G mX8_readBankLine (sk_R 7 0 0) (sk_K G 0 0 (rI Q) noX) 0 0 0 [some (.ref (G.2.2.1 140)), none, none] [] M
  refine T.ald_0 (q := 1) dX8_readBankLine_0 rfl ?_
  refine T.ldcS (q := 3) "vault" 0 dX8_readBankLine_1 rfl (by decide +kernel) ?_
  refine k_X8_142 rfl dX8_readBankLine_3 (q := 6) rfl (by decide) (by decide) (by decide) (Nat.le_of_ble_eq_true rfl) (t_X8_isWord ((by decide)) h) ?_
  rintro r3 _ ⟨h, h9⟩
  obtain rfl := h9.symm
  refine T.if_eq (tgt := 14) (q := 9) dX8_readBankLine_6 (by decide) rfl (fun h6 => ?_) (fun h6 => ?_)
  · replace h := s_f (fun q => q h6) h
    refine T.ald_0 (q := 15) dX8_readBankLine_14 rfl ?_
    refine T.ldcS (q := 17) "person" 3 dX8_readBankLine_15 rfl (by decide +kernel) ?_
    refine k_X8_142 rfl dX8_readBankLine_17 (q := 20) rfl (by decide) (by decide) (by decide) (Nat.le_of_ble_eq_true rfl) (t_X8_isWord ((by decide)) h) ?_
    rintro r17 _ ⟨h, h9⟩
    obtain rfl := h9.symm
    refine T.if_eq (tgt := 28) (q := 23) dX8_readBankLine_20 (by decide) rfl (fun h20 => ?_) (fun h20 => ?_)
    · replace h := s_f (fun q => q h20) h
      refine T.ald_0 (q := 29) dX8_readBankLine_28 rfl ?_
      refine T.ldcS (q := 31) "open" 4 dX8_readBankLine_29 rfl (by decide +kernel) ?_
      refine k_X8_142 rfl dX8_readBankLine_31 (q := 34) rfl (by decide) (by decide) (by decide) (Nat.le_of_ble_eq_true rfl) (t_X8_isWord ((by decide)) h) ?_
      rintro r31 _ ⟨h, h9⟩
      obtain rfl := h9.symm
      refine T.ist_1 (q := 35) dX8_readBankLine_34 rfl (by decide) sk_ok_r ?_
      refine T.ild_1 (q := 36) dX8_readBankLine_35 rfl ?_
      refine T.if_ne (tgt := 48) (q := 39) dX8_readBankLine_36 (by decide) rfl (fun h36 => ?_) (fun h36 => ?_)
      · replace h := s_f h36 h
        refine T.ald_0 (q := 49) dX8_readBankLine_48 rfl ?_
        refine T.ild_1 (q := 50) dX8_readBankLine_49 rfl ?_
        refine k_X8_203 rfl dX8_readBankLine_50 (q := 53) rfl (by decide) (by decide) (by decide) (Nat.le_of_ble_eq_true rfl) (t_X8_readContract  h) ?_
        intro r50 M50 h
        exact T.retZ rfl dX8_readBankLine_53 (by decide) (by decide) (nz01 h.1) h.2
      · replace h := s_t h36 h
        refine T.ald_0 (q := 40) dX8_readBankLine_39 rfl ?_
        refine T.ldcS (q := 42) "never" 5 dX8_readBankLine_40 rfl (by decide +kernel) ?_
        refine k_X8_142 rfl dX8_readBankLine_42 (q := 45) rfl (by decide) (by decide) (by decide) (Nat.le_of_ble_eq_true rfl) (t_X8_isWord ((by decide)) h) ?_
        rintro r42 _ ⟨h, h9⟩
        obtain rfl := h9.symm
        refine T.if_eq (tgt := 54) (q := 48) dX8_readBankLine_45 (by decide) rfl (fun h45 => ?_) (fun h45 => ?_)
        · replace h := s_f (fun q => q h45) h
          refine T.ald_0 (q := 55) dX8_readBankLine_54 rfl ?_
          refine T.ldcS (q := 57) "change" 7 dX8_readBankLine_55 rfl (by decide +kernel) ?_
          refine k_X8_142 rfl dX8_readBankLine_57 (q := 60) rfl (by decide) (by decide) (by decide) (Nat.le_of_ble_eq_true rfl) (t_X8_isWord ((by decide)) h) ?_
          rintro r57 _ ⟨h, h9⟩
          obtain rfl := h9.symm
          refine T.if_ne (tgt := 65) (q := 63) dX8_readBankLine_60 (by decide) rfl (fun h60 => ?_) (fun h60 => ?_)
          · replace h := s_f h60 h
            refine T.ald_0 (q := 66) dX8_readBankLine_65 rfl ?_
            refine T.iconst (q := 67) (0) dX8_readBankLine_66 rfl (by decide) ?_
            refine T.bipush (q := 69) (100) dX8_readBankLine_67 rfl (by decide) ?_
            refine k_X8_146 rfl dX8_readBankLine_69 (q := 72) rfl (by decide) (by decide) (by decide) (Nat.le_of_ble_eq_true rfl) (t_X8_number  h) ?_
            intro r69 M69 h
            refine T.ist_2 (q := 73) dX8_readBankLine_72 rfl (by decide) sk_ok_i ?_
            refine T.ild_2 (q := 74) dX8_readBankLine_73 rfl ?_
            refine s_join (fun s85_74 : sk_M => TJ G mX8_readBankLine (sk_R 7 0 0) (sk_K G 0 0 (rI Q) noX) 0 0 85 [none, none, some (.int r69)] [] s85_74) h (fun s85_74 h => ?_) (fun j85_74 hj85_74 h => ?_)
            · refine T.ild_2 (q := 86) dX8_readBankLine_85 rfl ?_
              refine T.if_lt (tgt := 93) (q := 89) dX8_readBankLine_86 (by decide) rfl (fun h86 => ?_) (fun h86 => ?_)
              · replace h := s_f (fun q => q h86) h
                refine T.iconst (q := 94) (0) dX8_readBankLine_93 rfl (by decide) ?_
                exact T.retZ rfl dX8_readBankLine_94 (by decide) (by decide) rfl h
              · replace h := s_t h86 h
                refine T.iconst (q := 90) (1) dX8_readBankLine_89 rfl (by decide) ?_
                refine T.goto (tgt := 94) dX8_readBankLine_90 (by decide) ?_
                exact T.retZ rfl dX8_readBankLine_94 (by decide) (by decide) rfl h
            · refine T.if_lt (tgt := 85) (q := 77) dX8_readBankLine_74 (by decide) rfl (fun h74 => ?_) (fun h74 => ?_)
              · replace h := s_f (fun q => q h74) h
                refine T.drop_0 ?_
                refine T.drop_1 ?_
                exact hj85_74 M69 h
              · replace h := s_t h74 h
                refine T.ald_0 (q := 78) dX8_readBankLine_77 rfl ?_
                refine g_X8_13 rfl dX8_readBankLine_78 (q := 81) rfl ?_
                refine T.bipush (q := 83) (6) dX8_readBankLine_81 rfl (by decide) ?_
                refine T.ild_2 (q := 84) dX8_readBankLine_83 rfl ?_
                refine T.iastk (n := 2260) rfl rfl (by decide) dX8_readBankLine_84 (q := 85) rfl (k9 := 6) (by decide) ?_
                refine S.mem h ?_
                intro M84 h
                refine T.drop_0 ?_
                refine T.drop_1 ?_
                exact hj85_74 M84 h
          · replace h := s_t h60 h
            refine T.iconst (q := 64) (0) dX8_readBankLine_63 rfl (by decide) ?_
            exact T.retZ rfl dX8_readBankLine_64 (by decide) (by decide) rfl h
        · replace h := s_t h45 h
          refine T.ald_0 (q := 49) dX8_readBankLine_48 rfl ?_
          refine T.ild_1 (q := 50) dX8_readBankLine_49 rfl ?_
          refine k_X8_203 rfl dX8_readBankLine_50 (q := 53) rfl (by decide) (by decide) (by decide) (Nat.le_of_ble_eq_true rfl) (t_X8_readContract  h) ?_
          intro r50 M50 h
          exact T.retZ rfl dX8_readBankLine_53 (by decide) (by decide) (nz01 h.1) h.2
    · replace h := s_t h20 h
      refine T.ald_0 (q := 24) dX8_readBankLine_23 rfl ?_
      refine k_X8_196 rfl dX8_readBankLine_24 (q := 27) rfl (by decide) (by decide) (by decide) (Nat.le_of_ble_eq_true rfl) (t_X8_readPerson  h) ?_
      intro r24 M24 h
      exact T.retZ rfl dX8_readBankLine_27 (by decide) (by decide) (nz01 h.1) h.2
  · replace h := s_t h6 h
    refine T.ald_0 (q := 10) dX8_readBankLine_9 rfl ?_
    refine k_X8_191 rfl dX8_readBankLine_10 (q := 13) rfl (by decide) (by decide) (by decide) (Nat.le_of_ble_eq_true rfl) (t_X8_readVault  h) ?_
    intro r10 M10 h
    exact T.retZ rfl dX8_readBankLine_13 (by decide) (by decide) (nz01 h.1) h.2
theorem t_X8_emits {G : sk_G} {M : sk_M} {a1 : Int32} {a2 : Int32}  {Q : sk_M → Prop} (h : w_X8_emits a1 a2 M Q) : Ctr G mX8_emits 0 0 0 [.ref (G.2.2.1 140), .int a1, .int a2] M (rV Q) noX := by
  unfold w_X8_emits at h
  refine Ctr.of 0 (by decide) (Nat.le_of_ble_eq_true rfl) ?_
  show TJ G mX8_emits (sk_R 0 0 0) (sk_K G 0 0 (rV Q) noX) 0 0 0 [some (.ref (G.2.2.1 140)), some (.int a1), some (.int a2)] [] M
  refine T.ald_0 (q := 1) dX8_emits_0 rfl ?_
  refine g_X8_13 rfl dX8_emits_1 (q := 4) rfl ?_
  refine T.sipush (q := 7) (1460) dX8_emits_4 rfl (by decide) ?_
  refine T.iconst (q := 8) (2) dX8_emits_7 rfl (by decide) ?_
  refine T.ald_0 (q := 9) dX8_emits_8 rfl ?_
  refine g_X8_209 rfl dX8_emits_9 (q := 12) rfl ?_
  refine T.imul (q := 13) dX8_emits_12 rfl ?_
  refine T.iadd (q := 14) dX8_emits_13 rfl ?_
  refine T.ild_1 (q := 15) dX8_emits_14 rfl ?_
  refine T.iast (n := 2260) rfl rfl (by decide) dX8_emits_15 (q := 16) rfl h.1 ?_
  refine S.mem h.2 ?_
  intro M15 h
  refine T.ald_0 (q := 17) dX8_emits_16 rfl ?_
  refine g_X8_13 rfl dX8_emits_17 (q := 20) rfl ?_
  refine T.sipush (q := 23) (1460) dX8_emits_20 rfl (by decide) ?_
  refine T.iconst (q := 24) (2) dX8_emits_23 rfl (by decide) ?_
  refine T.ald_0 (q := 25) dX8_emits_24 rfl ?_
  refine g_X8_209 rfl dX8_emits_25 (q := 28) rfl ?_
  refine T.imul (q := 29) dX8_emits_28 rfl ?_
  refine T.iadd (q := 30) dX8_emits_29 rfl ?_
  refine T.iconst (q := 31) (1) dX8_emits_30 rfl (by decide) ?_
  refine T.iadd (q := 32) dX8_emits_31 rfl ?_
  refine T.ild_2 (q := 33) dX8_emits_32 rfl ?_
  refine T.iast (n := 2260) rfl rfl (by decide) dX8_emits_33 (q := 34) rfl h.1 ?_
  refine S.mem h.2 ?_
  intro M33 h
  refine T.ald_0 (q := 35) dX8_emits_34 rfl ?_
  refine T.dup (q := 36) dX8_emits_35 rfl rfl ?_
  refine g_X8_209 rfl dX8_emits_36 (q := 39) rfl ?_
  refine T.iconst (q := 40) (1) dX8_emits_39 rfl (by decide) ?_
  refine T.iadd (q := 41) dX8_emits_40 rfl ?_
  refine p_X8_209 rfl dX8_emits_41 (q := 44) rfl ?_
  refine S.mem h ?_
  intro M41 h
  exact T.retV rfl dX8_emits_44 (by decide) (by decide) h
theorem t_X8_readPart {G : sk_G} {M : sk_M}   {Q : Int32 → sk_M → Prop} (h : w_X8_readPart  M Q) : Ctr G mX8_readPart 5 0 0 [.ref (G.2.2.1 140)] M (rI Q) noX := by
  unfold w_X8_readPart at h
  refine Ctr.of 1 (by decide) (Nat.le_of_ble_eq_true rfl) ?_
  show TJ G mX8_readPart (sk_R 5 0 0) (sk_K G 0 0 (rI Q) noX) 0 0 0 [some (.ref (G.2.2.1 140)), none] [] M
  refine T.ald_0 (q := 1) dX8_readPart_0 rfl ?_
  refine k_X8_139 rfl dX8_readPart_1 (q := 4) rfl (by decide) (by decide) (by decide) (Nat.le_of_ble_eq_true rfl) (t_X8_letters  h) ?_
  intro M1 h
  refine T.ald_0 (q := 5) dX8_readPart_4 rfl ?_
  refine g_X8_114 rfl dX8_readPart_5 (q := 8) rfl ?_
  refine T.ald_0 (q := 9) dX8_readPart_8 rfl ?_
  refine g_X8_124 rfl dX8_readPart_9 (q := 12) rfl ?_
  refine s_join (fun s94_12 : Int32 × sk_M => TJ G mX8_readPart (sk_R 5 0 0) (sk_K G 0 0 (rI Q) noX) 0 0 94 [none, some (.int s94_12.1)] [] s94_12.2) h (fun s94_12 h => ?_) (fun j94_12 hj94_12 h => ?_)
  · refine T.ild_1 (q := 95) dX8_readPart_94 rfl ?_
    refine T.if_lt (tgt := 102) (q := 98) dX8_readPart_95 (by decide) rfl (fun h95 => ?_) (fun h95 => ?_)
    · replace h := s_f (fun q => q h95) h
      refine T.iconst (q := 103) (0) dX8_readPart_102 rfl (by decide) ?_
      exact T.retZ rfl dX8_readPart_103 (by decide) (by decide) rfl h
    · replace h := s_t h95 h
      refine T.iconst (q := 99) (1) dX8_readPart_98 rfl (by decide) ?_
      refine T.goto (tgt := 103) dX8_readPart_99 (by decide) ?_
      exact T.retZ rfl dX8_readPart_103 (by decide) (by decide) rfl h
  · refine T.ic_ne (tgt := 34) (q := 15) dX8_readPart_12 (by decide) rfl (fun h12 => ?_) (fun h12 => ?_)
    · replace h := s_f h12 h
      refine T.ald_0 (q := 35) dX8_readPart_34 rfl ?_
      refine T.ldcS (q := 37) "wheel" 14 dX8_readPart_35 rfl (by decide +kernel) ?_
      refine k_X8_142 rfl dX8_readPart_37 (q := 40) rfl (by decide) (by decide) (by decide) (Nat.le_of_ble_eq_true rfl) (t_X8_isWord ((by decide)) h) ?_
      rintro r37 _ ⟨h, h9⟩
      obtain rfl := h9.symm
      refine s_join (fun s87_40 : Int32 => TJ G mX8_readPart (sk_R 5 0 0) (sk_K G 0 0 (rI Q) noX) 0 0 87 [some (.ref (G.2.2.1 140)), none] [.int s87_40] M1) h (fun s87_40 h => ?_) (fun j87_40 hj87_40 h => ?_)
      · refine T.ist_1 (q := 88) dX8_readPart_87 rfl (by decide) sk_ok_r ?_
        refine T.ald_0 (q := 89) dX8_readPart_88 rfl ?_
        refine T.ild_1 (q := 90) dX8_readPart_89 rfl ?_
        refine T.iconst (q := 91) (0) dX8_readPart_90 rfl (by decide) ?_
        refine k_X8_212 rfl dX8_readPart_91 (q := 94) rfl (by decide) (by decide) (by decide) (Nat.le_of_ble_eq_true rfl) (t_X8_emits  h) ?_
        intro M91 h
        refine T.drop_0 ?_
        exact hj94_12 (s87_40, M91) h
      · refine T.if_eq (tgt := 47) (q := 43) dX8_readPart_40 (by decide) rfl (fun h40 => ?_) (fun h40 => ?_)
        · replace h := s_f (fun q => q h40) h
          refine T.ald_0 (q := 48) dX8_readPart_47 rfl ?_
          refine T.ldcS (q := 50) "told" 15 dX8_readPart_48 rfl (by decide +kernel) ?_
          refine k_X8_142 rfl dX8_readPart_50 (q := 53) rfl (by decide) (by decide) (by decide) (Nat.le_of_ble_eq_true rfl) (t_X8_isWord ((by decide)) h) ?_
          rintro r50 _ ⟨h, h9⟩
          obtain rfl := h9.symm
          refine T.if_eq (tgt := 60) (q := 56) dX8_readPart_53 (by decide) rfl (fun h53 => ?_) (fun h53 => ?_)
          · replace h := s_f (fun q => q h53) h
            refine T.ald_0 (q := 61) dX8_readPart_60 rfl ?_
            refine T.ldcS (q := 63) "code" 16 dX8_readPart_61 rfl (by decide +kernel) ?_
            refine k_X8_142 rfl dX8_readPart_63 (q := 66) rfl (by decide) (by decide) (by decide) (Nat.le_of_ble_eq_true rfl) (t_X8_isWord ((by decide)) h) ?_
            rintro r63 _ ⟨h, h9⟩
            obtain rfl := h9.symm
            refine T.if_eq (tgt := 73) (q := 69) dX8_readPart_66 (by decide) rfl (fun h66 => ?_) (fun h66 => ?_)
            · replace h := s_f (fun q => q h66) h
              refine T.ald_0 (q := 74) dX8_readPart_73 rfl ?_
              refine T.ldcS (q := 76) "apart" 17 dX8_readPart_74 rfl (by decide +kernel) ?_
              refine k_X8_142 rfl dX8_readPart_76 (q := 79) rfl (by decide) (by decide) (by decide) (Nat.le_of_ble_eq_true rfl) (t_X8_isWord ((by decide)) h) ?_
              rintro r76 _ ⟨h, h9⟩
              obtain rfl := h9.symm
              refine T.if_eq (tgt := 86) (q := 82) dX8_readPart_79 (by decide) rfl (fun h79 => ?_) (fun h79 => ?_)
              · replace h := s_f (fun q => q h79) h
                refine T.iconst (q := 87) (-1) dX8_readPart_86 rfl (by decide) ?_
                exact hj87_40 (-1 : Int32) h
              · replace h := s_t h79 h
                refine T.iconst (q := 83) (3) dX8_readPart_82 rfl (by decide) ?_
                refine T.goto (tgt := 87) dX8_readPart_83 (by decide) ?_
                exact hj87_40 (3 : Int32) h
            · replace h := s_t h66 h
              refine T.iconst (q := 70) (2) dX8_readPart_69 rfl (by decide) ?_
              refine T.goto (tgt := 87) dX8_readPart_70 (by decide) ?_
              exact hj87_40 (2 : Int32) h
          · replace h := s_t h53 h
            refine T.iconst (q := 57) (1) dX8_readPart_56 rfl (by decide) ?_
            refine T.goto (tgt := 87) dX8_readPart_57 (by decide) ?_
            exact hj87_40 (1 : Int32) h
        · replace h := s_t h40 h
          refine T.iconst (q := 44) (0) dX8_readPart_43 rfl (by decide) ?_
          refine T.goto (tgt := 87) dX8_readPart_44 (by decide) ?_
          exact hj87_40 (0 : Int32) h
    · replace h := s_t h12 h
      refine T.ald_0 (q := 16) dX8_readPart_15 rfl ?_
      refine T.iconst (q := 17) (0) dX8_readPart_16 rfl (by decide) ?_
      refine T.sipush (q := 20) (999) dX8_readPart_17 rfl (by decide) ?_
      refine k_X8_146 rfl dX8_readPart_20 (q := 23) rfl (by decide) (by decide) (by decide) (Nat.le_of_ble_eq_true rfl) (t_X8_number  h) ?_
      intro r20 M20 h
      refine T.ist_1 (q := 24) dX8_readPart_23 rfl (by decide) sk_ok_r ?_
      refine T.ald_0 (q := 25) dX8_readPart_24 rfl ?_
      refine T.bipush (q := 27) (6) dX8_readPart_25 rfl (by decide) ?_
      refine T.ild_1 (q := 28) dX8_readPart_27 rfl ?_
      refine k_X8_212 rfl dX8_readPart_28 (q := 31) rfl (by decide) (by decide) (by decide) (Nat.le_of_ble_eq_true rfl) (t_X8_emits  h) ?_
      intro M28 h
      refine T.goto (tgt := 94) dX8_readPart_31 (by decide) ?_
      refine T.drop_0 ?_
      exact hj94_12 (r20, M28) h
