/-! the reference, decompiled -/
theorem tl_X8_readSum_L9 {G : sk_G} {cells slots : Nat}  {Q : Int32 → sk_M → Prop}  (hc0 : cells ≤ 0) (hs0 : slots ≤ 0) : ∀ (F : Nat) (s9 : sk_M), lp (w_X8_readSum_L9 Q) F s9 → TJ G mX8_readSum (sk_R 6 0 0) (sk_K G 0 0 (rI Q) noX) cells slots 9 [some (.ref (G.2.2.1 140))] [] s9 := by
  refine lp_sound (fun c hc9 s9 h => ?_)
  unfold w_X8_readSum_L9 at h
  refine T.ald_0 (q := 10) dX8_readSum_9 rfl ?_
  refine T.bipush (q := 12) (43) dX8_readSum_10 rfl (by decide) ?_
  refine k_X8_226 rfl dX8_readSum_12 (q := 15) rfl (by decide) hc0 hs0 (Nat.le_of_ble_eq_true rfl) (t_X8_sign  h) ?_
  intro r12 M12 h
  refine T.if_eq (tgt := 37) (q := 18) dX8_readSum_15 (by decide) rfl (fun h15 => ?_) (fun h15 => ?_)
  · replace h := s_f (fun q => q h15) h
    refine T.iconst (q := 38) (1) dX8_readSum_37 rfl (by decide) ?_
    exact T.retZ rfl dX8_readSum_38 hc0 hs0 rfl h
  · replace h := s_t h15 h
    refine T.ald_0 (q := 19) dX8_readSum_18 rfl ?_
    refine k_X8_223 rfl dX8_readSum_19 (q := 22) rfl (by decide) hc0 hs0 (Nat.le_of_ble_eq_true rfl) (t_X8_readPart  h) ?_
    intro r19 M19 h
    refine T.if_ne (tgt := 27) (q := 25) dX8_readSum_22 (by decide) rfl (fun h22 => ?_) (fun h22 => ?_)
    · replace h := s_f h22 h
      refine T.ald_0 (q := 28) dX8_readSum_27 rfl ?_
      refine T.bipush (q := 30) (7) dX8_readSum_28 rfl (by decide) ?_
      refine T.iconst (q := 31) (0) dX8_readSum_30 rfl (by decide) ?_
      refine k_X8_212 rfl dX8_readSum_31 (q := 34) rfl (by decide) hc0 hs0 (Nat.le_of_ble_eq_true rfl) (t_X8_emits  h) ?_
      intro M31 h
      refine T.goto (tgt := 9) dX8_readSum_34 (by decide) ?_
      exact hc9 M31 h
    · replace h := s_t h22 h
      refine T.iconst (q := 26) (0) dX8_readSum_25 rfl (by decide) ?_
      exact T.retZ rfl dX8_readSum_26 hc0 hs0 rfl h
theorem t_X8_readSum {G : sk_G} {M : sk_M}   {Q : Int32 → sk_M → Prop} (h : w_X8_readSum  M Q) : Ctr G mX8_readSum 6 0 0 [.ref (G.2.2.1 140)] M (rI Q) noX := by
  unfold w_X8_readSum at h
  refine Ctr.of 0 (by decide) (Nat.le_of_ble_eq_true rfl) ?_
  show TJ G mX8_readSum (sk_R 6 0 0) (sk_K G 0 0 (rI Q) noX) 0 0 0 [some (.ref (G.2.2.1 140))] [] M
  refine T.ald_0 (q := 1) dX8_readSum_0 rfl ?_
  refine k_X8_223 rfl dX8_readSum_1 (q := 4) rfl (by decide) (by decide) (by decide) (Nat.le_of_ble_eq_true rfl) (t_X8_readPart  h) ?_
  intro r1 M1 h
  refine T.if_ne (tgt := 9) (q := 7) dX8_readSum_4 (by decide) rfl (fun h4 => ?_) (fun h4 => ?_)
  · replace h := s_f h4 h
    exact tl_X8_readSum_L9  (by decide) (by decide) _ M1 h
  · replace h := s_t h4 h
    refine T.iconst (q := 8) (0) dX8_readSum_7 rfl (by decide) ?_
    exact T.retZ rfl dX8_readSum_8 (by decide) (by decide) rfl h
theorem t_X8_readTag {G : sk_G} {M : sk_M}   {Q : Int32 → sk_M → Prop} (h : w_X8_readTag  M Q) : Ctr G mX8_readTag 5 0 0 [.ref (G.2.2.1 140)] M (rI Q) noX := by
  unfold w_X8_readTag at h
  refine Ctr.of 1 (by decide) (Nat.le_of_ble_eq_true rfl) ?_
  show TJ G mX8_readTag (sk_R 5 0 0) (sk_K G 0 0 (rI Q) noX) 0 0 0 [some (.ref (G.2.2.1 140)), none] [] M
  refine T.ald_0 (q := 1) dX8_readTag_0 rfl ?_
  refine k_X8_139 rfl dX8_readTag_1 (q := 4) rfl (by decide) (by decide) (by decide) (Nat.le_of_ble_eq_true rfl) (t_X8_letters  h) ?_
  intro M1 h
  refine T.ald_0 (q := 5) dX8_readTag_4 rfl ?_
  refine T.ldcS (q := 7) "same" 12 dX8_readTag_5 rfl (by decide +kernel) ?_
  refine k_X8_142 rfl dX8_readTag_7 (q := 10) rfl (by decide) (by decide) (by decide) (Nat.le_of_ble_eq_true rfl) (t_X8_isWord ((by decide)) h) ?_
  rintro r7 _ ⟨h, h9⟩
  obtain rfl := h9.symm
  refine s_join (fun s31_10 : Int32 => TJ G mX8_readTag (sk_R 5 0 0) (sk_K G 0 0 (rI Q) noX) 0 0 31 [some (.ref (G.2.2.1 140)), none] [.int s31_10] M1) h (fun s31_10 h => ?_) (fun j31_10 hj31_10 h => ?_)
  · refine T.ist_1 (q := 32) dX8_readTag_31 rfl (by decide) sk_ok_r ?_
    refine T.ild_1 (q := 33) dX8_readTag_32 rfl ?_
    refine s_join (fun s53_33 : sk_M => TJ G mX8_readTag (sk_R 5 0 0) (sk_K G 0 0 (rI Q) noX) 0 0 53 [none, some (.int s31_10)] [] s53_33) h (fun s53_33 h => ?_) (fun j53_33 hj53_33 h => ?_)
    · refine T.ild_1 (q := 54) dX8_readTag_53 rfl ?_
      refine T.if_lt (tgt := 61) (q := 57) dX8_readTag_54 (by decide) rfl (fun h54 => ?_) (fun h54 => ?_)
      · replace h := s_f (fun q => q h54) h
        refine T.iconst (q := 62) (0) dX8_readTag_61 rfl (by decide) ?_
        exact T.retZ rfl dX8_readTag_62 (by decide) (by decide) rfl h
      · replace h := s_t h54 h
        refine T.iconst (q := 58) (1) dX8_readTag_57 rfl (by decide) ?_
        refine T.goto (tgt := 62) dX8_readTag_58 (by decide) ?_
        exact T.retZ rfl dX8_readTag_62 (by decide) (by decide) rfl h
    · refine T.if_lt (tgt := 45) (q := 36) dX8_readTag_33 (by decide) rfl (fun h33 => ?_) (fun h33 => ?_)
      · replace h := s_f (fun q => q h33) h
        refine T.ald_0 (q := 46) dX8_readTag_45 rfl ?_
        refine T.ald_0 (q := 47) dX8_readTag_46 rfl ?_
        refine g_X8_124 rfl dX8_readTag_47 (q := 50) rfl ?_
        refine p_X8_114 rfl dX8_readTag_50 (q := 53) rfl ?_
        refine S.mem h ?_
        intro M50 h
        refine T.drop_0 ?_
        exact hj53_33 M50 h
      · replace h := s_t h33 h
        refine T.ald_0 (q := 37) dX8_readTag_36 rfl ?_
        refine T.ild_1 (q := 38) dX8_readTag_37 rfl ?_
        refine T.iconst (q := 39) (0) dX8_readTag_38 rfl (by decide) ?_
        refine k_X8_212 rfl dX8_readTag_39 (q := 42) rfl (by decide) (by decide) (by decide) (Nat.le_of_ble_eq_true rfl) (t_X8_emits  h) ?_
        intro M39 h
        refine T.goto (tgt := 53) dX8_readTag_42 (by decide) ?_
        refine T.drop_0 ?_
        exact hj53_33 M39 h
  · refine T.if_eq (tgt := 17) (q := 13) dX8_readTag_10 (by decide) rfl (fun h10 => ?_) (fun h10 => ?_)
    · replace h := s_f (fun q => q h10) h
      refine T.ald_0 (q := 18) dX8_readTag_17 rfl ?_
      refine T.ldcS (q := 20) "next" 13 dX8_readTag_18 rfl (by decide +kernel) ?_
      refine k_X8_142 rfl dX8_readTag_20 (q := 23) rfl (by decide) (by decide) (by decide) (Nat.le_of_ble_eq_true rfl) (t_X8_isWord ((by decide)) h) ?_
      rintro r20 _ ⟨h, h9⟩
      obtain rfl := h9.symm
      refine T.if_eq (tgt := 30) (q := 26) dX8_readTag_23 (by decide) rfl (fun h23 => ?_) (fun h23 => ?_)
      · replace h := s_f (fun q => q h23) h
        refine T.iconst (q := 31) (-1) dX8_readTag_30 rfl (by decide) ?_
        exact hj31_10 (-1 : Int32) h
      · replace h := s_t h23 h
        refine T.iconst (q := 27) (5) dX8_readTag_26 rfl (by decide) ?_
        refine T.goto (tgt := 31) dX8_readTag_27 (by decide) ?_
        exact hj31_10 (5 : Int32) h
    · replace h := s_t h10 h
      refine T.iconst (q := 14) (4) dX8_readTag_13 rfl (by decide) ?_
      refine T.goto (tgt := 31) dX8_readTag_14 (by decide) ?_
      exact hj31_10 (4 : Int32) h
theorem tl_X8_readAllOf_L9 {G : sk_G} {cells slots : Nat} {dA : Nat} {A : sk_M → (Int32 → sk_M → Prop) → Prop} {Q : Int32 → sk_M → Prop} (hdA : 10 ≤ dA) (hA : ∀ {M : sk_M} {Q : Int32 → sk_M → Prop}, A  M Q → Ctr G mX8_readAtom dA 0 0 [.ref (G.2.2.1 140)] M (rI Q) noX) (hc0 : cells ≤ 0) (hs0 : slots ≤ 0) : ∀ (F : Nat) (s9 : sk_M), lp (w_X8_readAllOf_L9 A Q) F s9 → TJ G mX8_readAllOf (sk_R (dA + 1) 0 0) (sk_K G 0 0 (rI Q) noX) cells slots 9 [some (.ref (G.2.2.1 140))] [] s9 := by
  refine lp_sound (fun c hc9 s9 h => ?_)
  unfold w_X8_readAllOf_L9 at h
  refine T.ald_0 (q := 10) dX8_readAllOf_9 rfl ?_
  refine T.ldcS (q := 12) "and" 18 dX8_readAllOf_10 rfl (by decide +kernel) ?_
  refine k_X8_164 rfl dX8_readAllOf_12 (q := 15) rfl (by omega) hc0 hs0 (Nat.le_of_ble_eq_true rfl) (t_X8_passes ((by decide)) h) ?_
  intro r12 M12 h
  refine T.if_eq (tgt := 37) (q := 18) dX8_readAllOf_15 (by decide) rfl (fun h15 => ?_) (fun h15 => ?_)
  · replace h := s_f (fun q => q h15) h
    refine T.iconst (q := 38) (1) dX8_readAllOf_37 rfl (by decide) ?_
    exact T.retZ rfl dX8_readAllOf_38 hc0 hs0 rfl h
  · replace h := s_t h15 h
    refine T.ald_0 (q := 19) dX8_readAllOf_18 rfl ?_
    refine k_X8_242 rfl dX8_readAllOf_19 (q := 22) rfl (by omega) hc0 hs0 (Nat.le_of_ble_eq_true rfl) (hA  h) ?_
    intro r19 M19 h
    refine T.if_ne (tgt := 27) (q := 25) dX8_readAllOf_22 (by decide) rfl (fun h22 => ?_) (fun h22 => ?_)
    · replace h := s_f h22 h
      refine T.ald_0 (q := 28) dX8_readAllOf_27 rfl ?_
      refine T.bipush (q := 30) (11) dX8_readAllOf_28 rfl (by decide) ?_
      refine T.iconst (q := 31) (0) dX8_readAllOf_30 rfl (by decide) ?_
      refine k_X8_212 rfl dX8_readAllOf_31 (q := 34) rfl (by omega) hc0 hs0 (Nat.le_of_ble_eq_true rfl) (t_X8_emits  h) ?_
      intro M31 h
      refine T.goto (tgt := 9) dX8_readAllOf_34 (by decide) ?_
      exact hc9 M31 h
    · replace h := s_t h22 h
      refine T.iconst (q := 26) (0) dX8_readAllOf_25 rfl (by decide) ?_
      exact T.retZ rfl dX8_readAllOf_26 hc0 hs0 rfl h
theorem t_X8_readAllOf {G : sk_G} {M : sk_M} {dA : Nat} {A : sk_M → (Int32 → sk_M → Prop) → Prop}  (hdA : 10 ≤ dA) (hA : ∀ {M : sk_M} {Q : Int32 → sk_M → Prop}, A  M Q → Ctr G mX8_readAtom dA 0 0 [.ref (G.2.2.1 140)] M (rI Q) noX) {Q : Int32 → sk_M → Prop} (h : w_X8_readAllOf A  M Q) : Ctr G mX8_readAllOf (dA + 1) 0 0 [.ref (G.2.2.1 140)] M (rI Q) noX := by
  unfold w_X8_readAllOf at h
  refine Ctr.of 0 (by decide) (Nat.le_of_ble_eq_true rfl) ?_
  show TJ G mX8_readAllOf (sk_R (dA + 1) 0 0) (sk_K G 0 0 (rI Q) noX) 0 0 0 [some (.ref (G.2.2.1 140))] [] M
  refine T.ald_0 (q := 1) dX8_readAllOf_0 rfl ?_
  refine k_X8_242 rfl dX8_readAllOf_1 (q := 4) rfl (by omega) (by decide) (by decide) (Nat.le_of_ble_eq_true rfl) (hA  h) ?_
  intro r1 M1 h
  refine T.if_ne (tgt := 9) (q := 7) dX8_readAllOf_4 (by decide) rfl (fun h4 => ?_) (fun h4 => ?_)
  · replace h := s_f h4 h
    exact tl_X8_readAllOf_L9 hdA hA (by decide) (by decide) _ M1 h
  · replace h := s_t h4 h
    refine T.iconst (q := 8) (0) dX8_readAllOf_7 rfl (by decide) ?_
    exact T.retZ rfl dX8_readAllOf_8 (by decide) (by decide) rfl h
theorem tl_X8_readCond_L9 {G : sk_G} {cells slots : Nat} {dA : Nat} {A : sk_M → (Int32 → sk_M → Prop) → Prop} {Q : Int32 → sk_M → Prop} (hdA : 10 ≤ dA) (hA : ∀ {M : sk_M} {Q : Int32 → sk_M → Prop}, A  M Q → Ctr G mX8_readAtom dA 0 0 [.ref (G.2.2.1 140)] M (rI Q) noX) (hc0 : cells ≤ 0) (hs0 : slots ≤ 0) : ∀ (F : Nat) (s9 : sk_M), lp (w_X8_readCond_L9 A Q) F s9 → TJ G mX8_readCond (sk_R (dA + 2) 0 0) (sk_K G 0 0 (rI Q) noX) cells slots 9 [some (.ref (G.2.2.1 140))] [] s9 := by
  refine lp_sound (fun c hc9 s9 h => ?_)
  unfold w_X8_readCond_L9 at h
  refine T.ald_0 (q := 10) dX8_readCond_9 rfl ?_
  refine T.ldcSW (q := 13) "or" 19 dX8_readCond_10 rfl (by decide +kernel) ?_
  refine k_X8_164 rfl dX8_readCond_13 (q := 16) rfl (by omega) hc0 hs0 (Nat.le_of_ble_eq_true rfl) (t_X8_passes ((by decide)) h) ?_
  intro r13 M13 h
  refine T.if_eq (tgt := 38) (q := 19) dX8_readCond_16 (by decide) rfl (fun h16 => ?_) (fun h16 => ?_)
  · replace h := s_f (fun q => q h16) h
    refine T.iconst (q := 39) (1) dX8_readCond_38 rfl (by decide) ?_
    exact T.retZ rfl dX8_readCond_39 hc0 hs0 rfl h
  · replace h := s_t h16 h
    refine T.ald_0 (q := 20) dX8_readCond_19 rfl ?_
    refine k_X8_253 rfl dX8_readCond_20 (q := 23) rfl (by omega) hc0 hs0 (Nat.le_of_ble_eq_true rfl) (t_X8_readAllOf hdA hA  h) ?_
    intro r20 M20 h
    refine T.if_ne (tgt := 28) (q := 26) dX8_readCond_23 (by decide) rfl (fun h23 => ?_) (fun h23 => ?_)
    · replace h := s_f h23 h
      refine T.ald_0 (q := 29) dX8_readCond_28 rfl ?_
      refine T.bipush (q := 31) (12) dX8_readCond_29 rfl (by decide) ?_
      refine T.iconst (q := 32) (0) dX8_readCond_31 rfl (by decide) ?_
      refine k_X8_212 rfl dX8_readCond_32 (q := 35) rfl (by omega) hc0 hs0 (Nat.le_of_ble_eq_true rfl) (t_X8_emits  h) ?_
      intro M32 h
      refine T.goto (tgt := 9) dX8_readCond_35 (by decide) ?_
      exact hc9 M32 h
    · replace h := s_t h23 h
      refine T.iconst (q := 27) (0) dX8_readCond_26 rfl (by decide) ?_
      exact T.retZ rfl dX8_readCond_27 hc0 hs0 rfl h
theorem t_X8_readCond {G : sk_G} {M : sk_M} {dA : Nat} {A : sk_M → (Int32 → sk_M → Prop) → Prop}  (hdA : 10 ≤ dA) (hA : ∀ {M : sk_M} {Q : Int32 → sk_M → Prop}, A  M Q → Ctr G mX8_readAtom dA 0 0 [.ref (G.2.2.1 140)] M (rI Q) noX) {Q : Int32 → sk_M → Prop} (h : w_X8_readCond A  M Q) : Ctr G mX8_readCond (dA + 2) 0 0 [.ref (G.2.2.1 140)] M (rI Q) noX := by
  unfold w_X8_readCond at h
  refine Ctr.of 0 (by decide) (Nat.le_of_ble_eq_true rfl) ?_
  show TJ G mX8_readCond (sk_R (dA + 2) 0 0) (sk_K G 0 0 (rI Q) noX) 0 0 0 [some (.ref (G.2.2.1 140))] [] M
  refine T.ald_0 (q := 1) dX8_readCond_0 rfl ?_
  refine k_X8_253 rfl dX8_readCond_1 (q := 4) rfl (by omega) (by decide) (by decide) (Nat.le_of_ble_eq_true rfl) (t_X8_readAllOf hdA hA  h) ?_
  intro r1 M1 h
  refine T.if_ne (tgt := 9) (q := 7) dX8_readCond_4 (by decide) rfl (fun h4 => ?_) (fun h4 => ?_)
  · replace h := s_f h4 h
    exact tl_X8_readCond_L9 hdA hA (by decide) (by decide) _ M1 h
  · replace h := s_t h4 h
    refine T.iconst (q := 8) (0) dX8_readCond_7 rfl (by decide) ?_
    exact T.retZ rfl dX8_readCond_8 (by decide) (by decide) rfl h
theorem t_X8_readAtom {G : sk_G} {M : sk_M} {dA : Nat} {A : sk_M → (Int32 → sk_M → Prop) → Prop}  (hdA : 10 ≤ dA) (hA : ∀ {M : sk_M} {Q : Int32 → sk_M → Prop}, A  M Q → Ctr G mX8_readAtom dA 0 0 [.ref (G.2.2.1 140)] M (rI Q) noX) {Q : Int32 → sk_M → Prop} (h : w_X8_readAtom A  M Q) : Ctr G mX8_readAtom (dA + 3) 0 0 [.ref (G.2.2.1 140)] M (rI Q) noX := by
  unfold w_X8_readAtom at h
  refine Ctr.of 1 (by decide) (Nat.le_of_ble_eq_true rfl) ?_
  show TJ G mX8_readAtom (sk_R (dA + 3) 0 0) (sk_K G 0 0 (rI Q) noX) 0 0 0 [some (.ref (G.2.2.1 140)), none] [] M
  refine T.ald_0 (q := 1) dX8_readAtom_0 rfl ?_
  refine T.bipush (q := 3) (40) dX8_readAtom_1 rfl (by decide) ?_
  refine k_X8_226 rfl dX8_readAtom_3 (q := 6) rfl (by omega) (by decide) (by decide) (Nat.le_of_ble_eq_true rfl) (t_X8_sign  h) ?_
  intro r3 M3 h
  refine T.if_eq (tgt := 56) (q := 9) dX8_readAtom_6 (by decide) rfl (fun h6 => ?_) (fun h6 => ?_)
  · replace h := s_f (fun q => q h6) h
    refine T.ald_0 (q := 57) dX8_readAtom_56 rfl ?_
    refine T.ldcS (q := 59) "not" 11 dX8_readAtom_57 rfl (by decide +kernel) ?_
    refine k_X8_164 rfl dX8_readAtom_59 (q := 62) rfl (by omega) (by decide) (by decide) (Nat.le_of_ble_eq_true rfl) (t_X8_passes ((by decide)) h) ?_
    intro r59 M59 h
    refine T.if_eq (tgt := 114) (q := 65) dX8_readAtom_62 (by decide) rfl (fun h62 => ?_) (fun h62 => ?_)
    · replace h := s_f (fun q => q h62) h
      refine T.ald_0 (q := 115) dX8_readAtom_114 rfl ?_
      refine k_X8_245 rfl dX8_readAtom_115 (q := 118) rfl (by omega) (by decide) (by decide) (Nat.le_of_ble_eq_true rfl) (t_X8_readTag  h) ?_
      intro r115 M115 h
      refine T.if_eq (tgt := 123) (q := 121) dX8_readAtom_118 (by decide) rfl (fun h118 => ?_) (fun h118 => ?_)
      · replace h := s_f (fun q => q h118) h
        refine T.ald_0 (q := 124) dX8_readAtom_123 rfl ?_
        refine k_X8_248 rfl dX8_readAtom_124 (q := 127) rfl (by omega) (by decide) (by decide) (Nat.le_of_ble_eq_true rfl) (t_X8_readSum  h) ?_
        intro r124 M124 h
        refine T.if_ne (tgt := 132) (q := 130) dX8_readAtom_127 (by decide) rfl (fun h127 => ?_) (fun h127 => ?_)
        · replace h := s_f h127 h
          refine T.ald_0 (q := 133) dX8_readAtom_132 rfl ?_
          refine T.bipush (q := 135) (60) dX8_readAtom_133 rfl (by decide) ?_
          refine k_X8_226 rfl dX8_readAtom_135 (q := 138) rfl (by omega) (by decide) (by decide) (Nat.le_of_ble_eq_true rfl) (t_X8_sign  h) ?_
          intro r135 M135 h
          refine T.ist_1 (q := 139) dX8_readAtom_138 rfl (by decide) sk_ok_r ?_
          refine T.ild_1 (q := 140) dX8_readAtom_139 rfl ?_
          refine s_join (fun s152_140 : sk_M => TJ G mX8_readAtom (sk_R (dA + 3) 0 0) (sk_K G 0 0 (rI Q) noX) 0 0 152 [some (.ref (G.2.2.1 140)), some (.int r135)] [] s152_140) h (fun s152_140 h => ?_) (fun j152_140 hj152_140 h => ?_)
          · refine T.ald_0 (q := 153) dX8_readAtom_152 rfl ?_
            refine k_X8_248 rfl dX8_readAtom_153 (q := 156) rfl (by omega) (by decide) (by decide) (Nat.le_of_ble_eq_true rfl) (t_X8_readSum  h) ?_
            intro r153 M153 h
            refine T.if_ne (tgt := 161) (q := 159) dX8_readAtom_156 (by decide) rfl (fun h156 => ?_) (fun h156 => ?_)
            · replace h := s_f h156 h
              refine T.ald_0 (q := 162) dX8_readAtom_161 rfl ?_
              refine T.ild_1 (q := 163) dX8_readAtom_162 rfl ?_
              refine T.if_eq (tgt := 171) (q := 166) dX8_readAtom_163 (by decide) rfl (fun h163 => ?_) (fun h163 => ?_)
              · replace h := s_f (fun q => q h163) h
                refine T.bipush (q := 173) (9) dX8_readAtom_171 rfl (by decide) ?_
                refine T.iconst (q := 174) (0) dX8_readAtom_173 rfl (by decide) ?_
                refine k_X8_212 rfl dX8_readAtom_174 (q := 177) rfl (by omega) (by decide) (by decide) (Nat.le_of_ble_eq_true rfl) (t_X8_emits  h) ?_
                intro M174 h
                refine T.iconst (q := 178) (1) dX8_readAtom_177 rfl (by decide) ?_
                exact T.retZ rfl dX8_readAtom_178 (by decide) (by decide) rfl h
              · replace h := s_t h163 h
                refine T.bipush (q := 168) (8) dX8_readAtom_166 rfl (by decide) ?_
                refine T.goto (tgt := 173) dX8_readAtom_168 (by decide) ?_
                refine T.iconst (q := 174) (0) dX8_readAtom_173 rfl (by decide) ?_
                refine k_X8_212 rfl dX8_readAtom_174 (q := 177) rfl (by omega) (by decide) (by decide) (Nat.le_of_ble_eq_true rfl) (t_X8_emits  h) ?_
                intro M174 h
                refine T.iconst (q := 178) (1) dX8_readAtom_177 rfl (by decide) ?_
                exact T.retZ rfl dX8_readAtom_178 (by decide) (by decide) rfl h
            · replace h := s_t h156 h
              refine T.iconst (q := 160) (0) dX8_readAtom_159 rfl (by decide) ?_
              exact T.retZ rfl dX8_readAtom_160 (by decide) (by decide) rfl h
          · refine T.if_ne (tgt := 152) (q := 143) dX8_readAtom_140 (by decide) rfl (fun h140 => ?_) (fun h140 => ?_)
            · replace h := s_f h140 h
              exact hj152_140 M135 h
            · replace h := s_t h140 h
              refine T.ald_0 (q := 144) dX8_readAtom_143 rfl ?_
              refine T.bipush (q := 146) (62) dX8_readAtom_144 rfl (by decide) ?_
              refine k_X8_226 rfl dX8_readAtom_146 (q := 149) rfl (by omega) (by decide) (by decide) (Nat.le_of_ble_eq_true rfl) (t_X8_sign  h) ?_
              intro r146 M146 h
              refine T.if_eq (tgt := 159) (q := 152) dX8_readAtom_149 (by decide) rfl (fun h149 => ?_) (fun h149 => ?_)
              · replace h := s_f (fun q => q h149) h
                refine T.iconst (q := 160) (0) dX8_readAtom_159 rfl (by decide) ?_
                exact T.retZ rfl dX8_readAtom_160 (by decide) (by decide) rfl h
              · replace h := s_t h149 h
                exact hj152_140 M146 h
        · replace h := s_t h127 h
          refine T.iconst (q := 131) (0) dX8_readAtom_130 rfl (by decide) ?_
          exact T.retZ rfl dX8_readAtom_131 (by decide) (by decide) rfl h
      · replace h := s_t h118 h
        refine T.iconst (q := 122) (1) dX8_readAtom_121 rfl (by decide) ?_
        exact T.retZ rfl dX8_readAtom_122 (by decide) (by decide) rfl h
    · replace h := s_t h62 h
      refine T.ald_0 (q := 66) dX8_readAtom_65 rfl ?_
      refine g_X8_234 rfl dX8_readAtom_66 (q := 69) rfl ?_
      refine T.bipush (q := 71) (6) dX8_readAtom_69 rfl (by decide) ?_
      refine T.ic_ne (tgt := 76) (q := 74) dX8_readAtom_71 (by decide) rfl (fun h71 => ?_) (fun h71 => ?_)
      · replace h := s_f h71 h
        refine T.ald_0 (q := 77) dX8_readAtom_76 rfl ?_
        refine T.dup (q := 78) dX8_readAtom_77 rfl rfl ?_
        refine g_X8_234 rfl dX8_readAtom_78 (q := 81) rfl ?_
        refine T.iconst (q := 82) (1) dX8_readAtom_81 rfl (by decide) ?_
        refine T.iadd (q := 83) dX8_readAtom_82 rfl ?_
        refine p_X8_234 rfl dX8_readAtom_83 (q := 86) rfl ?_
        refine S.mem h ?_
        intro M83 h
        refine T.ald_0 (q := 87) dX8_readAtom_86 rfl ?_
        refine k_X8_242 rfl dX8_readAtom_87 (q := 90) rfl (by omega) (by decide) (by decide) (Nat.le_of_ble_eq_true rfl) (hA  h) ?_
        intro r87 M87 h
        refine T.if_ne (tgt := 95) (q := 93) dX8_readAtom_90 (by decide) rfl (fun h90 => ?_) (fun h90 => ?_)
        · replace h := s_f h90 h
          refine T.ald_0 (q := 96) dX8_readAtom_95 rfl ?_
          refine T.dup (q := 97) dX8_readAtom_96 rfl rfl ?_
          refine g_X8_234 rfl dX8_readAtom_97 (q := 100) rfl ?_
          refine T.iconst (q := 101) (1) dX8_readAtom_100 rfl (by decide) ?_
          refine T.isub (q := 102) dX8_readAtom_101 rfl ?_
          refine p_X8_234 rfl dX8_readAtom_102 (q := 105) rfl ?_
          refine S.mem h ?_
          intro M102 h
          refine T.ald_0 (q := 106) dX8_readAtom_105 rfl ?_
          refine T.bipush (q := 108) (10) dX8_readAtom_106 rfl (by decide) ?_
          refine T.iconst (q := 109) (0) dX8_readAtom_108 rfl (by decide) ?_
          refine k_X8_212 rfl dX8_readAtom_109 (q := 112) rfl (by omega) (by decide) (by decide) (Nat.le_of_ble_eq_true rfl) (t_X8_emits  h) ?_
          intro M109 h
          refine T.iconst (q := 113) (1) dX8_readAtom_112 rfl (by decide) ?_
          exact T.retZ rfl dX8_readAtom_113 (by decide) (by decide) rfl h
        · replace h := s_t h90 h
          refine T.iconst (q := 94) (0) dX8_readAtom_93 rfl (by decide) ?_
          exact T.retZ rfl dX8_readAtom_94 (by decide) (by decide) rfl h
      · replace h := s_t h71 h
        refine T.iconst (q := 75) (0) dX8_readAtom_74 rfl (by decide) ?_
        exact T.retZ rfl dX8_readAtom_75 (by decide) (by decide) rfl h
  · replace h := s_t h6 h
    refine T.ald_0 (q := 10) dX8_readAtom_9 rfl ?_
    refine g_X8_234 rfl dX8_readAtom_10 (q := 13) rfl ?_
    refine T.bipush (q := 15) (6) dX8_readAtom_13 rfl (by decide) ?_
    refine T.ic_ne (tgt := 20) (q := 18) dX8_readAtom_15 (by decide) rfl (fun h15 => ?_) (fun h15 => ?_)
    · replace h := s_f h15 h
      refine T.ald_0 (q := 21) dX8_readAtom_20 rfl ?_
      refine T.dup (q := 22) dX8_readAtom_21 rfl rfl ?_
      refine g_X8_234 rfl dX8_readAtom_22 (q := 25) rfl ?_
      refine T.iconst (q := 26) (1) dX8_readAtom_25 rfl (by decide) ?_
      refine T.iadd (q := 27) dX8_readAtom_26 rfl ?_
      refine p_X8_234 rfl dX8_readAtom_27 (q := 30) rfl ?_
      refine S.mem h ?_
      intro M27 h
      refine T.ald_0 (q := 31) dX8_readAtom_30 rfl ?_
      refine k_X8_237 rfl dX8_readAtom_31 (q := 34) rfl (by omega) (by decide) (by decide) (Nat.le_of_ble_eq_true rfl) (t_X8_readCond hdA hA  h) ?_
      intro r31 M31 h
      refine T.if_ne (tgt := 39) (q := 37) dX8_readAtom_34 (by decide) rfl (fun h34 => ?_) (fun h34 => ?_)
      · replace h := s_f h34 h
        refine T.ald_0 (q := 40) dX8_readAtom_39 rfl ?_
        refine T.dup (q := 41) dX8_readAtom_40 rfl rfl ?_
        refine g_X8_234 rfl dX8_readAtom_41 (q := 44) rfl ?_
        refine T.iconst (q := 45) (1) dX8_readAtom_44 rfl (by decide) ?_
        refine T.isub (q := 46) dX8_readAtom_45 rfl ?_
        refine p_X8_234 rfl dX8_readAtom_46 (q := 49) rfl ?_
        refine S.mem h ?_
        intro M46 h
        refine T.ald_0 (q := 50) dX8_readAtom_49 rfl ?_
        refine T.bipush (q := 52) (41) dX8_readAtom_50 rfl (by decide) ?_
        refine k_X8_226 rfl dX8_readAtom_52 (q := 55) rfl (by omega) (by decide) (by decide) (Nat.le_of_ble_eq_true rfl) (t_X8_sign  h) ?_
        intro r52 M52 h
        exact T.retZ rfl dX8_readAtom_55 (by decide) (by decide) (nz01 h.1) h.2
      · replace h := s_t h34 h
        refine T.iconst (q := 38) (0) dX8_readAtom_37 rfl (by decide) ?_
        exact T.retZ rfl dX8_readAtom_38 (by decide) (by decide) rfl h
    · replace h := s_t h15 h
      refine T.iconst (q := 19) (0) dX8_readAtom_18 rfl (by decide) ?_
      exact T.retZ rfl dX8_readAtom_19 (by decide) (by decide) rfl h
theorem t_X8_readAtomN {G : sk_G} (n : Nat) : ∀ {M : sk_M} {Q : Int32 → sk_M → Prop}, w_X8_readAtomN n  M Q → Ctr G mX8_readAtom (10 + 3 * n) 0 0 [.ref (G.2.2.1 140)] M (rI Q) noX := by
  induction n with
  | zero => intro M Q h; exact h.elim
  | succ n ih =>
    intro M Q h
    exact t_X8_readAtom (dA := 10 + 3 * n) (by omega) ih h
theorem t_X8_readLawLine {G : sk_G} {M : sk_M} {a1 : Int32}  {Q : Int32 → sk_M → Prop} (h : w_X8_readLawLine a1 M Q) : Ctr G mX8_readLawLine 37 0 0 [.ref (G.2.2.1 140), .int a1] M (rI Q) noX := by
  unfold w_X8_readLawLine at h
  refine Ctr.of 2 (by decide) (Nat.le_of_ble_eq_true rfl) ?_
  show TJ G mX8_readLawLine (sk_R 37 0 0) (sk_K G 0 0 (rI Q) noX) 0 0 0 [some (.ref (G.2.2.1 140)), some (.int a1), none, none] [] M
  refine T.sipush (q := 3) (1412) dX8_readLawLine_0 rfl (by decide) ?_
  refine T.iconst (q := 4) (4) dX8_readLawLine_3 rfl (by decide) ?_
  refine T.ild_1 (q := 5) dX8_readLawLine_4 rfl ?_
  refine T.imul (q := 6) dX8_readLawLine_5 rfl ?_
  refine T.iadd (q := 7) dX8_readLawLine_6 rfl ?_
  refine T.ist_2 (q := 8) dX8_readLawLine_7 rfl (by decide) sk_ok_i ?_
  refine S.i2 h ?_
  intro y7 h
  refine T.ald_0 (q := 9) dX8_readLawLine_8 rfl ?_
  refine T.ldcSW (q := 12) "click" 8 dX8_readLawLine_9 rfl (by decide +kernel) ?_
  refine k_X8_142 rfl dX8_readLawLine_12 (q := 15) rfl (by decide) (by decide) (by decide) (Nat.le_of_ble_eq_true rfl) (t_X8_isWord ((by decide)) h) ?_
  rintro r12 _ ⟨h, h9⟩
  obtain rfl := h9.symm
  refine T.ist_3 (q := 16) dX8_readLawLine_15 rfl (by decide) sk_ok_i ?_
  refine T.ild_3 (q := 17) dX8_readLawLine_16 rfl ?_
  refine s_join (fun s32_17 : Unit => TJ G mX8_readLawLine (sk_R 37 0 0) (sk_K G 0 0 (rI Q) noX) 0 0 32 [some (.ref (G.2.2.1 140)), none, some (.int y7), some (.int r12)] [] M) h (fun s32_17 h => ?_) (fun j32_17 hj32_17 h => ?_)
  · refine T.ald_0 (q := 33) dX8_readLawLine_32 rfl ?_
    refine g_X8_13 rfl dX8_readLawLine_33 (q := 36) rfl ?_
    refine T.ild_2 (q := 37) dX8_readLawLine_36 rfl ?_
    refine T.ild_3 (q := 38) dX8_readLawLine_37 rfl ?_
    refine s_dia (fun s46_38 : Int32 => TJ G mX8_readLawLine (sk_R 37 0 0) (sk_K G 0 0 (rI Q) noX) 0 0 46 [some (.ref (G.2.2.1 140)), none, some (.int y7), some (.int r12)] [.int s46_38, .int y7, .ref (G.2.2.1 141)] M) h (fun s46_38 h => ?_) (fun k9 hJ9 h => ?_)
    · refine T.iast (n := 2260) rfl rfl (by decide) dX8_readLawLine_46 (q := 47) rfl h.1 ?_
      refine S.mem h.2 ?_
      intro M46 h
      refine T.ald_0 (q := 48) dX8_readLawLine_47 rfl ?_
      refine g_X8_13 rfl dX8_readLawLine_48 (q := 51) rfl ?_
      refine T.ild_2 (q := 52) dX8_readLawLine_51 rfl ?_
      refine T.iconst (q := 53) (1) dX8_readLawLine_52 rfl (by decide) ?_
      refine T.iadd (q := 54) dX8_readLawLine_53 rfl ?_
      refine T.ald_0 (q := 55) dX8_readLawLine_54 rfl ?_
      refine T.iconst (q := 56) (0) dX8_readLawLine_55 rfl (by decide) ?_
      refine T.bipush (q := 58) (99) dX8_readLawLine_56 rfl (by decide) ?_
      refine k_X8_146 rfl dX8_readLawLine_58 (q := 61) rfl (by decide) (by decide) (by decide) (Nat.le_of_ble_eq_true rfl) (t_X8_number  h) ?_
      intro r58 M58 h
      refine T.iast (n := 2260) rfl rfl (by decide) dX8_readLawLine_61 (q := 62) rfl h.1 ?_
      refine S.mem h.2 ?_
      intro M61 h
      refine T.ald_0 (q := 63) dX8_readLawLine_62 rfl ?_
      refine g_X8_13 rfl dX8_readLawLine_63 (q := 66) rfl ?_
      refine T.ild_2 (q := 67) dX8_readLawLine_66 rfl ?_
      refine T.iconst (q := 68) (1) dX8_readLawLine_67 rfl (by decide) ?_
      refine T.iadd (q := 69) dX8_readLawLine_68 rfl ?_
      refine T.iald (n := 2260) rfl rfl (by decide) dX8_readLawLine_69 (q := 70) rfl h.1 ?_
      replace h := h.2
      refine T.if_ge (tgt := 75) (q := 73) dX8_readLawLine_70 (by decide) rfl (fun h70 => ?_) (fun h70 => ?_)
      · replace h := s_f (fun q => q h70) h
        refine T.ald_0 (q := 76) dX8_readLawLine_75 rfl ?_
        refine g_X8_13 rfl dX8_readLawLine_76 (q := 79) rfl ?_
        refine T.ild_2 (q := 80) dX8_readLawLine_79 rfl ?_
        refine T.iconst (q := 81) (2) dX8_readLawLine_80 rfl (by decide) ?_
        refine T.iadd (q := 82) dX8_readLawLine_81 rfl ?_
        refine T.ald_0 (q := 83) dX8_readLawLine_82 rfl ?_
        refine g_X8_209 rfl dX8_readLawLine_83 (q := 86) rfl ?_
        refine T.iast (n := 2260) rfl rfl (by decide) dX8_readLawLine_86 (q := 87) rfl h.1 ?_
        refine S.mem h.2 ?_
        intro M86 h
        refine T.ald_0 (q := 88) dX8_readLawLine_87 rfl ?_
        refine T.iconst (q := 89) (0) dX8_readLawLine_88 rfl (by decide) ?_
        refine p_X8_234 rfl dX8_readLawLine_89 (q := 92) rfl ?_
        refine S.mem h ?_
        intro M89 h
        refine T.ald_0 (q := 93) dX8_readLawLine_92 rfl ?_
        refine T.ldcSW (q := 96) "if" 10 dX8_readLawLine_93 rfl (by decide +kernel) ?_
        refine k_X8_164 rfl dX8_readLawLine_96 (q := 99) rfl (by decide) (by decide) (by decide) (Nat.le_of_ble_eq_true rfl) (t_X8_passes ((by decide)) h) ?_
        intro r96 M96 h
        refine s_join (fun s111_99 : sk_M => TJ G mX8_readLawLine (sk_R 37 0 0) (sk_K G 0 0 (rI Q) noX) 0 0 111 [some (.ref (G.2.2.1 140)), none, some (.int y7), none] [] s111_99) h (fun s111_99 h => ?_) (fun j111_99 hj111_99 h => ?_)
        · refine T.ald_0 (q := 112) dX8_readLawLine_111 rfl ?_
          refine g_X8_13 rfl dX8_readLawLine_112 (q := 115) rfl ?_
          refine T.ild_2 (q := 116) dX8_readLawLine_115 rfl ?_
          refine T.iconst (q := 117) (3) dX8_readLawLine_116 rfl (by decide) ?_
          refine T.iadd (q := 118) dX8_readLawLine_117 rfl ?_
          refine T.ald_0 (q := 119) dX8_readLawLine_118 rfl ?_
          refine g_X8_209 rfl dX8_readLawLine_119 (q := 122) rfl ?_
          refine T.iast (n := 2260) rfl rfl (by decide) dX8_readLawLine_122 (q := 123) rfl h.1 ?_
          refine S.mem h.2 ?_
          intro M122 h
          refine T.iconst (q := 124) (1) dX8_readLawLine_123 rfl (by decide) ?_
          exact T.retZ rfl dX8_readLawLine_124 (by decide) (by decide) rfl h
        · refine T.if_eq (tgt := 111) (q := 102) dX8_readLawLine_99 (by decide) rfl (fun h99 => ?_) (fun h99 => ?_)
          · replace h := s_f (fun q => q h99) h
            refine T.drop_3 ?_
            exact hj111_99 M96 h
          · replace h := s_t h99 h
            refine T.ald_0 (q := 103) dX8_readLawLine_102 rfl ?_
            refine k_X8_237 rfl dX8_readLawLine_103 (q := 106) rfl (by decide) (by decide) (by decide) (Nat.le_of_ble_eq_true rfl) (t_X8_readCond (dA := 34) (by decide) (t_X8_readAtomN 8)  h) ?_
            intro r103 M103 h
            refine T.if_ne (tgt := 111) (q := 109) dX8_readLawLine_106 (by decide) rfl (fun h106 => ?_) (fun h106 => ?_)
            · replace h := s_f h106 h
              refine T.drop_3 ?_
              exact hj111_99 M103 h
            · replace h := s_t h106 h
              refine T.iconst (q := 110) (0) dX8_readLawLine_109 rfl (by decide) ?_
              exact T.retZ rfl dX8_readLawLine_110 (by decide) (by decide) rfl h
      · replace h := s_t h70 h
        refine T.iconst (q := 74) (0) dX8_readLawLine_73 rfl (by decide) ?_
        exact T.retZ rfl dX8_readLawLine_74 (by decide) (by decide) rfl h
    · refine T.if_eq (tgt := 45) (q := 41) dX8_readLawLine_38 (by decide) rfl (fun h38 => ?_) (fun h38 => ?_)
      · replace h := s_fk (fun q => q h38) h
        refine T.iconst (q := 46) (-1) dX8_readLawLine_45 rfl (by decide) ?_
        exact hJ9 _ h
      · replace h := s_tk h38 h
        refine T.iconst (q := 42) (1) dX8_readLawLine_41 rfl (by decide) ?_
        refine T.goto (tgt := 46) dX8_readLawLine_42 (by decide) ?_
        exact hJ9 _ h
  · refine T.if_ne (tgt := 32) (q := 20) dX8_readLawLine_17 (by decide) rfl (fun h17 => ?_) (fun h17 => ?_)
    · replace h := s_f h17 h
      refine T.drop_1 ?_
      exact hj32_17 () h
    · replace h := s_t h17 h
      refine T.ald_0 (q := 21) dX8_readLawLine_20 rfl ?_
      refine T.ldcSW (q := 24) "mute" 9 dX8_readLawLine_21 rfl (by decide +kernel) ?_
      refine k_X8_142 rfl dX8_readLawLine_24 (q := 27) rfl (by decide) (by decide) (by decide) (Nat.le_of_ble_eq_true rfl) (t_X8_isWord ((by decide)) h) ?_
      rintro r24 _ ⟨h, h9⟩
      obtain rfl := h9.symm
      refine T.if_ne (tgt := 32) (q := 30) dX8_readLawLine_27 (by decide) rfl (fun h27 => ?_) (fun h27 => ?_)
      · replace h := s_f h27 h
        refine T.drop_1 ?_
        exact hj32_17 () h
      · replace h := s_t h27 h
        refine T.iconst (q := 31) (0) dX8_readLawLine_30 rfl (by decide) ?_
        exact T.retZ rfl dX8_readLawLine_31 (by decide) (by decide) rfl h
theorem t_X8_readLine {G : sk_G} {M : sk_M} {a1 : Int32} {a2 : Int32}  {Q : Int32 → sk_M → Prop} (h : w_X8_readLine a1 a2 M Q) : Ctr G mX8_readLine 38 0 0 [.ref (G.2.2.1 140), .int a1, .int a2] M (rI Q) noX := by
  unfold w_X8_readLine at h
  refine Ctr.of 0 (by decide) (Nat.le_of_ble_eq_true rfl) ?_
  show TJ G mX8_readLine (sk_R 38 0 0) (sk_K G 0 0 (rI Q) noX) 0 0 0 [some (.ref (G.2.2.1 140)), some (.int a1), some (.int a2)] [] M
  refine T.ald_0 (q := 1) dX8_readLine_0 rfl ?_
  refine k_X8_139 rfl dX8_readLine_1 (q := 4) rfl (by decide) (by decide) (by decide) (Nat.le_of_ble_eq_true rfl) (t_X8_letters  h) ?_
  intro M1 h
  refine T.ild_2 (q := 5) dX8_readLine_4 rfl ?_
  refine T.ild_1 (q := 6) dX8_readLine_5 rfl ?_
  refine s_dia (fun s16_6 : Int32 => TJ G mX8_readLine (sk_R 38 0 0) (sk_K G 0 0 (rI Q) noX) 0 0 16 [some (.ref (G.2.2.1 140)), some (.int a1), some (.int a2)] [.int s16_6, .int a2] M1) h (fun s16_6 h => ?_) (fun k9 hJ9 h => ?_)
  · refine T.ic_ge (tgt := 45) (q := 19) dX8_readLine_16 (by decide) rfl (fun h16 => ?_) (fun h16 => ?_)
    · replace h := s_f (fun q => q h16) h
      refine T.iconst (q := 46) (0) dX8_readLine_45 rfl (by decide) ?_
      exact T.retZ rfl dX8_readLine_46 (by decide) (by decide) rfl h
    · replace h := s_t h16 h
      refine T.ild_1 (q := 20) dX8_readLine_19 rfl ?_
      refine T.if_eq (tgt := 33) (q := 23) dX8_readLine_20 (by decide) rfl (fun h20 => ?_) (fun h20 => ?_)
      · replace h := s_f (fun q => q h20) h
        refine T.ald_0 (q := 34) dX8_readLine_33 rfl ?_
        refine T.ild_2 (q := 35) dX8_readLine_34 rfl ?_
        refine k_X8_267 rfl dX8_readLine_35 (q := 38) rfl (by decide) (by decide) (by decide) (Nat.le_of_ble_eq_true rfl) (t_X8_readLawLine  h) ?_
        intro r35 M35 h
        refine T.if_eq (tgt := 45) (q := 41) dX8_readLine_38 (by decide) rfl (fun h38 => ?_) (fun h38 => ?_)
        · replace h := s_f (fun q => q h38) h
          refine T.iconst (q := 46) (0) dX8_readLine_45 rfl (by decide) ?_
          exact T.retZ rfl dX8_readLine_46 (by decide) (by decide) rfl h
        · replace h := s_t h38 h
          refine T.iconst (q := 42) (1) dX8_readLine_41 rfl (by decide) ?_
          refine T.goto (tgt := 46) dX8_readLine_42 (by decide) ?_
          exact T.retZ rfl dX8_readLine_46 (by decide) (by decide) rfl h
      · replace h := s_t h20 h
        refine T.ald_0 (q := 24) dX8_readLine_23 rfl ?_
        refine k_X8_264 rfl dX8_readLine_24 (q := 27) rfl (by decide) (by decide) (by decide) (Nat.le_of_ble_eq_true rfl) (t_X8_readBankLine  h) ?_
        intro r24 M24 h
        refine T.if_eq (tgt := 45) (q := 30) dX8_readLine_27 (by decide) rfl (fun h27 => ?_) (fun h27 => ?_)
        · replace h := s_f (fun q => q h27) h
          refine T.iconst (q := 46) (0) dX8_readLine_45 rfl (by decide) ?_
          exact T.retZ rfl dX8_readLine_46 (by decide) (by decide) rfl h
        · replace h := s_t h27 h
          refine T.goto (tgt := 41) dX8_readLine_30 (by decide) ?_
          refine T.iconst (q := 42) (1) dX8_readLine_41 rfl (by decide) ?_
          refine T.goto (tgt := 46) dX8_readLine_42 (by decide) ?_
          exact T.retZ rfl dX8_readLine_46 (by decide) (by decide) rfl h
  · refine T.if_eq (tgt := 14) (q := 9) dX8_readLine_6 (by decide) rfl (fun h6 => ?_) (fun h6 => ?_)
    · replace h := s_fk (fun q => q h6) h
      refine T.bipush (q := 16) (12) dX8_readLine_14 rfl (by decide) ?_
      exact hJ9 _ h
    · replace h := s_tk h6 h
      refine T.bipush (q := 11) (14) dX8_readLine_9 rfl (by decide) ?_
      refine T.goto (tgt := 16) dX8_readLine_11 (by decide) ?_
      exact hJ9 _ h
theorem tl_X8_readAll_L28 {G : sk_G} {cells slots : Nat} {a1 : Int32} {Q : Int32 → sk_M → Prop}  (hc0 : cells ≤ 0) (hs0 : slots ≤ 0) : ∀ (F : Nat) (s28 : Int32 × sk_M), lp (w_X8_readAll_L28 a1 Q) F s28 → TJ G mX8_readAll (sk_R 39 0 0) (sk_K G 0 0 (rI Q) noX) cells slots 28 [some (.ref (G.2.2.1 140)), some (.int a1), some (.int s28.1)] [] s28.2 := by
  refine lp_sound (fun c hc9 s28 h => ?_)
  unfold w_X8_readAll_L28 at h
  refine T.ald_0 (q := 29) dX8_readAll_28 rfl ?_
  refine T.ild_1 (q := 30) dX8_readAll_29 rfl ?_
  refine T.ild_2 (q := 31) dX8_readAll_30 rfl ?_
  refine k_X8_273 rfl dX8_readAll_31 (q := 34) rfl (by decide) hc0 hs0 (Nat.le_of_ble_eq_true rfl) (t_X8_readLine  h) ?_
  intro r31 M31 h
  refine T.if_ne (tgt := 39) (q := 37) dX8_readAll_34 (by decide) rfl (fun h34 => ?_) (fun h34 => ?_)
  · replace h := s_f h34 h
    refine T.ald_0 (q := 40) dX8_readAll_39 rfl ?_
    refine k_X8_127 rfl dX8_readAll_40 (q := 43) rfl (by decide) hc0 hs0 (Nat.le_of_ble_eq_true rfl) (t_X8_blanks  h) ?_
    intro M40 h
    refine T.ald_0 (q := 44) dX8_readAll_43 rfl ?_
    refine g_X8_114 rfl dX8_readAll_44 (q := 47) rfl ?_
    refine T.ald_0 (q := 48) dX8_readAll_47 rfl ?_
    refine g_X8_117 rfl dX8_readAll_48 (q := 51) rfl ?_
    refine T.ic_ne (tgt := 58) (q := 54) dX8_readAll_51 (by decide) rfl (fun h51 => ?_) (fun h51 => ?_)
    · replace h := s_f h51 h
      refine T.ald_0 (q := 59) dX8_readAll_58 rfl ?_
      refine T.bipush (q := 61) (59) dX8_readAll_59 rfl (by decide) ?_
      refine T.bipush (q := 63) (59) dX8_readAll_61 rfl (by decide) ?_
      refine k_X8_120 rfl dX8_readAll_63 (q := 66) rfl (by decide) hc0 hs0 (Nat.le_of_ble_eq_true rfl) (t_X8_isAt  h) ?_
      rintro r63 _ ⟨h, h9⟩
      obtain rfl := h9.symm
      refine T.if_ne (tgt := 71) (q := 69) dX8_readAll_66 (by decide) rfl (fun h66 => ?_) (fun h66 => ?_)
      · replace h := s_f h66 h
        refine T.ald_0 (q := 72) dX8_readAll_71 rfl ?_
        refine T.dup (q := 73) dX8_readAll_72 rfl rfl ?_
        refine g_X8_114 rfl dX8_readAll_73 (q := 76) rfl ?_
        refine T.iconst (q := 77) (1) dX8_readAll_76 rfl (by decide) ?_
        refine T.iadd (q := 78) dX8_readAll_77 rfl ?_
        refine p_X8_114 rfl dX8_readAll_78 (q := 81) rfl ?_
        refine S.mem h ?_
        intro M78 h
        refine T.inc_2 (q := 84) (1) dX8_readAll_81 rfl (by decide) (by decide) sk_ok_i ?_
        refine T.goto (tgt := 28) dX8_readAll_84 (by decide) ?_
        exact hc9 ((s28.1 + (1 : Int32)), M78) h
      · replace h := s_t h66 h
        refine T.iconst (q := 70) (-1) dX8_readAll_69 rfl (by decide) ?_
        exact T.retI rfl dX8_readAll_70 hc0 hs0 h
    · replace h := s_t h51 h
      refine T.ild_2 (q := 55) dX8_readAll_54 rfl ?_
      refine T.iconst (q := 56) (1) dX8_readAll_55 rfl (by decide) ?_
      refine T.iadd (q := 57) dX8_readAll_56 rfl ?_
      exact T.retI rfl dX8_readAll_57 hc0 hs0 h
  · replace h := s_t h34 h
    refine T.iconst (q := 38) (-1) dX8_readAll_37 rfl (by decide) ?_
    exact T.retI rfl dX8_readAll_38 hc0 hs0 h
theorem t_X8_readAll {G : sk_G} {M : sk_M} {a1 : Int32}  {Q : Int32 → sk_M → Prop} (h : w_X8_readAll a1 M Q) : Ctr G mX8_readAll 39 0 0 [.ref (G.2.2.1 140), .int a1] M (rI Q) noX := by
  unfold w_X8_readAll at h
  refine Ctr.of 1 (by decide) (Nat.le_of_ble_eq_true rfl) ?_
  show TJ G mX8_readAll (sk_R 39 0 0) (sk_K G 0 0 (rI Q) noX) 0 0 0 [some (.ref (G.2.2.1 140)), some (.int a1), none] [] M
  refine T.ald_0 (q := 1) dX8_readAll_0 rfl ?_
  refine k_X8_270 rfl dX8_readAll_1 (q := 4) rfl (by decide) (by decide) (by decide) (Nat.le_of_ble_eq_true rfl) (t_X8_uses  h) ?_
  intro M1 h
  refine T.ald_0 (q := 5) dX8_readAll_4 rfl ?_
  refine T.iconst (q := 6) (0) dX8_readAll_5 rfl (by decide) ?_
  refine p_X8_209 rfl dX8_readAll_6 (q := 9) rfl ?_
  refine S.mem h ?_
  intro M6 h
  refine T.ald_0 (q := 10) dX8_readAll_9 rfl ?_
  refine k_X8_127 rfl dX8_readAll_10 (q := 13) rfl (by decide) (by decide) (by decide) (Nat.le_of_ble_eq_true rfl) (t_X8_blanks  h) ?_
  intro M10 h
  refine T.ald_0 (q := 14) dX8_readAll_13 rfl ?_
  refine g_X8_114 rfl dX8_readAll_14 (q := 17) rfl ?_
  refine T.ald_0 (q := 18) dX8_readAll_17 rfl ?_
  refine g_X8_117 rfl dX8_readAll_18 (q := 21) rfl ?_
  refine T.ic_ne (tgt := 26) (q := 24) dX8_readAll_21 (by decide) rfl (fun h21 => ?_) (fun h21 => ?_)
  · replace h := s_f h21 h
    refine T.iconst (q := 27) (0) dX8_readAll_26 rfl (by decide) ?_
    refine T.ist_2 (q := 28) dX8_readAll_27 rfl (by decide) sk_ok_i ?_
    exact tl_X8_readAll_L28  (by decide) (by decide) _ ((0 : Int32), M10) h
  · replace h := s_t h21 h
    refine T.iconst (q := 25) (0) dX8_readAll_24 rfl (by decide) ?_
    exact T.retI rfl dX8_readAll_25 (by decide) (by decide) h
theorem tl_X8_bank_L2 {G : sk_G} {cells slots : Nat}  {Q : Int32 → sk_M → Prop} {k27 : sk_M → Prop}  (hc0 : cells ≤ 0) (hs0 : slots ≤ 0) (hk27 : ∀ s27 : sk_M, k27 s27 → TJ G mX8_bank (sk_R 40 0 0) (sk_K G 0 0 (rI Q) noX) cells slots 27 [some (.ref (G.2.2.1 140)), none, none] [] s27) : ∀ (F : Nat) (s2 : Int32 × sk_M), lp (w_X8_bank_L2  k27) F s2 → TJ G mX8_bank (sk_R 40 0 0) (sk_K G 0 0 (rI Q) noX) cells slots 2 [some (.ref (G.2.2.1 140)), some (.int s2.1), none] [] s2.2 := by
  refine lp_sound (fun c hc9 s2 h => ?_)
  unfold w_X8_bank_L2 at h
  refine T.ild_1 (q := 3) dX8_bank_2 rfl ?_
  refine T.sipush (q := 6) (1411) dX8_bank_3 rfl (by decide) ?_
  refine T.ic_ge (tgt := 27) (q := 9) dX8_bank_6 (by decide) rfl (fun h6 => ?_) (fun h6 => ?_)
  · replace h := s_f (fun q => q h6) h
    refine T.drop_1 ?_
    exact hk27 s2.2 h
  · replace h := s_t h6 h
    refine T.ald_0 (q := 10) dX8_bank_9 rfl ?_
    refine g_X8_20 rfl dX8_bank_10 (q := 13) rfl ?_
    refine T.ild_1 (q := 14) dX8_bank_13 rfl ?_
    refine T.ald_0 (q := 15) dX8_bank_14 rfl ?_
    refine g_X8_13 rfl dX8_bank_15 (q := 18) rfl ?_
    refine T.ild_1 (q := 19) dX8_bank_18 rfl ?_
    refine T.iald (n := 2260) rfl rfl (by decide) dX8_bank_19 (q := 20) rfl h.1 ?_
    replace h := h.2
    refine T.iast (n := 1411) rfl rfl (by decide) dX8_bank_20 (q := 21) rfl h.1 ?_
    refine S.mem h.2 ?_
    intro M20 h
    refine T.inc_1 (q := 24) (1) dX8_bank_21 rfl (by decide) (by decide) sk_ok_r ?_
    refine T.goto (tgt := 2) dX8_bank_24 (by decide) ?_
    exact hc9 ((s2.1 + (1 : Int32)), M20) h
theorem tl_X8_bank_L103 {G : sk_G} {cells slots : Nat}  {Q : Int32 → sk_M → Prop} {k128 : sk_M → Prop}  (hc0 : cells ≤ 0) (hs0 : slots ≤ 0) (hk128 : ∀ s128 : sk_M, k128 s128 → TJ G mX8_bank (sk_R 40 0 0) (sk_K G 0 0 (rI Q) noX) cells slots 128 [some (.ref (G.2.2.1 140)), none, none] [] s128) : ∀ (F : Nat) (s103 : Int32 × sk_M), lp (w_X8_bank_L103  k128) F s103 → TJ G mX8_bank (sk_R 40 0 0) (sk_K G 0 0 (rI Q) noX) cells slots 103 [some (.ref (G.2.2.1 140)), none, some (.int s103.1)] [] s103.2 := by
  refine lp_sound (fun c hc9 s103 h => ?_)
  unfold w_X8_bank_L103 at h
  refine T.ild_2 (q := 104) dX8_bank_103 rfl ?_
  refine T.sipush (q := 107) (1411) dX8_bank_104 rfl (by decide) ?_
  refine T.ic_ge (tgt := 128) (q := 110) dX8_bank_107 (by decide) rfl (fun h107 => ?_) (fun h107 => ?_)
  · replace h := s_f (fun q => q h107) h
    refine T.drop_2 ?_
    exact hk128 s103.2 h
  · replace h := s_t h107 h
    refine T.ald_0 (q := 111) dX8_bank_110 rfl ?_
    refine g_X8_13 rfl dX8_bank_111 (q := 114) rfl ?_
    refine T.ild_2 (q := 115) dX8_bank_114 rfl ?_
    refine T.ald_0 (q := 116) dX8_bank_115 rfl ?_
    refine g_X8_20 rfl dX8_bank_116 (q := 119) rfl ?_
    refine T.ild_2 (q := 120) dX8_bank_119 rfl ?_
    refine T.iald (n := 1411) rfl rfl (by decide) dX8_bank_120 (q := 121) rfl h.1 ?_
    replace h := h.2
    refine T.iast (n := 2260) rfl rfl (by decide) dX8_bank_121 (q := 122) rfl h.1 ?_
    refine S.mem h.2 ?_
    intro M121 h
    refine T.inc_2 (q := 125) (1) dX8_bank_122 rfl (by decide) (by decide) sk_ok_n ?_
    refine T.goto (tgt := 103) dX8_bank_125 (by decide) ?_
    exact hc9 ((s103.1 + (1 : Int32)), M121) h
theorem t_X8_bank {G : sk_G} {M : sk_M}   {Q : Int32 → sk_M → Prop} (h : w_X8_bank  M Q) : Ctr G mX8_bank 40 0 0 [.ref (G.2.2.1 140)] M (rI Q) noX := by
  unfold w_X8_bank at h
  refine Ctr.of 2 (by decide) (Nat.le_of_ble_eq_true rfl) ?_
  show TJ G mX8_bank (sk_R 40 0 0) (sk_K G 0 0 (rI Q) noX) 0 0 0 [some (.ref (G.2.2.1 140)), none, none] [] M
  refine T.iconst (q := 1) (0) dX8_bank_0 rfl (by decide) ?_
  refine T.ist_1 (q := 2) dX8_bank_1 rfl (by decide) sk_ok_r ?_
  refine tl_X8_bank_L2  (by decide) (by decide) ?_ _ ((0 : Int32), M) h
  intro s27 h
  refine T.ald_0 (q := 28) dX8_bank_27 rfl ?_
  refine g_X8_29 rfl dX8_bank_28 (q := 31) rfl ?_
  refine T.ald_0 (q := 32) dX8_bank_31 rfl ?_
  refine g_X8_36 rfl dX8_bank_32 (q := 35) rfl ?_
  refine k_X8_70 rfl dX8_bank_35 (q := 38) rfl (by decide) (by decide) (by decide) (Nat.le_of_ble_eq_true rfl) (t_X8_copies (⟨rfl, rfl, by decide⟩) (⟨rfl, rfl, by decide⟩) h) ?_
  intro M35 h
  refine T.ald_0 (q := 39) dX8_bank_38 rfl ?_
  refine T.iconst (q := 40) (1) dX8_bank_39 rfl (by decide) ?_
  refine k_X8_277 rfl dX8_bank_40 (q := 43) rfl (by decide) (by decide) (by decide) (Nat.le_of_ble_eq_true rfl) (t_X8_readAll  h) ?_
  intro r40 M40 h
  refine T.ist_1 (q := 44) dX8_bank_43 rfl (by decide) sk_ok_r ?_
  refine T.ald_0 (q := 45) dX8_bank_44 rfl ?_
  refine T.ild_1 (q := 46) dX8_bank_45 rfl ?_
  refine s_dia (fun s57_46 : Int32 => TJ G mX8_bank (sk_R 40 0 0) (sk_K G 0 0 (rI Q) noX) 0 0 57 [some (.ref (G.2.2.1 140)), some (.int r40), none] [.int s57_46, .ref (G.2.2.1 140)] M40) h (fun s57_46 h => ?_) (fun k9 hJ9 h => ?_)
  · refine p_X8_49 rfl dX8_bank_57 (q := 60) rfl ?_
    refine S.mem h ?_
    intro M57 h
    refine T.ald_0 (q := 61) dX8_bank_60 rfl ?_
    refine T.ild_1 (q := 62) dX8_bank_61 rfl ?_
    refine s_dia (fun s70_62 : Int32 => TJ G mX8_bank (sk_R 40 0 0) (sk_K G 0 0 (rI Q) noX) 0 0 70 [some (.ref (G.2.2.1 140)), some (.int r40), none] [.int s70_62, .ref (G.2.2.1 140)] M57) h (fun s70_62 h => ?_) (fun k9 hJ9 h => ?_)
    · refine T.iconst (q := 71) (1) dX8_bank_70 rfl (by decide) ?_
      refine k_X8_281 rfl dX8_bank_71 (q := 74) rfl (by decide) (by decide) (by decide) (Nat.le_of_ble_eq_true rfl) (t_X8_throwsIf  h) ?_
      intro r71 M71 h
      refine s_join (fun s101_74 : sk_M => TJ G mX8_bank (sk_R 40 0 0) (sk_K G 0 0 (rI Q) noX) 0 0 101 [some (.ref (G.2.2.1 140)), none, none] [] s101_74) h (fun s101_74 h => ?_) (fun j101_74 hj101_74 h => ?_)
      · refine T.iconst (q := 102) (0) dX8_bank_101 rfl (by decide) ?_
        refine T.ist_2 (q := 103) dX8_bank_102 rfl (by decide) sk_ok_n ?_
        refine tl_X8_bank_L103  (by decide) (by decide) ?_ _ ((0 : Int32), s101_74) h
        intro s128 h
        refine T.ald_0 (q := 129) dX8_bank_128 rfl ?_
        refine g_X8_36 rfl dX8_bank_129 (q := 132) rfl ?_
        refine T.ald_0 (q := 133) dX8_bank_132 rfl ?_
        refine g_X8_29 rfl dX8_bank_133 (q := 136) rfl ?_
        refine k_X8_70 rfl dX8_bank_136 (q := 139) rfl (by decide) (by decide) (by decide) (Nat.le_of_ble_eq_true rfl) (t_X8_copies (⟨rfl, rfl, by decide⟩) (⟨rfl, rfl, by decide⟩) h) ?_
        intro M136 h
        refine T.iconst (q := 140) (0) dX8_bank_139 rfl (by decide) ?_
        exact T.retI rfl dX8_bank_140 (by decide) (by decide) h
      · refine T.if_ne (tgt := 101) (q := 77) dX8_bank_74 (by decide) rfl (fun h74 => ?_) (fun h74 => ?_)
        · replace h := s_f h74 h
          refine T.drop_1 ?_
          exact hj101_74 M71 h
        · replace h := s_t h74 h
          refine T.ald_0 (q := 78) dX8_bank_77 rfl ?_
          refine T.ald_0 (q := 79) dX8_bank_78 rfl ?_
          refine g_X8_13 rfl dX8_bank_79 (q := 82) rfl ?_
          refine T.iconst (q := 83) (3) dX8_bank_82 rfl (by decide) ?_
          refine T.ialdk (n := 2260) rfl rfl (by decide) dX8_bank_83 (q := 84) rfl (k9 := 3) (by decide) ?_
          refine T.bipush (q := 86) (12) dX8_bank_84 rfl (by decide) ?_
          refine s_dia (fun s94_86 : Int32 => TJ G mX8_bank (sk_R 40 0 0) (sk_K G 0 0 (rI Q) noX) 0 0 94 [some (.ref (G.2.2.1 140)), some (.int r40), none] [.int s94_86, .ref (G.2.2.1 140)] M71) h (fun s94_86 h => ?_) (fun k9 hJ9 h => ?_)
          · refine T.iconst (q := 95) (2) dX8_bank_94 rfl (by decide) ?_
            refine k_X8_281 rfl dX8_bank_95 (q := 98) rfl (by decide) (by decide) (by decide) (Nat.le_of_ble_eq_true rfl) (t_X8_throwsIf  h) ?_
            intro r95 M95 h
            refine T.if_eq (tgt := 141) (q := 101) dX8_bank_98 (by decide) rfl (fun h98 => ?_) (fun h98 => ?_)
            · replace h := s_f (fun q => q h98) h
              refine T.ald_0 (q := 142) dX8_bank_141 rfl ?_
              refine g_X8_13 rfl dX8_bank_142 (q := 145) rfl ?_
              refine T.iconst (q := 146) (3) dX8_bank_145 rfl (by decide) ?_
              refine T.dup2 (q := 147) dX8_bank_146 rfl rfl rfl ?_
              refine T.ialdk (n := 2260) rfl rfl (by decide) dX8_bank_147 (q := 148) rfl (k9 := 3) (by decide) ?_
              refine T.iconst (q := 149) (1) dX8_bank_148 rfl (by decide) ?_
              refine T.iadd (q := 150) dX8_bank_149 rfl ?_
              refine T.iastk (n := 2260) rfl rfl (by decide) dX8_bank_150 (q := 151) rfl (k9 := 3) (by decide) ?_
              refine S.mem h ?_
              intro M150 h
              refine T.ald_0 (q := 152) dX8_bank_151 rfl ?_
              refine T.iconst (q := 153) (0) dX8_bank_152 rfl (by decide) ?_
              refine p_X8_78 rfl dX8_bank_153 (q := 156) rfl ?_
              refine S.mem h ?_
              intro M153 h
              refine T.ald_0 (q := 157) dX8_bank_156 rfl ?_
              refine g_X8_13 rfl dX8_bank_157 (q := 160) rfl ?_
              refine T.iconst (q := 161) (3) dX8_bank_160 rfl (by decide) ?_
              refine T.ialdk (n := 2260) rfl rfl (by decide) dX8_bank_161 (q := 162) rfl (k9 := 3) (by decide) ?_
              exact T.retI rfl dX8_bank_162 (by decide) (by decide) h
            · replace h := s_t h98 h
              refine T.drop_1 ?_
              exact hj101_74 M95 h
          · refine T.ic_ne (tgt := 93) (q := 89) dX8_bank_86 (by decide) rfl (fun h86 => ?_) (fun h86 => ?_)
            · replace h := s_fk h86 h
              refine T.iconst (q := 94) (0) dX8_bank_93 rfl (by decide) ?_
              exact hJ9 _ h
            · replace h := s_tk h86 h
              refine T.iconst (q := 90) (1) dX8_bank_89 rfl (by decide) ?_
              refine T.goto (tgt := 94) dX8_bank_90 (by decide) ?_
              exact hJ9 _ h
    · refine T.if_ge (tgt := 69) (q := 65) dX8_bank_62 (by decide) rfl (fun h62 => ?_) (fun h62 => ?_)
      · replace h := s_fk (fun q => q h62) h
        refine T.iconst (q := 70) (0) dX8_bank_69 rfl (by decide) ?_
        exact hJ9 _ h
      · replace h := s_tk h62 h
        refine T.iconst (q := 66) (1) dX8_bank_65 rfl (by decide) ?_
        refine T.goto (tgt := 70) dX8_bank_66 (by decide) ?_
        exact hJ9 _ h
  · refine T.if_ge (tgt := 56) (q := 49) dX8_bank_46 (by decide) rfl (fun h46 => ?_) (fun h46 => ?_)
    · replace h := s_fk (fun q => q h46) h
      refine T.iconst (q := 57) (-1) dX8_bank_56 rfl (by decide) ?_
      exact hJ9 _ h
    · replace h := s_tk h46 h
      refine T.ald_0 (q := 50) dX8_bank_49 rfl ?_
      refine g_X8_124 rfl dX8_bank_50 (q := 53) rfl ?_
      refine T.goto (tgt := 57) dX8_bank_53 (by decide) ?_
      exact hJ9 _ h
theorem tl_X8_law_L52 {G : sk_G} {cells slots : Nat} {r2 : Int32} {Q : Int32 → sk_M → Prop} {k85 : sk_M → Prop}  (hc0 : cells ≤ 0) (hs0 : slots ≤ 0) (hk85 : ∀ s85 : sk_M, k85 s85 → TJ G mX8_law (sk_R 40 0 0) (sk_K G 0 0 (rI Q) noX) cells slots 85 [some (.ref (G.2.2.1 140)), some (.int r2), none] [] s85) : ∀ (F : Nat) (s52 : Int32 × sk_M), lp (w_X8_law_L52  k85) F s52 → TJ G mX8_law (sk_R 40 0 0) (sk_K G 0 0 (rI Q) noX) cells slots 52 [some (.ref (G.2.2.1 140)), some (.int r2), some (.int s52.1)] [] s52.2 := by
  refine lp_sound (fun c hc9 s52 h => ?_)
  unfold w_X8_law_L52 at h
  refine T.ild_2 (q := 53) dX8_law_52 rfl ?_
  refine T.sipush (q := 56) (849) dX8_law_53 rfl (by decide) ?_
  refine T.ic_ge (tgt := 85) (q := 59) dX8_law_56 (by decide) rfl (fun h56 => ?_) (fun h56 => ?_)
  · replace h := s_f (fun q => q h56) h
    refine T.drop_2 ?_
    exact hk85 s52.2 h
  · replace h := s_t h56 h
    refine T.ald_0 (q := 60) dX8_law_59 rfl ?_
    refine g_X8_13 rfl dX8_law_60 (q := 63) rfl ?_
    refine T.sipush (q := 66) (562) dX8_law_63 rfl (by decide) ?_
    refine T.ild_2 (q := 67) dX8_law_66 rfl ?_
    refine T.iadd (q := 68) dX8_law_67 rfl ?_
    refine T.ald_0 (q := 69) dX8_law_68 rfl ?_
    refine g_X8_13 rfl dX8_law_69 (q := 72) rfl ?_
    refine T.sipush (q := 75) (1411) dX8_law_72 rfl (by decide) ?_
    refine T.ild_2 (q := 76) dX8_law_75 rfl ?_
    refine T.iadd (q := 77) dX8_law_76 rfl ?_
    refine T.iald (n := 2260) rfl rfl (by decide) dX8_law_77 (q := 78) rfl h.1 ?_
    replace h := h.2
    refine T.iast (n := 2260) rfl rfl (by decide) dX8_law_78 (q := 79) rfl h.1 ?_
    refine S.mem h.2 ?_
    intro M78 h
    refine T.inc_2 (q := 82) (1) dX8_law_79 rfl (by decide) (by decide) sk_ok_i ?_
    refine T.goto (tgt := 52) dX8_law_82 (by decide) ?_
    exact hc9 ((s52.1 + (1 : Int32)), M78) h
theorem tl_X8_law_L94 {G : sk_G} {cells slots : Nat} {r2 : Int32} {Q : Int32 → sk_M → Prop}  (hc0 : cells ≤ 0) (hs0 : slots ≤ 0) : ∀ (F : Nat) (s94 : Int32 × sk_M), lp (w_X8_law_L94 r2 Q) F s94 → TJ G mX8_law (sk_R 40 0 0) (sk_K G 0 0 (rI Q) noX) cells slots 94 [some (.ref (G.2.2.1 140)), some (.int r2), some (.int s94.1)] [] s94.2 := by
  refine lp_sound (fun c hc9 s94 h => ?_)
  unfold w_X8_law_L94 at h
  refine T.ild_2 (q := 95) dX8_law_94 rfl ?_
  refine T.bipush (q := 97) (6) dX8_law_95 rfl (by decide) ?_
  refine T.ic_ge (tgt := 111) (q := 100) dX8_law_97 (by decide) rfl (fun h97 => ?_) (fun h97 => ?_)
  · replace h := s_f (fun q => q h97) h
    refine T.ald_0 (q := 112) dX8_law_111 rfl ?_
    refine T.iconst (q := 113) (0) dX8_law_112 rfl (by decide) ?_
    refine p_X8_78 rfl dX8_law_113 (q := 116) rfl ?_
    refine S.mem h ?_
    intro M113 h
    refine T.ild_1 (q := 117) dX8_law_116 rfl ?_
    exact T.retI rfl dX8_law_117 hc0 hs0 h
  · replace h := s_t h97 h
    refine T.ald_0 (q := 101) dX8_law_100 rfl ?_
    refine T.ild_2 (q := 102) dX8_law_101 rfl ?_
    refine k_X8_174 rfl dX8_law_102 (q := 105) rfl (by decide) hc0 hs0 (Nat.le_of_ble_eq_true rfl) (t_X8_allForget  h) ?_
    intro M102 h
    refine T.inc_2 (q := 108) (1) dX8_law_105 rfl (by decide) (by decide) sk_ok_i ?_
    refine T.goto (tgt := 94) dX8_law_108 (by decide) ?_
    exact hc9 ((s94.1 + (1 : Int32)), M102) h
theorem t_X8_law {G : sk_G} {M : sk_M}   {Q : Int32 → sk_M → Prop} (h : w_X8_law  M Q) : Ctr G mX8_law 40 0 0 [.ref (G.2.2.1 140)] M (rI Q) noX := by
  unfold w_X8_law at h
  refine Ctr.of 2 (by decide) (Nat.le_of_ble_eq_true rfl) ?_
  show TJ G mX8_law (sk_R 40 0 0) (sk_K G 0 0 (rI Q) noX) 0 0 0 [some (.ref (G.2.2.1 140)), none, none] [] M
  refine T.ald_0 (q := 1) dX8_law_0 rfl ?_
  refine T.iconst (q := 2) (0) dX8_law_1 rfl (by decide) ?_
  refine k_X8_277 rfl dX8_law_2 (q := 5) rfl (by decide) (by decide) (by decide) (Nat.le_of_ble_eq_true rfl) (t_X8_readAll  h) ?_
  intro r2 M2 h
  refine T.ist_1 (q := 6) dX8_law_5 rfl (by decide) sk_ok_r ?_
  refine T.ald_0 (q := 7) dX8_law_6 rfl ?_
  refine T.ild_1 (q := 8) dX8_law_7 rfl ?_
  refine s_dia (fun s19_8 : Int32 => TJ G mX8_law (sk_R 40 0 0) (sk_K G 0 0 (rI Q) noX) 0 0 19 [some (.ref (G.2.2.1 140)), some (.int r2), none] [.int s19_8, .ref (G.2.2.1 140)] M2) h (fun s19_8 h => ?_) (fun k9 hJ9 h => ?_)
  · refine p_X8_49 rfl dX8_law_19 (q := 22) rfl ?_
    refine S.mem h ?_
    intro M19 h
    refine T.ald_0 (q := 23) dX8_law_22 rfl ?_
    refine T.ild_1 (q := 24) dX8_law_23 rfl ?_
    refine s_dia (fun s32_24 : Int32 => TJ G mX8_law (sk_R 40 0 0) (sk_K G 0 0 (rI Q) noX) 0 0 32 [some (.ref (G.2.2.1 140)), some (.int r2), none] [.int s32_24, .ref (G.2.2.1 140)] M19) h (fun s32_24 h => ?_) (fun k9 hJ9 h => ?_)
    · refine T.iconst (q := 33) (1) dX8_law_32 rfl (by decide) ?_
      refine k_X8_281 rfl dX8_law_33 (q := 36) rfl (by decide) (by decide) (by decide) (Nat.le_of_ble_eq_true rfl) (t_X8_throwsIf  h) ?_
      intro r33 M33 h
      refine T.if_eq (tgt := 41) (q := 39) dX8_law_36 (by decide) rfl (fun h36 => ?_) (fun h36 => ?_)
      · replace h := s_f (fun q => q h36) h
        refine T.ald_0 (q := 42) dX8_law_41 rfl ?_
        refine g_X8_13 rfl dX8_law_42 (q := 45) rfl ?_
        refine T.sipush (q := 48) (1411) dX8_law_45 rfl (by decide) ?_
        refine T.ild_1 (q := 49) dX8_law_48 rfl ?_
        refine T.iastk (n := 2260) rfl rfl (by decide) dX8_law_49 (q := 50) rfl (k9 := 1411) (by decide) ?_
        refine S.mem h ?_
        intro M49 h
        refine T.iconst (q := 51) (0) dX8_law_50 rfl (by decide) ?_
        refine T.ist_2 (q := 52) dX8_law_51 rfl (by decide) sk_ok_i ?_
        refine tl_X8_law_L52  (by decide) (by decide) ?_ _ ((0 : Int32), M49) h
        intro s85 h
        refine T.ald_0 (q := 86) dX8_law_85 rfl ?_
        refine g_X8_13 rfl dX8_law_86 (q := 89) rfl ?_
        refine T.iconst (q := 90) (4) dX8_law_89 rfl (by decide) ?_
        refine T.iconst (q := 91) (1) dX8_law_90 rfl (by decide) ?_
        refine T.iastk (n := 2260) rfl rfl (by decide) dX8_law_91 (q := 92) rfl (k9 := 4) (by decide) ?_
        refine S.mem h ?_
        intro M91 h
        refine T.iconst (q := 93) (0) dX8_law_92 rfl (by decide) ?_
        refine T.ist_2 (q := 94) dX8_law_93 rfl (by decide) sk_ok_i ?_
        exact tl_X8_law_L94  (by decide) (by decide) _ ((0 : Int32), M91) h
      · replace h := s_t h36 h
        refine T.iconst (q := 40) (0) dX8_law_39 rfl (by decide) ?_
        exact T.retI rfl dX8_law_40 (by decide) (by decide) h
    · refine T.if_ge (tgt := 31) (q := 27) dX8_law_24 (by decide) rfl (fun h24 => ?_) (fun h24 => ?_)
      · replace h := s_fk (fun q => q h24) h
        refine T.iconst (q := 32) (0) dX8_law_31 rfl (by decide) ?_
        exact hJ9 _ h
      · replace h := s_tk h24 h
        refine T.iconst (q := 28) (1) dX8_law_27 rfl (by decide) ?_
        refine T.goto (tgt := 32) dX8_law_28 (by decide) ?_
        exact hJ9 _ h
  · refine T.if_ge (tgt := 18) (q := 11) dX8_law_8 (by decide) rfl (fun h8 => ?_) (fun h8 => ?_)
    · replace h := s_fk (fun q => q h8) h
      refine T.iconst (q := 19) (-1) dX8_law_18 rfl (by decide) ?_
      exact hJ9 _ h
    · replace h := s_tk h8 h
      refine T.ald_0 (q := 12) dX8_law_11 rfl ?_
      refine g_X8_124 rfl dX8_law_12 (q := 15) rfl ?_
      refine T.goto (tgt := 19) dX8_law_15 (by decide) ?_
      exact hJ9 _ h
theorem t_X8_apartOf {G : sk_G} {M : sk_M} {a0 : Int32} {a1 : Int32}  {P : Int32 → Prop} (h : P (f_X8_apartOf a0 a1)) : Ctr G mX8_apartOf 1 0 0 [.int a0, .int a1] M (rI fun r9 M9 => P r9 ∧ M9 = M) noX := by
  unfold f_X8_apartOf at h
  refine Ctr.of 1 (by decide) (Nat.le_of_ble_eq_true rfl) ?_
  show TJ G mX8_apartOf (sk_R 1 0 0) (sk_K G 0 0 (rI fun r9 M9 => P r9 ∧ M9 = M) noX) 0 0 0 [some (.int a0), some (.int a1), none] [] M
  refine T.ild_0 (q := 1) dX8_apartOf_0 rfl ?_
  refine T.ild_1 (q := 2) dX8_apartOf_1 rfl ?_
  refine T.isub (q := 3) dX8_apartOf_2 rfl ?_
  refine k_X8_284 rfl dX8_apartOf_3 (q := 6) rfl (by decide) (by decide) (by decide) (Nat.le_of_ble_eq_true rfl) ?_
  refine T.ist_2 (q := 7) dX8_apartOf_6 rfl (by decide) sk_ok_i ?_
  refine S.i2T h ?_
  intro y6 h
  refine T.ild_2 (q := 8) dX8_apartOf_7 rfl ?_
  refine T.bipush (q := 10) (6) dX8_apartOf_8 rfl (by decide) ?_
  refine T.ild_2 (q := 11) dX8_apartOf_10 rfl ?_
  refine T.isub (q := 12) dX8_apartOf_11 rfl ?_
  refine k_X8_290 rfl dX8_apartOf_12 (q := 15) rfl (by decide) (by decide) (by decide) (Nat.le_of_ble_eq_true rfl) ?_
  exact T.retI rfl dX8_apartOf_15 (by decide) (by decide) ⟨h, rfl⟩
theorem t_X8_factOf {G : sk_G} {M : sk_M} {a0 : Int32} {a1 : Int32} {a2 : Int32} {a3 : Int32} {a4 : Int32}  {P : Int32 → Prop} (h : P (f_X8_factOf a0 a1 a2 a3 a4)) : Ctr G mX8_factOf 2 0 0 [.int a0, .int a1, .int a2, .int a3, .int a4] M (rI fun r9 M9 => P r9 ∧ M9 = M) noX := by
  unfold f_X8_factOf at h
  refine Ctr.of 0 (by decide) (Nat.le_of_ble_eq_true rfl) ?_
  show TJ G mX8_factOf (sk_R 2 0 0) (sk_K G 0 0 (rI fun r9 M9 => P r9 ∧ M9 = M) noX) 0 0 0 [some (.int a0), some (.int a1), some (.int a2), some (.int a3), some (.int a4)] [] M
  refine T.ild_0 (q := 1) dX8_factOf_0 rfl ?_
  by_cases e0 : a0 = 0
  · replace h := s_tP e0 h
    refine T.swIn (tgt := 40) (off := 39) dX8_factOf_1 (by rw [e0]; decide) (by rw [e0]; decide) (by rw [e0]; rfl) (by decide) ?_
    refine T.ild_2 (q := 41) dX8_factOf_40 rfl ?_
    exact T.retI rfl dX8_factOf_41 (by decide) (by decide) ⟨h, rfl⟩
  replace h := s_fP e0 h
  by_cases e1 : a0 = 1
  · replace h := s_tP e1 h
    refine T.swIn (tgt := 42) (off := 41) dX8_factOf_1 (by rw [e1]; decide) (by rw [e1]; decide) (by rw [e1]; rfl) (by decide) ?_
    refine T.ild_3 (q := 43) dX8_factOf_42 rfl ?_
    exact T.retI rfl dX8_factOf_43 (by decide) (by decide) ⟨h, rfl⟩
  replace h := s_fP e1 h
  by_cases e2 : a0 = 2
  · replace h := s_tP e2 h
    refine T.swIn (tgt := 44) (off := 43) dX8_factOf_1 (by rw [e2]; decide) (by rw [e2]; decide) (by rw [e2]; rfl) (by decide) ?_
    refine T.ild_4 (q := 46) dX8_factOf_44 rfl ?_
    exact T.retI rfl dX8_factOf_46 (by decide) (by decide) ⟨h, rfl⟩
  replace h := s_fP e2 h
  by_cases e3 : a0 = 3
  · replace h := s_tP e3 h
    refine T.swIn (tgt := 47) (off := 46) dX8_factOf_1 (by rw [e3]; decide) (by rw [e3]; decide) (by rw [e3]; rfl) (by decide) ?_
    refine T.ild_3 (q := 48) dX8_factOf_47 rfl ?_
    refine T.ild_4 (q := 50) dX8_factOf_48 rfl ?_
    refine k_X8_293 rfl dX8_factOf_50 (q := 53) rfl (by decide) (by decide) (by decide) (Nat.le_of_ble_eq_true rfl) (t_X8_apartOf (P := fun r9 => r9 = (f_X8_apartOf a3 a4)) rfl) ?_
    rintro _ _ ⟨rfl, h9⟩
    obtain rfl := h9.symm
    exact T.retI rfl dX8_factOf_53 (by decide) (by decide) ⟨h, rfl⟩
  replace h := s_fP e3 h
  by_cases e4 : a0 = 4
  · replace h := s_tP e4 h
    refine T.swIn (tgt := 54) (off := 53) dX8_factOf_1 (by rw [e4]; decide) (by rw [e4]; decide) (by rw [e4]; rfl) (by decide) ?_
    refine T.ild_3 (q := 55) dX8_factOf_54 rfl ?_
    refine T.ild_4 (q := 57) dX8_factOf_55 rfl ?_
    refine T.ic_ne (tgt := 64) (q := 60) dX8_factOf_57 (by decide) rfl (fun h57 => ?_) (fun h57 => ?_)
    · replace h := s_fP h57 h
      refine T.iconst (q := 65) (0) dX8_factOf_64 rfl (by decide) ?_
      exact T.retI rfl dX8_factOf_65 (by decide) (by decide) ⟨h, rfl⟩
    · replace h := s_tP h57 h
      refine T.iconst (q := 61) (1) dX8_factOf_60 rfl (by decide) ?_
      refine T.goto (tgt := 65) dX8_factOf_61 (by decide) ?_
      exact T.retI rfl dX8_factOf_65 (by decide) (by decide) ⟨h, rfl⟩
  replace h := s_fP e4 h
  by_cases e5 : a0 = 5
  · replace h := s_tP e5 h
    refine T.swIn (tgt := 66) (off := 65) dX8_factOf_1 (by rw [e5]; decide) (by rw [e5]; decide) (by rw [e5]; rfl) (by decide) ?_
    refine T.ild_3 (q := 67) dX8_factOf_66 rfl ?_
    refine T.ild_4 (q := 69) dX8_factOf_67 rfl ?_
    refine k_X8_293 rfl dX8_factOf_69 (q := 72) rfl (by decide) (by decide) (by decide) (Nat.le_of_ble_eq_true rfl) (t_X8_apartOf (P := fun r9 => r9 = (f_X8_apartOf a3 a4)) rfl) ?_
    rintro _ _ ⟨rfl, h9⟩
    obtain rfl := h9.symm
    refine T.iconst (q := 73) (1) dX8_factOf_72 rfl (by decide) ?_
    refine T.ic_ne (tgt := 80) (q := 76) dX8_factOf_73 (by decide) rfl (fun h73 => ?_) (fun h73 => ?_)
    · replace h := s_fP h73 h
      refine T.iconst (q := 81) (0) dX8_factOf_80 rfl (by decide) ?_
      exact T.retI rfl dX8_factOf_81 (by decide) (by decide) ⟨h, rfl⟩
    · replace h := s_tP h73 h
      refine T.iconst (q := 77) (1) dX8_factOf_76 rfl (by decide) ?_
      refine T.goto (tgt := 81) dX8_factOf_77 (by decide) ?_
      exact T.retI rfl dX8_factOf_81 (by decide) (by decide) ⟨h, rfl⟩
  replace h := s_fP e5 h
  refine T.swOut (tgt := 82) dX8_factOf_1 (sw_0_5 e0 e1 e2 e3 e4 e5) (by decide) ?_
  refine T.ild_1 (q := 83) dX8_factOf_82 rfl ?_
  exact T.retI rfl dX8_factOf_83 (by decide) (by decide) ⟨h, rfl⟩
theorem tl_X8_holdsLine_L23 {G : sk_G} {cells slots : Nat} {a2 : Int32} {a3 : Int32} {a4 : Int32} {y10 : Int32} {Q : Int32 → sk_M → Prop} {k272 : (Int32 × sk_M) → Prop}  (hc0 : cells ≤ 0) (hs0 : slots ≤ 0) (hk272 : ∀ s272 : Int32 × sk_M, k272 s272 → TJ G mX8_holdsLine (sk_R 3 0 0) (sk_K G 0 0 (rI Q) noX) cells slots 272 [some (.ref (G.2.2.1 140)), none, none, none, none, some (.int s272.1), none, none, none, none, none, none] [] s272.2) : ∀ (F : Nat) (s23 : Int32 × Int32 × sk_M), lp (w_X8_holdsLine_L23 a2 a3 a4 y10 k272) F s23 → TJ G mX8_holdsLine (sk_R 3 0 0) (sk_K G 0 0 (rI Q) noX) cells slots 23 [some (.ref (G.2.2.1 140)), none, some (.int a2), some (.int a3), some (.int a4), some (.int s23.1), some (.int y10), some (.int s23.2.1), none, none, none, none] [] s23.2.2 := by
  refine lp_sound (fun c hc9 s23 h => ?_)
  unfold w_X8_holdsLine_L23 at h
  refine T.ild_7 (q := 25) dX8_holdsLine_23 rfl ?_
  refine T.ald_0 (q := 26) dX8_holdsLine_25 rfl ?_
  refine g_X8_13 rfl dX8_holdsLine_26 (q := 29) rfl ?_
  refine T.ild_6 (q := 31) dX8_holdsLine_29 rfl ?_
  refine T.iconst (q := 32) (3) dX8_holdsLine_31 rfl (by decide) ?_
  refine T.iadd (q := 33) dX8_holdsLine_32 rfl ?_
  refine T.iald (n := 2260) rfl rfl (by decide) dX8_holdsLine_33 (q := 34) rfl h.1 ?_
  replace h := h.2
  refine T.ic_ge (tgt := 272) (q := 37) dX8_holdsLine_34 (by decide) rfl (fun h34 => ?_) (fun h34 => ?_)
  · replace h := s_f (fun q => q h34) h
    refine T.drop_2 ?_
    refine T.drop_3 ?_
    refine T.drop_4 ?_
    refine T.drop_6 ?_
    refine T.drop_7 ?_
    exact hk272 (s23.1, s23.2.2) h
  · replace h := s_t h34 h
    refine T.ald_0 (q := 38) dX8_holdsLine_37 rfl ?_
    refine g_X8_13 rfl dX8_holdsLine_38 (q := 41) rfl ?_
    refine T.sipush (q := 44) (611) dX8_holdsLine_41 rfl (by decide) ?_
    refine T.iconst (q := 45) (2) dX8_holdsLine_44 rfl (by decide) ?_
    refine T.ild_7 (q := 47) dX8_holdsLine_45 rfl ?_
    refine T.imul (q := 48) dX8_holdsLine_47 rfl ?_
    refine T.iadd (q := 49) dX8_holdsLine_48 rfl ?_
    refine T.iald (n := 2260) rfl rfl (by decide) dX8_holdsLine_49 (q := 50) rfl h.1 ?_
    replace h := h.2
    refine T.ist_8 (q := 52) dX8_holdsLine_50 rfl (by decide) sk_ok_i ?_
    refine S.i8 h ?_
    intro y50 h
    refine T.ild_8 (q := 54) dX8_holdsLine_52 rfl ?_
    refine T.bipush (q := 56) (6) dX8_holdsLine_54 rfl (by decide) ?_
    refine T.ic_gt (tgt := 96) (q := 59) dX8_holdsLine_56 (by decide) rfl (fun h56 => ?_) (fun h56 => ?_)
    · replace h := s_f (fun q => q h56) h
      refine T.ild_8 (q := 98) dX8_holdsLine_96 rfl ?_
      refine T.bipush (q := 100) (10) dX8_holdsLine_98 rfl (by decide) ?_
      refine T.ic_ne (tgt := 126) (q := 103) dX8_holdsLine_100 (by decide) rfl (fun h100 => ?_) (fun h100 => ?_)
      · replace h := s_f h100 h
        refine T.inc_5 (q := 129) (-1) dX8_holdsLine_126 rfl (by decide) (by decide) sk_ok_i ?_
        refine T.ald_0 (q := 130) dX8_holdsLine_129 rfl ?_
        refine g_X8_55 rfl dX8_holdsLine_130 (q := 133) rfl ?_
        refine T.ild_5 (q := 135) dX8_holdsLine_133 rfl ?_
        refine T.iconst (q := 136) (1) dX8_holdsLine_135 rfl (by decide) ?_
        refine T.isub (q := 137) dX8_holdsLine_136 rfl ?_
        refine T.iald (n := 400) rfl rfl (by decide) dX8_holdsLine_137 (q := 138) rfl h.1 ?_
        replace h := h.2
        refine T.ist_9 (q := 140) dX8_holdsLine_138 rfl (by decide) sk_ok_i ?_
        refine S.i9 h ?_
        intro y138 h
        refine T.ald_0 (q := 141) dX8_holdsLine_140 rfl ?_
        refine g_X8_55 rfl dX8_holdsLine_141 (q := 144) rfl ?_
        refine T.ild_5 (q := 146) dX8_holdsLine_144 rfl ?_
        refine T.iald (n := 400) rfl rfl (by decide) dX8_holdsLine_146 (q := 147) rfl h.1 ?_
        replace h := h.2
        refine T.ist_10 (q := 149) dX8_holdsLine_147 rfl (by decide) sk_ok_i ?_
        refine S.i10 h ?_
        intro y147 h
        refine T.ild_8 (q := 151) dX8_holdsLine_149 rfl ?_
        refine T.bipush (q := 153) (8) dX8_holdsLine_151 rfl (by decide) ?_
        refine s_dia (fun s230_153 : Int32 => TJ G mX8_holdsLine (sk_R 3 0 0) (sk_K G 0 0 (rI Q) noX) cells slots 230 [some (.ref (G.2.2.1 140)), none, some (.int a2), some (.int a3), some (.int a4), some (.int (s23.1 + (-1 : Int32))), some (.int y10), some (.int s23.2.1), some (.int y50), some (.int y138), some (.int y147), none] [.int s230_153] s23.2.2) h (fun s230_153 h => ?_) (fun k9 hJ9 h => ?_)
        · refine T.ist_11 (q := 232) dX8_holdsLine_230 rfl (by decide) sk_ok_i ?_
          refine T.ald_0 (q := 233) dX8_holdsLine_232 rfl ?_
          refine g_X8_55 rfl dX8_holdsLine_233 (q := 236) rfl ?_
          refine T.ild_5 (q := 238) dX8_holdsLine_236 rfl ?_
          refine T.iconst (q := 239) (1) dX8_holdsLine_238 rfl (by decide) ?_
          refine T.isub (q := 240) dX8_holdsLine_239 rfl ?_
          refine T.ild_8 (q := 242) dX8_holdsLine_240 rfl ?_
          refine T.bipush (q := 244) (7) dX8_holdsLine_242 rfl (by decide) ?_
          refine T.ic_ne (tgt := 255) (q := 247) dX8_holdsLine_244 (by decide) rfl (fun h244 => ?_) (fun h244 => ?_)
          · replace h := s_f h244 h
            refine T.ild_11 (q := 257) dX8_holdsLine_255 rfl ?_
            refine T.if_eq (tgt := 264) (q := 260) dX8_holdsLine_257 (by decide) rfl (fun h257 => ?_) (fun h257 => ?_)
            · replace h := s_f (fun q => q h257) h
              refine T.iconst (q := 265) (0) dX8_holdsLine_264 rfl (by decide) ?_
              refine T.iast (n := 400) rfl rfl (by decide) dX8_holdsLine_265 (q := 266) rfl h.1 ?_
              refine S.mem h.2 ?_
              intro M265 h
              refine T.inc_7 (q := 269) (1) dX8_holdsLine_266 rfl (by decide) (by decide) sk_ok_i ?_
              refine T.goto (tgt := 23) dX8_holdsLine_269 (by decide) ?_
              refine T.drop_8 ?_
              refine T.drop_9 ?_
              refine T.drop_10 ?_
              refine T.drop_11 ?_
              exact hc9 ((s23.1 + (-1 : Int32)), (s23.2.1 + (1 : Int32)), M265) h
            · replace h := s_t h257 h
              refine T.iconst (q := 261) (1) dX8_holdsLine_260 rfl (by decide) ?_
              refine T.goto (tgt := 265) dX8_holdsLine_261 (by decide) ?_
              refine T.iast (n := 400) rfl rfl (by decide) dX8_holdsLine_265 (q := 266) rfl h.1 ?_
              refine S.mem h.2 ?_
              intro M265 h
              refine T.inc_7 (q := 269) (1) dX8_holdsLine_266 rfl (by decide) (by decide) sk_ok_i ?_
              refine T.goto (tgt := 23) dX8_holdsLine_269 (by decide) ?_
              refine T.drop_8 ?_
              refine T.drop_9 ?_
              refine T.drop_10 ?_
              refine T.drop_11 ?_
              exact hc9 ((s23.1 + (-1 : Int32)), (s23.2.1 + (1 : Int32)), M265) h
          · replace h := s_t h244 h
            refine T.ild_9 (q := 249) dX8_holdsLine_247 rfl ?_
            refine T.ild_10 (q := 251) dX8_holdsLine_249 rfl ?_
            refine T.iadd (q := 252) dX8_holdsLine_251 rfl ?_
            refine T.goto (tgt := 265) dX8_holdsLine_252 (by decide) ?_
            refine T.iast (n := 400) rfl rfl (by decide) dX8_holdsLine_265 (q := 266) rfl h.1 ?_
            refine S.mem h.2 ?_
            intro M265 h
            refine T.inc_7 (q := 269) (1) dX8_holdsLine_266 rfl (by decide) (by decide) sk_ok_i ?_
            refine T.goto (tgt := 23) dX8_holdsLine_269 (by decide) ?_
            refine T.drop_8 ?_
            refine T.drop_9 ?_
            refine T.drop_10 ?_
            refine T.drop_11 ?_
            exact hc9 ((s23.1 + (-1 : Int32)), (s23.2.1 + (1 : Int32)), M265) h
        · refine T.ic_ne (tgt := 171) (q := 156) dX8_holdsLine_153 (by decide) rfl (fun h153 => ?_) (fun h153 => ?_)
          · replace h := s_fk h153 h
            refine T.ild_8 (q := 173) dX8_holdsLine_171 rfl ?_
            refine T.bipush (q := 175) (9) dX8_holdsLine_173 rfl (by decide) ?_
            refine T.ic_ne (tgt := 193) (q := 178) dX8_holdsLine_175 (by decide) rfl (fun h175 => ?_) (fun h175 => ?_)
            · replace h := s_fk h175 h
              refine T.ild_8 (q := 195) dX8_holdsLine_193 rfl ?_
              refine T.bipush (q := 197) (11) dX8_holdsLine_195 rfl (by decide) ?_
              refine T.ic_ne (tgt := 217) (q := 200) dX8_holdsLine_197 (by decide) rfl (fun h197 => ?_) (fun h197 => ?_)
              · replace h := s_fk h197 h
                refine T.ild_9 (q := 219) dX8_holdsLine_217 rfl ?_
                refine T.ild_10 (q := 221) dX8_holdsLine_219 rfl ?_
                refine T.iadd (q := 222) dX8_holdsLine_221 rfl ?_
                refine T.if_le (tgt := 229) (q := 225) dX8_holdsLine_222 (by decide) rfl (fun h222 => ?_) (fun h222 => ?_)
                · replace h := s_tk h222 h
                  refine T.iconst (q := 230) (0) dX8_holdsLine_229 rfl (by decide) ?_
                  exact hJ9 _ h
                · replace h := s_fk h222 h
                  refine T.iconst (q := 226) (1) dX8_holdsLine_225 rfl (by decide) ?_
                  refine T.goto (tgt := 230) dX8_holdsLine_226 (by decide) ?_
                  exact hJ9 _ h
              · replace h := s_tk h197 h
                refine T.ild_9 (q := 202) dX8_holdsLine_200 rfl ?_
                refine T.ild_10 (q := 204) dX8_holdsLine_202 rfl ?_
                refine T.iadd (q := 205) dX8_holdsLine_204 rfl ?_
                refine T.iconst (q := 206) (2) dX8_holdsLine_205 rfl (by decide) ?_
                refine T.ic_ne (tgt := 213) (q := 209) dX8_holdsLine_206 (by decide) rfl (fun h206 => ?_) (fun h206 => ?_)
                · replace h := s_fk h206 h
                  refine T.iconst (q := 214) (0) dX8_holdsLine_213 rfl (by decide) ?_
                  refine T.goto (tgt := 230) dX8_holdsLine_214 (by decide) ?_
                  exact hJ9 _ h
                · replace h := s_tk h206 h
                  refine T.iconst (q := 210) (1) dX8_holdsLine_209 rfl (by decide) ?_
                  refine T.goto (tgt := 230) dX8_holdsLine_210 (by decide) ?_
                  exact hJ9 _ h
            · replace h := s_tk h175 h
              refine T.ild_9 (q := 180) dX8_holdsLine_178 rfl ?_
              refine T.ild_10 (q := 182) dX8_holdsLine_180 rfl ?_
              refine T.ic_le (tgt := 189) (q := 185) dX8_holdsLine_182 (by decide) rfl (fun h182 => ?_) (fun h182 => ?_)
              · replace h := s_tk h182 h
                refine T.iconst (q := 190) (0) dX8_holdsLine_189 rfl (by decide) ?_
                refine T.goto (tgt := 230) dX8_holdsLine_190 (by decide) ?_
                exact hJ9 _ h
              · replace h := s_fk h182 h
                refine T.iconst (q := 186) (1) dX8_holdsLine_185 rfl (by decide) ?_
                refine T.goto (tgt := 230) dX8_holdsLine_186 (by decide) ?_
                exact hJ9 _ h
          · replace h := s_tk h153 h
            refine T.ild_9 (q := 158) dX8_holdsLine_156 rfl ?_
            refine T.ild_10 (q := 160) dX8_holdsLine_158 rfl ?_
            refine T.ic_ge (tgt := 167) (q := 163) dX8_holdsLine_160 (by decide) rfl (fun h160 => ?_) (fun h160 => ?_)
            · replace h := s_tk h160 h
              refine T.iconst (q := 168) (0) dX8_holdsLine_167 rfl (by decide) ?_
              refine T.goto (tgt := 230) dX8_holdsLine_168 (by decide) ?_
              exact hJ9 _ h
            · replace h := s_fk h160 h
              refine T.iconst (q := 164) (1) dX8_holdsLine_163 rfl (by decide) ?_
              refine T.goto (tgt := 230) dX8_holdsLine_164 (by decide) ?_
              exact hJ9 _ h
      · replace h := s_t h100 h
        refine T.ald_0 (q := 104) dX8_holdsLine_103 rfl ?_
        refine g_X8_55 rfl dX8_holdsLine_104 (q := 107) rfl ?_
        refine T.ild_5 (q := 109) dX8_holdsLine_107 rfl ?_
        refine T.iconst (q := 110) (1) dX8_holdsLine_109 rfl (by decide) ?_
        refine T.isub (q := 111) dX8_holdsLine_110 rfl ?_
        refine T.iconst (q := 112) (1) dX8_holdsLine_111 rfl (by decide) ?_
        refine T.ald_0 (q := 113) dX8_holdsLine_112 rfl ?_
        refine g_X8_55 rfl dX8_holdsLine_113 (q := 116) rfl ?_
        refine T.ild_5 (q := 118) dX8_holdsLine_116 rfl ?_
        refine T.iconst (q := 119) (1) dX8_holdsLine_118 rfl (by decide) ?_
        refine T.isub (q := 120) dX8_holdsLine_119 rfl ?_
        refine T.iald (n := 400) rfl rfl (by decide) dX8_holdsLine_120 (q := 121) rfl h.1 ?_
        replace h := h.2
        refine T.isub (q := 122) dX8_holdsLine_121 rfl ?_
        refine T.iast (n := 400) rfl rfl (by decide) dX8_holdsLine_122 (q := 123) rfl h.1 ?_
        refine S.mem h.2 ?_
        intro M122 h
        refine T.goto (tgt := 266) dX8_holdsLine_123 (by decide) ?_
        refine T.inc_7 (q := 269) (1) dX8_holdsLine_266 rfl (by decide) (by decide) sk_ok_i ?_
        refine T.goto (tgt := 23) dX8_holdsLine_269 (by decide) ?_
        refine T.drop_8 ?_
        exact hc9 (s23.1, (s23.2.1 + (1 : Int32)), M122) h
    · replace h := s_t h56 h
      refine T.ald_0 (q := 60) dX8_holdsLine_59 rfl ?_
      refine g_X8_55 rfl dX8_holdsLine_60 (q := 63) rfl ?_
      refine T.ild_5 (q := 65) dX8_holdsLine_63 rfl ?_
      refine T.ild_8 (q := 67) dX8_holdsLine_65 rfl ?_
      refine T.ald_0 (q := 68) dX8_holdsLine_67 rfl ?_
      refine g_X8_13 rfl dX8_holdsLine_68 (q := 71) rfl ?_
      refine T.sipush (q := 74) (611) dX8_holdsLine_71 rfl (by decide) ?_
      refine T.iconst (q := 75) (2) dX8_holdsLine_74 rfl (by decide) ?_
      refine T.ild_7 (q := 77) dX8_holdsLine_75 rfl ?_
      refine T.imul (q := 78) dX8_holdsLine_77 rfl ?_
      refine T.iadd (q := 79) dX8_holdsLine_78 rfl ?_
      refine T.iconst (q := 80) (1) dX8_holdsLine_79 rfl (by decide) ?_
      refine T.iadd (q := 81) dX8_holdsLine_80 rfl ?_
      refine T.iald (n := 2260) rfl rfl (by decide) dX8_holdsLine_81 (q := 82) rfl h.1 ?_
      replace h := h.2
      refine T.ild_2 (q := 83) dX8_holdsLine_82 rfl ?_
      refine T.ild_3 (q := 84) dX8_holdsLine_83 rfl ?_
      refine T.ild_4 (q := 86) dX8_holdsLine_84 rfl ?_
      refine k_X8_296 rfl dX8_holdsLine_86 (q := 89) rfl (by decide) hc0 hs0 (Nat.le_of_ble_eq_true rfl) (t_X8_factOf (P := fun r9 => r9 = (f_X8_factOf y50 (s23.2.2.1 141 (((611 : Int32) + ((2 : Int32) * s23.2.1)) + (1 : Int32)).toNatClampNeg) a2 a3 a4)) rfl) ?_
      rintro _ _ ⟨rfl, h9⟩
      obtain rfl := h9.symm
      refine T.iast (n := 400) rfl rfl (by decide) dX8_holdsLine_89 (q := 90) rfl h.1 ?_
      refine S.mem h.2 ?_
      intro M89 h
      refine T.inc_5 (q := 93) (1) dX8_holdsLine_90 rfl (by decide) (by decide) sk_ok_i ?_
      refine T.goto (tgt := 266) dX8_holdsLine_93 (by decide) ?_
      refine T.inc_7 (q := 269) (1) dX8_holdsLine_266 rfl (by decide) (by decide) sk_ok_i ?_
      refine T.goto (tgt := 23) dX8_holdsLine_269 (by decide) ?_
      refine T.drop_8 ?_
      exact hc9 ((s23.1 + (1 : Int32)), (s23.2.1 + (1 : Int32)), M89) h
theorem t_X8_holdsLine {G : sk_G} {M : sk_M} {a1 : Int32} {a2 : Int32} {a3 : Int32} {a4 : Int32}  {Q : Int32 → sk_M → Prop} (h : w_X8_holdsLine a1 a2 a3 a4 M Q) : Ctr G mX8_holdsLine 3 0 0 [.ref (G.2.2.1 140), .int a1, .int a2, .int a3, .int a4] M (rI Q) noX := by
  unfold w_X8_holdsLine at h
  refine Ctr.of 7 (by decide) (Nat.le_of_ble_eq_true rfl) ?_
  show TJ G mX8_holdsLine (sk_R 3 0 0) (sk_K G 0 0 (rI Q) noX) 0 0 0 [some (.ref (G.2.2.1 140)), some (.int a1), some (.int a2), some (.int a3), some (.int a4), none, none, none, none, none, none, none] [] M
  refine T.iconst (q := 1) (0) dX8_holdsLine_0 rfl (by decide) ?_
  refine T.ist_5 (q := 3) dX8_holdsLine_1 rfl (by decide) sk_ok_i ?_
  refine T.sipush (q := 6) (563) dX8_holdsLine_3 rfl (by decide) ?_
  refine T.iconst (q := 7) (4) dX8_holdsLine_6 rfl (by decide) ?_
  refine T.ild_1 (q := 8) dX8_holdsLine_7 rfl ?_
  refine T.imul (q := 9) dX8_holdsLine_8 rfl ?_
  refine T.iadd (q := 10) dX8_holdsLine_9 rfl ?_
  refine T.ist_6 (q := 12) dX8_holdsLine_10 rfl (by decide) sk_ok_i ?_
  refine S.i6 h ?_
  intro y10 h
  refine T.ald_0 (q := 13) dX8_holdsLine_12 rfl ?_
  refine g_X8_13 rfl dX8_holdsLine_13 (q := 16) rfl ?_
  refine T.ild_6 (q := 18) dX8_holdsLine_16 rfl ?_
  refine T.iconst (q := 19) (2) dX8_holdsLine_18 rfl (by decide) ?_
  refine T.iadd (q := 20) dX8_holdsLine_19 rfl ?_
  refine T.iald (n := 2260) rfl rfl (by decide) dX8_holdsLine_20 (q := 21) rfl h.1 ?_
  replace h := h.2
  refine T.ist_7 (q := 23) dX8_holdsLine_21 rfl (by decide) sk_ok_i ?_
  refine S.i7 h ?_
  intro y21 h
  refine T.drop_1 ?_
  refine tl_X8_holdsLine_L23  (by decide) (by decide) ?_ _ ((0 : Int32), y21, M) h
  intro s272 h
  refine T.ild_5 (q := 274) dX8_holdsLine_272 rfl ?_
  refine T.if_eq (tgt := 287) (q := 277) dX8_holdsLine_274 (by decide) rfl (fun h274 => ?_) (fun h274 => ?_)
  · replace h := s_f (fun q => q h274) h
    refine T.iconst (q := 288) (1) dX8_holdsLine_287 rfl (by decide) ?_
    refine T.goto (tgt := 292) dX8_holdsLine_288 (by decide) ?_
    exact T.retZ rfl dX8_holdsLine_292 (by decide) (by decide) rfl h
  · replace h := s_t h274 h
    refine T.ald_0 (q := 278) dX8_holdsLine_277 rfl ?_
    refine g_X8_55 rfl dX8_holdsLine_278 (q := 281) rfl ?_
    refine T.iconst (q := 282) (0) dX8_holdsLine_281 rfl (by decide) ?_
    refine T.ialdk (n := 400) rfl rfl (by decide) dX8_holdsLine_282 (q := 283) rfl (k9 := 0) (by decide) ?_
    refine T.iconst (q := 284) (1) dX8_holdsLine_283 rfl (by decide) ?_
    refine T.ic_ne (tgt := 291) (q := 287) dX8_holdsLine_284 (by decide) rfl (fun h284 => ?_) (fun h284 => ?_)
    · replace h := s_f h284 h
      refine T.iconst (q := 292) (0) dX8_holdsLine_291 rfl (by decide) ?_
      exact T.retZ rfl dX8_holdsLine_292 (by decide) (by decide) rfl h
    · replace h := s_t h284 h
      refine T.iconst (q := 288) (1) dX8_holdsLine_287 rfl (by decide) ?_
      refine T.goto (tgt := 292) dX8_holdsLine_288 (by decide) ?_
      exact T.retZ rfl dX8_holdsLine_292 (by decide) (by decide) rfl h
theorem tl_X8_clickOf_L26 {G : sk_G} {cells slots : Nat} {a1 : Int32} {a2 : Int32} {a3 : Int32} {Q : Int32 → sk_M → Prop}  (hc0 : cells ≤ 0) (hs0 : slots ≤ 0) : ∀ (F : Nat) (s26 : Int32 × Int32 × sk_M), lp (w_X8_clickOf_L26 a1 a2 a3 Q) F s26 → TJ G mX8_clickOf (sk_R 4 0 0) (sk_K G 0 0 (rI Q) noX) cells slots 26 [some (.ref (G.2.2.1 140)), some (.int a1), some (.int a2), some (.int a3), some (.int s26.1), some (.int s26.2.1)] [] s26.2.2 := by
  refine lp_sound (fun c hc9 s26 h => ?_)
  unfold w_X8_clickOf_L26 at h
  refine T.ild_5 (q := 28) dX8_clickOf_26 rfl ?_
  refine T.ald_0 (q := 29) dX8_clickOf_28 rfl ?_
  refine g_X8_13 rfl dX8_clickOf_29 (q := 32) rfl ?_
  refine T.sipush (q := 35) (562) dX8_clickOf_32 rfl (by decide) ?_
  refine T.ialdk (n := 2260) rfl rfl (by decide) dX8_clickOf_35 (q := 36) rfl (k9 := 562) (by decide) ?_
  refine T.ic_ge (tgt := 95) (q := 39) dX8_clickOf_36 (by decide) rfl (fun h36 => ?_) (fun h36 => ?_)
  · replace h := s_f (fun q => q h36) h
    refine T.ild_4 (q := 97) dX8_clickOf_95 rfl ?_
    exact T.retI rfl dX8_clickOf_97 hc0 hs0 h
  · replace h := s_t h36 h
    refine T.ild_4 (q := 41) dX8_clickOf_39 rfl ?_
    refine T.ald_0 (q := 42) dX8_clickOf_41 rfl ?_
    refine T.ild_5 (q := 44) dX8_clickOf_42 rfl ?_
    refine T.ild_1 (q := 45) dX8_clickOf_44 rfl ?_
    refine T.ild_2 (q := 46) dX8_clickOf_45 rfl ?_
    refine T.ild_3 (q := 47) dX8_clickOf_46 rfl ?_
    refine k_X8_300 rfl dX8_clickOf_47 (q := 50) rfl (by decide) hc0 hs0 (Nat.le_of_ble_eq_true rfl) (t_X8_holdsLine  h) ?_
    intro r47 M47 h
    refine T.if_eq (tgt := 85) (q := 53) dX8_clickOf_50 (by decide) rfl (fun h50 => ?_) (fun h50 => ?_)
    · replace h := s_f (fun q => q h50) h
      refine T.iconst (q := 86) (0) dX8_clickOf_85 rfl (by decide) ?_
      refine T.iadd (q := 87) dX8_clickOf_86 rfl ?_
      refine T.ist_4 (q := 89) dX8_clickOf_87 rfl (by decide) sk_ok_i ?_
      refine S.i4 h ?_
      intro y87 h
      refine T.inc_5 (q := 92) (1) dX8_clickOf_89 rfl (by decide) (by decide) sk_ok_i ?_
      refine T.goto (tgt := 26) dX8_clickOf_92 (by decide) ?_
      exact hc9 (y87, (s26.2.1 + (1 : Int32)), M47) h
    · replace h := s_t h50 h
      refine T.ald_0 (q := 54) dX8_clickOf_53 rfl ?_
      refine g_X8_13 rfl dX8_clickOf_54 (q := 57) rfl ?_
      refine T.sipush (q := 60) (563) dX8_clickOf_57 rfl (by decide) ?_
      refine T.iconst (q := 61) (4) dX8_clickOf_60 rfl (by decide) ?_
      refine T.ild_5 (q := 63) dX8_clickOf_61 rfl ?_
      refine T.imul (q := 64) dX8_clickOf_63 rfl ?_
      refine T.iadd (q := 65) dX8_clickOf_64 rfl ?_
      refine T.iald (n := 2260) rfl rfl (by decide) dX8_clickOf_65 (q := 66) rfl h.1 ?_
      replace h := h.2
      refine T.ald_0 (q := 67) dX8_clickOf_66 rfl ?_
      refine g_X8_13 rfl dX8_clickOf_67 (q := 70) rfl ?_
      refine T.sipush (q := 73) (563) dX8_clickOf_70 rfl (by decide) ?_
      refine T.iconst (q := 74) (4) dX8_clickOf_73 rfl (by decide) ?_
      refine T.ild_5 (q := 76) dX8_clickOf_74 rfl ?_
      refine T.imul (q := 77) dX8_clickOf_76 rfl ?_
      refine T.iadd (q := 78) dX8_clickOf_77 rfl ?_
      refine T.iconst (q := 79) (1) dX8_clickOf_78 rfl (by decide) ?_
      refine T.iadd (q := 80) dX8_clickOf_79 rfl ?_
      refine T.iald (n := 2260) rfl rfl (by decide) dX8_clickOf_80 (q := 81) rfl h.1 ?_
      replace h := h.2
      refine T.imul (q := 82) dX8_clickOf_81 rfl ?_
      refine T.goto (tgt := 86) dX8_clickOf_82 (by decide) ?_
      refine T.iadd (q := 87) dX8_clickOf_86 rfl ?_
      refine T.ist_4 (q := 89) dX8_clickOf_87 rfl (by decide) sk_ok_i ?_
      refine S.i4 h ?_
      intro y87 h
      refine T.inc_5 (q := 92) (1) dX8_clickOf_89 rfl (by decide) (by decide) sk_ok_i ?_
      refine T.goto (tgt := 26) dX8_clickOf_92 (by decide) ?_
      exact hc9 (y87, (s26.2.1 + (1 : Int32)), M47) h
theorem t_X8_clickOf {G : sk_G} {M : sk_M} {a1 : Int32} {a2 : Int32} {a3 : Int32}  {Q : Int32 → sk_M → Prop} (h : w_X8_clickOf a1 a2 a3 M Q) : Ctr G mX8_clickOf 4 0 0 [.ref (G.2.2.1 140), .int a1, .int a2, .int a3] M (rI Q) noX := by
  unfold w_X8_clickOf at h
  refine Ctr.of 2 (by decide) (Nat.le_of_ble_eq_true rfl) ?_
  show TJ G mX8_clickOf (sk_R 4 0 0) (sk_K G 0 0 (rI Q) noX) 0 0 0 [some (.ref (G.2.2.1 140)), some (.int a1), some (.int a2), some (.int a3), none, none] [] M
  refine T.ald_0 (q := 1) dX8_clickOf_0 rfl ?_
  refine g_X8_13 rfl dX8_clickOf_1 (q := 4) rfl ?_
  refine T.iconst (q := 5) (4) dX8_clickOf_4 rfl (by decide) ?_
  refine T.ialdk (n := 2260) rfl rfl (by decide) dX8_clickOf_5 (q := 6) rfl (k9 := 4) (by decide) ?_
  refine T.if_ne (tgt := 20) (q := 9) dX8_clickOf_6 (by decide) rfl (fun h6 => ?_) (fun h6 => ?_)
  · replace h := s_f h6 h
    refine T.iconst (q := 21) (0) dX8_clickOf_20 rfl (by decide) ?_
    refine T.ist_4 (q := 23) dX8_clickOf_21 rfl (by decide) sk_ok_i ?_
    refine T.iconst (q := 24) (0) dX8_clickOf_23 rfl (by decide) ?_
    refine T.ist_5 (q := 26) dX8_clickOf_24 rfl (by decide) sk_ok_i ?_
    exact tl_X8_clickOf_L26  (by decide) (by decide) _ ((0 : Int32), (0 : Int32), M) h
  · replace h := s_t h6 h
    refine T.ild_2 (q := 10) dX8_clickOf_9 rfl ?_
    refine T.ild_3 (q := 11) dX8_clickOf_10 rfl ?_
    refine T.ic_ne (tgt := 18) (q := 14) dX8_clickOf_11 (by decide) rfl (fun h11 => ?_) (fun h11 => ?_)
    · replace h := s_f h11 h
      refine T.iconst (q := 19) (0) dX8_clickOf_18 rfl (by decide) ?_
      exact T.retI rfl dX8_clickOf_19 (by decide) (by decide) h
    · replace h := s_t h11 h
      refine T.iconst (q := 15) (1) dX8_clickOf_14 rfl (by decide) ?_
      refine T.goto (tgt := 19) dX8_clickOf_15 (by decide) ?_
      exact T.retI rfl dX8_clickOf_19 (by decide) (by decide) h
theorem t_X8_clickAt {G : sk_G} {M : sk_M} {a0 : Int32} {a1 : Int32} {a2 : Int32}  {P : Int32 → Prop} (h : P (f_X8_clickAt a0 a1 a2)) : Ctr G mX8_clickAt 0 0 0 [.int a0, .int a1, .int a2] M (rI fun r9 M9 => P r9 ∧ M9 = M) noX := by
  unfold f_X8_clickAt at h
  refine Ctr.of 0 (by decide) (Nat.le_of_ble_eq_true rfl) ?_
  show TJ G mX8_clickAt (sk_R 0 0 0) (sk_K G 0 0 (rI fun r9 M9 => P r9 ∧ M9 = M) noX) 0 0 0 [some (.int a0), some (.int a1), some (.int a2)] [] M
  refine T.bipush (q := 2) (6) dX8_clickAt_0 rfl (by decide) ?_
  refine T.bipush (q := 4) (6) dX8_clickAt_2 rfl (by decide) ?_
  refine T.ild_0 (q := 5) dX8_clickAt_4 rfl ?_
  refine T.imul (q := 6) dX8_clickAt_5 rfl ?_
  refine T.ild_1 (q := 7) dX8_clickAt_6 rfl ?_
  refine T.iadd (q := 8) dX8_clickAt_7 rfl ?_
  refine T.imul (q := 9) dX8_clickAt_8 rfl ?_
  refine T.ild_2 (q := 10) dX8_clickAt_9 rfl ?_
  refine T.iadd (q := 11) dX8_clickAt_10 rfl ?_
  exact T.retI rfl dX8_clickAt_11 (by decide) (by decide) ⟨h, rfl⟩
theorem tl_X8_laysClicks_L17 {G : sk_G} {cells slots : Nat} {s2 : Int32 × sk_M} {s9 : Int32 × sk_M} {Q : sk_M → Prop} {k47 : sk_M → Prop}  (hc0 : cells ≤ 0) (hs0 : slots ≤ 0) (hk47 : ∀ s47 : sk_M, k47 s47 → TJ G mX8_laysClicks (sk_R 5 0 0) (sk_K G 0 0 (rV Q) noX) cells slots 47 [some (.ref (G.2.2.1 140)), some (.int s2.1), some (.int s9.1), none] [] s47) : ∀ (F : Nat) (s17 : Int32 × sk_M), lp (w_X8_laysClicks_L17 s2 s9 k47) F s17 → TJ G mX8_laysClicks (sk_R 5 0 0) (sk_K G 0 0 (rV Q) noX) cells slots 17 [some (.ref (G.2.2.1 140)), some (.int s2.1), some (.int s9.1), some (.int s17.1)] [] s17.2 := by
  refine lp_sound (fun c hc9 s17 h => ?_)
  unfold w_X8_laysClicks_L17 at h
  refine T.ild_3 (q := 18) dX8_laysClicks_17 rfl ?_
  refine T.bipush (q := 20) (6) dX8_laysClicks_18 rfl (by decide) ?_
  refine T.ic_ge (tgt := 47) (q := 23) dX8_laysClicks_20 (by decide) rfl (fun h20 => ?_) (fun h20 => ?_)
  · replace h := s_f (fun q => q h20) h
    refine T.drop_3 ?_
    exact hk47 s17.2 h
  · replace h := s_t h20 h
    refine T.ald_0 (q := 24) dX8_laysClicks_23 rfl ?_
    refine g_X8_58 rfl dX8_laysClicks_24 (q := 27) rfl ?_
    refine T.ild_1 (q := 28) dX8_laysClicks_27 rfl ?_
    refine T.ild_2 (q := 29) dX8_laysClicks_28 rfl ?_
    refine T.ild_3 (q := 30) dX8_laysClicks_29 rfl ?_
    refine k_X8_304 rfl dX8_laysClicks_30 (q := 33) rfl (by decide) hc0 hs0 (Nat.le_of_ble_eq_true rfl) (t_X8_clickAt (P := fun r9 => r9 = (f_X8_clickAt s2.1 s9.1 s17.1)) rfl) ?_
    rintro _ _ ⟨rfl, h9⟩
    obtain rfl := h9.symm
    refine T.ald_0 (q := 34) dX8_laysClicks_33 rfl ?_
    refine T.ild_1 (q := 35) dX8_laysClicks_34 rfl ?_
    refine T.ild_2 (q := 36) dX8_laysClicks_35 rfl ?_
    refine T.ild_3 (q := 37) dX8_laysClicks_36 rfl ?_
    refine k_X8_308 rfl dX8_laysClicks_37 (q := 40) rfl (by decide) hc0 hs0 (Nat.le_of_ble_eq_true rfl) (t_X8_clickOf  h) ?_
    intro r37 M37 h
    refine T.iast (n := 108) rfl rfl (by decide) dX8_laysClicks_40 (q := 41) rfl h.1 ?_
    refine S.mem h.2 ?_
    intro M40 h
    refine T.inc_3 (q := 44) (1) dX8_laysClicks_41 rfl (by decide) (by decide) sk_ok_i ?_
    refine T.goto (tgt := 17) dX8_laysClicks_44 (by decide) ?_
    exact hc9 ((s17.1 + (1 : Int32)), M40) h
theorem tl_X8_laysClicks_L9 {G : sk_G} {cells slots : Nat} {s2 : Int32 × sk_M} {Q : sk_M → Prop} {k53 : sk_M → Prop}  (hc0 : cells ≤ 0) (hs0 : slots ≤ 0) (hk53 : ∀ s53 : sk_M, k53 s53 → TJ G mX8_laysClicks (sk_R 5 0 0) (sk_K G 0 0 (rV Q) noX) cells slots 53 [some (.ref (G.2.2.1 140)), some (.int s2.1), none, none] [] s53) : ∀ (F : Nat) (s9 : Int32 × sk_M), lp (w_X8_laysClicks_L9 s2 k53) F s9 → TJ G mX8_laysClicks (sk_R 5 0 0) (sk_K G 0 0 (rV Q) noX) cells slots 9 [some (.ref (G.2.2.1 140)), some (.int s2.1), some (.int s9.1), none] [] s9.2 := by
  refine lp_sound (fun c hc9 s9 h => ?_)
  unfold w_X8_laysClicks_L9 at h
  refine T.ild_2 (q := 10) dX8_laysClicks_9 rfl ?_
  refine T.bipush (q := 12) (6) dX8_laysClicks_10 rfl (by decide) ?_
  refine T.ic_ge (tgt := 53) (q := 15) dX8_laysClicks_12 (by decide) rfl (fun h12 => ?_) (fun h12 => ?_)
  · replace h := s_f (fun q => q h12) h
    refine T.drop_2 ?_
    exact hk53 s9.2 h
  · replace h := s_t h12 h
    refine T.iconst (q := 16) (0) dX8_laysClicks_15 rfl (by decide) ?_
    refine T.ist_3 (q := 17) dX8_laysClicks_16 rfl (by decide) sk_ok_i ?_
    refine tl_X8_laysClicks_L17  hc0 hs0 ?_ _ ((0 : Int32), s9.2) h
    intro s47 h
    refine T.inc_2 (q := 50) (1) dX8_laysClicks_47 rfl (by decide) (by decide) sk_ok_i ?_
    refine T.goto (tgt := 9) dX8_laysClicks_50 (by decide) ?_
    exact hc9 ((s9.1 + (1 : Int32)), s47) h
theorem tl_X8_laysClicks_L2 {G : sk_G} {cells slots : Nat}  {Q : sk_M → Prop}  (hc0 : cells ≤ 0) (hs0 : slots ≤ 0) : ∀ (F : Nat) (s2 : Int32 × sk_M), lp (w_X8_laysClicks_L2 Q) F s2 → TJ G mX8_laysClicks (sk_R 5 0 0) (sk_K G 0 0 (rV Q) noX) cells slots 2 [some (.ref (G.2.2.1 140)), some (.int s2.1), none, none] [] s2.2 := by
  refine lp_sound (fun c hc9 s2 h => ?_)
  unfold w_X8_laysClicks_L2 at h
  refine T.ild_1 (q := 3) dX8_laysClicks_2 rfl ?_
  refine T.iconst (q := 4) (3) dX8_laysClicks_3 rfl (by decide) ?_
  refine T.ic_ge (tgt := 59) (q := 7) dX8_laysClicks_4 (by decide) rfl (fun h4 => ?_) (fun h4 => ?_)
  · replace h := s_f (fun q => q h4) h
    exact T.retV rfl dX8_laysClicks_59 hc0 hs0 h
  · replace h := s_t h4 h
    refine T.iconst (q := 8) (0) dX8_laysClicks_7 rfl (by decide) ?_
    refine T.ist_2 (q := 9) dX8_laysClicks_8 rfl (by decide) sk_ok_i ?_
    refine tl_X8_laysClicks_L9  hc0 hs0 ?_ _ ((0 : Int32), s2.2) h
    intro s53 h
    refine T.inc_1 (q := 56) (1) dX8_laysClicks_53 rfl (by decide) (by decide) sk_ok_r ?_
    refine T.goto (tgt := 2) dX8_laysClicks_56 (by decide) ?_
    exact hc9 ((s2.1 + (1 : Int32)), s53) h
theorem t_X8_laysClicks {G : sk_G} {M : sk_M}   {Q : sk_M → Prop} (h : w_X8_laysClicks  M Q) : Ctr G mX8_laysClicks 5 0 0 [.ref (G.2.2.1 140)] M (rV Q) noX := by
  unfold w_X8_laysClicks at h
  refine Ctr.of 3 (by decide) (Nat.le_of_ble_eq_true rfl) ?_
  show TJ G mX8_laysClicks (sk_R 5 0 0) (sk_K G 0 0 (rV Q) noX) 0 0 0 [some (.ref (G.2.2.1 140)), none, none, none] [] M
  refine T.iconst (q := 1) (0) dX8_laysClicks_0 rfl (by decide) ?_
  refine T.ist_1 (q := 2) dX8_laysClicks_1 rfl (by decide) sk_ok_r ?_
  exact tl_X8_laysClicks_L2  (by decide) (by decide) _ ((0 : Int32), M) h
theorem t_X8_soundOf {G : sk_G} {M : sk_M} {a1 : Int32} {a2 : Int32}  {Q : Int32 → Prop} (h : w_X8_soundOf a1 a2 M Q) : Ctr G mX8_soundOf 1 0 0 [.ref (G.2.2.1 140), .int a1, .int a2] M (rI fun r9 M9 => Q r9 ∧ M9 = M) noX := by
  unfold w_X8_soundOf at h
  refine Ctr.of 0 (by decide) (Nat.le_of_ble_eq_true rfl) ?_
  show TJ G mX8_soundOf (sk_R 1 0 0) (sk_K G 0 0 (rI fun r9 M9 => Q r9 ∧ M9 = M) noX) 0 0 0 [some (.ref (G.2.2.1 140)), some (.int a1), some (.int a2)] [] M
  refine T.ald_0 (q := 1) dX8_soundOf_0 rfl ?_
  refine g_X8_58 rfl dX8_soundOf_1 (q := 4) rfl ?_
  refine T.iconst (q := 5) (0) dX8_soundOf_4 rfl (by decide) ?_
  refine T.ild_1 (q := 6) dX8_soundOf_5 rfl ?_
  refine T.bipush (q := 8) (36) dX8_soundOf_6 rfl (by decide) ?_
  refine T.idiv (q := 9) dX8_soundOf_8 rfl (by decide) ?_
  refine T.ild_2 (q := 10) dX8_soundOf_9 rfl ?_
  refine T.bipush (q := 12) (36) dX8_soundOf_10 rfl (by decide) ?_
  refine T.idiv (q := 13) dX8_soundOf_12 rfl (by decide) ?_
  refine k_X8_304 rfl dX8_soundOf_13 (q := 16) rfl (by decide) (by decide) (by decide) (Nat.le_of_ble_eq_true rfl) (t_X8_clickAt (P := fun r9 => r9 = (f_X8_clickAt (0 : Int32) (a1 / (36 : Int32)) (a2 / (36 : Int32)))) rfl) ?_
  rintro _ _ ⟨rfl, h9⟩
  obtain rfl := h9.symm
  refine T.iald (n := 108) rfl rfl (by decide) dX8_soundOf_16 (q := 17) rfl h.1 ?_
  replace h := h.2
  refine T.ald_0 (q := 18) dX8_soundOf_17 rfl ?_
  refine g_X8_58 rfl dX8_soundOf_18 (q := 21) rfl ?_
  refine T.iconst (q := 22) (1) dX8_soundOf_21 rfl (by decide) ?_
  refine T.ild_1 (q := 23) dX8_soundOf_22 rfl ?_
  refine T.bipush (q := 25) (6) dX8_soundOf_23 rfl (by decide) ?_
  refine T.idiv (q := 26) dX8_soundOf_25 rfl (by decide) ?_
  refine T.bipush (q := 28) (6) dX8_soundOf_26 rfl (by decide) ?_
  refine T.irem (q := 29) dX8_soundOf_28 rfl (by decide) ?_
  refine T.ild_2 (q := 30) dX8_soundOf_29 rfl ?_
  refine T.bipush (q := 32) (6) dX8_soundOf_30 rfl (by decide) ?_
  refine T.idiv (q := 33) dX8_soundOf_32 rfl (by decide) ?_
  refine T.bipush (q := 35) (6) dX8_soundOf_33 rfl (by decide) ?_
  refine T.irem (q := 36) dX8_soundOf_35 rfl (by decide) ?_
  refine k_X8_304 rfl dX8_soundOf_36 (q := 39) rfl (by decide) (by decide) (by decide) (Nat.le_of_ble_eq_true rfl) (t_X8_clickAt (P := fun r9 => r9 = (f_X8_clickAt (1 : Int32) (rmI (a1 / (6 : Int32)) (6 : Int32)) (rmI (a2 / (6 : Int32)) (6 : Int32)))) rfl) ?_
  rintro _ _ ⟨rfl, h9⟩
  obtain rfl := h9.symm
  refine T.iald (n := 108) rfl rfl (by decide) dX8_soundOf_39 (q := 40) rfl h.1 ?_
  replace h := h.2
  refine T.iadd (q := 41) dX8_soundOf_40 rfl ?_
  refine T.ald_0 (q := 42) dX8_soundOf_41 rfl ?_
  refine g_X8_58 rfl dX8_soundOf_42 (q := 45) rfl ?_
  refine T.iconst (q := 46) (2) dX8_soundOf_45 rfl (by decide) ?_
  refine T.ild_1 (q := 47) dX8_soundOf_46 rfl ?_
  refine T.bipush (q := 49) (6) dX8_soundOf_47 rfl (by decide) ?_
  refine T.irem (q := 50) dX8_soundOf_49 rfl (by decide) ?_
  refine T.ild_2 (q := 51) dX8_soundOf_50 rfl ?_
  refine T.bipush (q := 53) (6) dX8_soundOf_51 rfl (by decide) ?_
  refine T.irem (q := 54) dX8_soundOf_53 rfl (by decide) ?_
  refine k_X8_304 rfl dX8_soundOf_54 (q := 57) rfl (by decide) (by decide) (by decide) (Nat.le_of_ble_eq_true rfl) (t_X8_clickAt (P := fun r9 => r9 = (f_X8_clickAt (2 : Int32) (rmI a1 (6 : Int32)) (rmI a2 (6 : Int32)))) rfl) ?_
  rintro _ _ ⟨rfl, h9⟩
  obtain rfl := h9.symm
  refine T.iald (n := 108) rfl rfl (by decide) dX8_soundOf_57 (q := 58) rfl h.1 ?_
  replace h := h.2
  refine T.iadd (q := 59) dX8_soundOf_58 rfl ?_
  exact T.retI rfl dX8_soundOf_59 (by decide) (by decide) ⟨h, rfl⟩
theorem t_X8_click {G : sk_G} {M : sk_M} {a1 : Int32} {a2 : Int32} {a3 : Int32}  {Q : Int32 → sk_M → Prop} (h : w_X8_click a1 a2 a3 M Q) : Ctr G mX8_click 5 0 0 [.ref (G.2.2.1 140), .int a1, .int a2, .int a3] M (rI Q) noX := by
  unfold w_X8_click at h
  refine Ctr.of 0 (by decide) (Nat.le_of_ble_eq_true rfl) ?_
  show TJ G mX8_click (sk_R 5 0 0) (sk_K G 0 0 (rI Q) noX) 0 0 0 [some (.ref (G.2.2.1 140)), some (.int a1), some (.int a2), some (.int a3)] [] M
  refine T.ald_0 (q := 1) dX8_click_0 rfl ?_
  refine T.iconst (q := 2) (0) dX8_click_1 rfl (by decide) ?_
  refine p_X8_3 rfl dX8_click_2 (q := 5) rfl ?_
  refine S.mem h ?_
  intro M2 h
  refine T.ald_0 (q := 6) dX8_click_5 rfl ?_
  refine T.ild_1 (q := 7) dX8_click_6 rfl ?_
  refine T.iconst (q := 8) (0) dX8_click_7 rfl (by decide) ?_
  refine T.iconst (q := 9) (2) dX8_click_8 rfl (by decide) ?_
  refine k_X8_85 rfl dX8_click_9 (q := 12) rfl (by decide) (by decide) (by decide) (Nat.le_of_ble_eq_true rfl) (t_X8_in (P := fun r9 => r9 = (f_X8_in a1 (0 : Int32) (2 : Int32))) rfl) ?_
  rintro _ _ ⟨rfl, h9⟩
  obtain rfl := h9.symm
  refine s_dia (fun s20_12 : Int32 => TJ G mX8_click (sk_R 5 0 0) (sk_K G 0 0 (rI Q) noX) 0 0 20 [some (.ref (G.2.2.1 140)), some (.int a1), some (.int a2), some (.int a3)] [.int s20_12, .ref (G.2.2.1 140)] M2) h (fun s20_12 h => ?_) (fun k9 hJ9 h => ?_)
  · refine T.iconst (q := 21) (1) dX8_click_20 rfl (by decide) ?_
    refine k_X8_281 rfl dX8_click_21 (q := 24) rfl (by decide) (by decide) (by decide) (Nat.le_of_ble_eq_true rfl) (t_X8_throwsIf  h) ?_
    intro r21 M21 h
    refine T.if_ne (tgt := 58) (q := 27) dX8_click_24 (by decide) rfl (fun h24 => ?_) (fun h24 => ?_)
    · replace h := s_f h24 h
      refine T.iconst (q := 59) (0) dX8_click_58 rfl (by decide) ?_
      exact T.retI rfl dX8_click_59 (by decide) (by decide) h
    · replace h := s_t h24 h
      refine T.ald_0 (q := 28) dX8_click_27 rfl ?_
      refine T.ild_2 (q := 29) dX8_click_28 rfl ?_
      refine T.iconst (q := 30) (0) dX8_click_29 rfl (by decide) ?_
      refine T.iconst (q := 31) (5) dX8_click_30 rfl (by decide) ?_
      refine k_X8_85 rfl dX8_click_31 (q := 34) rfl (by decide) (by decide) (by decide) (Nat.le_of_ble_eq_true rfl) (t_X8_in (P := fun r9 => r9 = (f_X8_in a2 (0 : Int32) (5 : Int32))) rfl) ?_
      rintro _ _ ⟨rfl, h9⟩
      obtain rfl := h9.symm
      refine s_dia (fun s51_34 : Int32 => TJ G mX8_click (sk_R 5 0 0) (sk_K G 0 0 (rI Q) noX) 0 0 51 [some (.ref (G.2.2.1 140)), some (.int a1), some (.int a2), some (.int a3)] [.int s51_34, .ref (G.2.2.1 140)] M21) h (fun s51_34 h => ?_) (fun k9 hJ9 h => ?_)
      · refine T.iconst (q := 52) (2) dX8_click_51 rfl (by decide) ?_
        refine k_X8_281 rfl dX8_click_52 (q := 55) rfl (by decide) (by decide) (by decide) (Nat.le_of_ble_eq_true rfl) (t_X8_throwsIf  h) ?_
        intro r52 M52 h
        refine T.if_eq (tgt := 60) (q := 58) dX8_click_55 (by decide) rfl (fun h55 => ?_) (fun h55 => ?_)
        · replace h := s_f (fun q => q h55) h
          refine T.ald_0 (q := 61) dX8_click_60 rfl ?_
          refine T.ild_1 (q := 62) dX8_click_61 rfl ?_
          refine T.ild_2 (q := 63) dX8_click_62 rfl ?_
          refine T.ild_3 (q := 64) dX8_click_63 rfl ?_
          refine k_X8_308 rfl dX8_click_64 (q := 67) rfl (by decide) (by decide) (by decide) (Nat.le_of_ble_eq_true rfl) (t_X8_clickOf  h) ?_
          intro r64 M64 h
          exact T.retI rfl dX8_click_67 (by decide) (by decide) h
        · replace h := s_t h55 h
          refine T.iconst (q := 59) (0) dX8_click_58 rfl (by decide) ?_
          exact T.retI rfl dX8_click_59 (by decide) (by decide) h
      · refine T.if_eq (tgt := 46) (q := 37) dX8_click_34 (by decide) rfl (fun h34 => ?_) (fun h34 => ?_)
        · replace h := s_tk (Or.inl h34) h
          refine T.iconst (q := 47) (1) dX8_click_46 rfl (by decide) ?_
          refine T.goto (tgt := 51) dX8_click_47 (by decide) ?_
          exact hJ9 _ h
        · refine T.ild_3 (q := 38) dX8_click_37 rfl ?_
          refine T.iconst (q := 39) (0) dX8_click_38 rfl (by decide) ?_
          refine T.iconst (q := 40) (5) dX8_click_39 rfl (by decide) ?_
          refine k_X8_85 rfl dX8_click_40 (q := 43) rfl (by decide) (by decide) (by decide) (Nat.le_of_ble_eq_true rfl) (t_X8_in (P := fun r9 => r9 = (f_X8_in a3 (0 : Int32) (5 : Int32))) rfl) ?_
          rintro _ _ ⟨rfl, h9⟩
          obtain rfl := h9.symm
          refine T.if_ne (tgt := 50) (q := 46) dX8_click_43 (by decide) rfl (fun h43 => ?_) (fun h43 => ?_)
          · replace h := s_fk (fun q => q.elim h34 h43) h
            refine T.iconst (q := 51) (0) dX8_click_50 rfl (by decide) ?_
            exact hJ9 _ h
          · replace h := s_tk (Or.inr h43) h
            refine T.iconst (q := 47) (1) dX8_click_46 rfl (by decide) ?_
            refine T.goto (tgt := 51) dX8_click_47 (by decide) ?_
            exact hJ9 _ h
  · refine T.if_ne (tgt := 19) (q := 15) dX8_click_12 (by decide) rfl (fun h12 => ?_) (fun h12 => ?_)
    · replace h := s_fk h12 h
      refine T.iconst (q := 20) (0) dX8_click_19 rfl (by decide) ?_
      exact hJ9 _ h
    · replace h := s_tk h12 h
      refine T.iconst (q := 16) (1) dX8_click_15 rfl (by decide) ?_
      refine T.goto (tgt := 20) dX8_click_16 (by decide) ?_
      exact hJ9 _ h
theorem t_X8_sound {G : sk_G} {M : sk_M} {a1 : Int32} {a2 : Int32}  {Q : Int32 → sk_M → Prop} (h : w_X8_sound a1 a2 M Q) : Ctr G mX8_sound 6 0 0 [.ref (G.2.2.1 140), .int a1, .int a2] M (rI Q) noX := by
  unfold w_X8_sound at h
  refine Ctr.of 0 (by decide) (Nat.le_of_ble_eq_true rfl) ?_
  show TJ G mX8_sound (sk_R 6 0 0) (sk_K G 0 0 (rI Q) noX) 0 0 0 [some (.ref (G.2.2.1 140)), some (.int a1), some (.int a2)] [] M
  refine T.ald_0 (q := 1) dX8_sound_0 rfl ?_
  refine T.iconst (q := 2) (0) dX8_sound_1 rfl (by decide) ?_
  refine p_X8_3 rfl dX8_sound_2 (q := 5) rfl ?_
  refine S.mem h ?_
  intro M2 h
  refine T.ald_0 (q := 6) dX8_sound_5 rfl ?_
  refine T.ild_1 (q := 7) dX8_sound_6 rfl ?_
  refine k_X8_311 rfl dX8_sound_7 (q := 10) rfl (by decide) (by decide) (by decide) (Nat.le_of_ble_eq_true rfl) (t_X8_noCode (P := fun r9 => r9 = (f_X8_noCode a1)) rfl) ?_
  rintro _ _ ⟨rfl, h9⟩
  obtain rfl := h9.symm
  refine s_dia (fun s25_10 : Int32 => TJ G mX8_sound (sk_R 6 0 0) (sk_K G 0 0 (rI Q) noX) 0 0 25 [some (.ref (G.2.2.1 140)), some (.int a1), some (.int a2)] [.int s25_10, .ref (G.2.2.1 140)] M2) h (fun s25_10 h => ?_) (fun k9 hJ9 h => ?_)
  · refine T.iconst (q := 26) (1) dX8_sound_25 rfl (by decide) ?_
    refine k_X8_281 rfl dX8_sound_26 (q := 29) rfl (by decide) (by decide) (by decide) (Nat.le_of_ble_eq_true rfl) (t_X8_throwsIf  h) ?_
    intro r26 M26 h
    refine T.if_eq (tgt := 34) (q := 32) dX8_sound_29 (by decide) rfl (fun h29 => ?_) (fun h29 => ?_)
    · replace h := s_f (fun q => q h29) h
      refine T.ald_0 (q := 35) dX8_sound_34 rfl ?_
      refine k_X8_314 rfl dX8_sound_35 (q := 38) rfl (by decide) (by decide) (by decide) (Nat.le_of_ble_eq_true rfl) (t_X8_laysClicks  h) ?_
      intro M35 h
      refine T.ald_0 (q := 39) dX8_sound_38 rfl ?_
      refine T.ild_1 (q := 40) dX8_sound_39 rfl ?_
      refine T.ild_2 (q := 41) dX8_sound_40 rfl ?_
      refine k_X8_317 rfl dX8_sound_41 (q := 44) rfl (by decide) (by decide) (by decide) (Nat.le_of_ble_eq_true rfl) (t_X8_soundOf  h) ?_
      rintro r41 _ ⟨h, h9⟩
      obtain rfl := h9.symm
      exact T.retI rfl dX8_sound_44 (by decide) (by decide) h
    · replace h := s_t h29 h
      refine T.iconst (q := 33) (0) dX8_sound_32 rfl (by decide) ?_
      exact T.retI rfl dX8_sound_33 (by decide) (by decide) h
  · refine T.if_ne (tgt := 20) (q := 13) dX8_sound_10 (by decide) rfl (fun h10 => ?_) (fun h10 => ?_)
    · replace h := s_tk (Or.inl h10) h
      refine T.iconst (q := 21) (1) dX8_sound_20 rfl (by decide) ?_
      refine T.goto (tgt := 25) dX8_sound_21 (by decide) ?_
      exact hJ9 _ h
    · refine T.ild_2 (q := 14) dX8_sound_13 rfl ?_
      refine k_X8_311 rfl dX8_sound_14 (q := 17) rfl (by decide) (by decide) (by decide) (Nat.le_of_ble_eq_true rfl) (t_X8_noCode (P := fun r9 => r9 = (f_X8_noCode a2)) rfl) ?_
      rintro _ _ ⟨rfl, h9⟩
      obtain rfl := h9.symm
      refine T.if_eq (tgt := 24) (q := 20) dX8_sound_17 (by decide) rfl (fun h17 => ?_) (fun h17 => ?_)
      · replace h := s_fk (fun q => q.elim (fun q => q h10) (fun q => q h17)) h
        refine T.iconst (q := 25) (0) dX8_sound_24 rfl (by decide) ?_
        exact hJ9 _ h
      · replace h := s_tk (Or.inr h17) h
        refine T.iconst (q := 21) (1) dX8_sound_20 rfl (by decide) ?_
        refine T.goto (tgt := 25) dX8_sound_21 (by decide) ?_
        exact hJ9 _ h
theorem t_X8_isGuarded {G : sk_G} {M : sk_M} {a1 : Int32} {a2 : Int32}  {Q : Int32 → Prop} (h : w_X8_isGuarded a1 a2 M Q) : Ctr G mX8_isGuarded 1 0 0 [.ref (G.2.2.1 140), .int a1, .int a2] M (rI fun r9 M9 => Q r9 ∧ M9 = M) noX := by
  unfold w_X8_isGuarded at h
  refine Ctr.of 0 (by decide) (Nat.le_of_ble_eq_true rfl) ?_
  show TJ G mX8_isGuarded (sk_R 1 0 0) (sk_K G 0 0 (rI fun r9 M9 => Q r9 ∧ M9 = M) noX) 0 0 0 [some (.ref (G.2.2.1 140)), some (.int a1), some (.int a2)] [] M
  refine T.ald_0 (q := 1) dX8_isGuarded_0 rfl ?_
  refine T.ild_1 (q := 2) dX8_isGuarded_1 rfl ?_
  refine T.iconst (q := 3) (1) dX8_isGuarded_2 rfl (by decide) ?_
  refine k_X8_167 rfl dX8_isGuarded_3 (q := 6) rfl (by decide) (by decide) (by decide) (Nat.le_of_ble_eq_true rfl) (t_X8_of  h) ?_
  rintro r3 _ ⟨h, h9⟩
  obtain rfl := h9.symm
  refine T.ild_2 (q := 7) dX8_isGuarded_6 rfl ?_
  refine T.bipush (q := 9) (7) dX8_isGuarded_7 rfl (by decide) ?_
  refine T.irem (q := 10) dX8_isGuarded_9 rfl (by decide) ?_
  refine k_X8_320 rfl dX8_isGuarded_10 (q := 13) rfl (by decide) (by decide) (by decide) (Nat.le_of_ble_eq_true rfl) (t_X8_has (P := fun r9 => r9 = (f_X8_has r3 (rmI a2 (7 : Int32)))) rfl) ?_
  rintro _ _ ⟨rfl, h9⟩
  obtain rfl := h9.symm
  exact T.retZ rfl dX8_isGuarded_13 (by decide) (by decide) (nz01 h.1) ⟨h.2, rfl⟩
theorem tl_X8_soonOf_L2 {G : sk_G} {M : sk_M} {cells slots : Nat} {a1 : Int32} {Q : Int32 → Prop}  (hc0 : cells ≤ 0) (hs0 : slots ≤ 0) : ∀ (F : Nat) (s2 : Int32), lp (w_X8_soonOf_L2 a1 M Q) F s2 → TJ G mX8_soonOf (sk_R 2 0 0) (sk_K G 0 0 (rI fun r9 M9 => Q r9 ∧ M9 = M) noX) cells slots 2 [some (.ref (G.2.2.1 140)), some (.int a1), some (.int s2)] [] M := by
  refine lp_sound (fun c hc9 s2 h => ?_)
  unfold w_X8_soonOf_L2 at h
  refine T.ild_2 (q := 3) dX8_soonOf_2 rfl ?_
  refine T.bipush (q := 5) (7) dX8_soonOf_3 rfl (by decide) ?_
  refine T.ic_ge (tgt := 38) (q := 8) dX8_soonOf_5 (by decide) rfl (fun h5 => ?_) (fun h5 => ?_)
  · replace h := s_f (fun q => q h5) h
    refine T.iconst (q := 39) (-1) dX8_soonOf_38 rfl (by decide) ?_
    exact T.retI rfl dX8_soonOf_39 hc0 hs0 ⟨h, rfl⟩
  · replace h := s_t h5 h
    refine T.ald_0 (q := 9) dX8_soonOf_8 rfl ?_
    refine T.ild_1 (q := 10) dX8_soonOf_9 rfl ?_
    refine T.sipush (q := 13) (9999) dX8_soonOf_10 rfl (by decide) ?_
    refine T.ald_0 (q := 14) dX8_soonOf_13 rfl ?_
    refine g_X8_13 rfl dX8_soonOf_14 (q := 17) rfl ?_
    refine T.iconst (q := 18) (5) dX8_soonOf_17 rfl (by decide) ?_
    refine T.ialdk (n := 2260) rfl rfl (by decide) dX8_soonOf_18 (q := 19) rfl (k9 := 5) (by decide) ?_
    refine T.ild_2 (q := 20) dX8_soonOf_19 rfl ?_
    refine T.iadd (q := 21) dX8_soonOf_20 rfl ?_
    refine k_X8_290 rfl dX8_soonOf_21 (q := 24) rfl (by decide) hc0 hs0 (Nat.le_of_ble_eq_true rfl) ?_
    refine k_X8_323 rfl dX8_soonOf_24 (q := 27) rfl (by decide) hc0 hs0 (Nat.le_of_ble_eq_true rfl) (t_X8_isGuarded  h) ?_
    rintro r24 _ ⟨h, h9⟩
    obtain rfl := h9.symm
    refine T.if_ne (tgt := 32) (q := 30) dX8_soonOf_27 (by decide) rfl (fun h27 => ?_) (fun h27 => ?_)
    · replace h := s_f h27 h
      refine T.inc_2 (q := 35) (1) dX8_soonOf_32 rfl (by decide) (by decide) sk_ok_i ?_
      refine T.goto (tgt := 2) dX8_soonOf_35 (by decide) ?_
      exact hc9 (s2 + (1 : Int32)) h
    · replace h := s_t h27 h
      refine T.ild_2 (q := 31) dX8_soonOf_30 rfl ?_
      exact T.retI rfl dX8_soonOf_31 hc0 hs0 ⟨h, rfl⟩
theorem t_X8_soonOf {G : sk_G} {M : sk_M} {a1 : Int32}  {Q : Int32 → Prop} (h : w_X8_soonOf a1 M Q) : Ctr G mX8_soonOf 2 0 0 [.ref (G.2.2.1 140), .int a1] M (rI fun r9 M9 => Q r9 ∧ M9 = M) noX := by
  unfold w_X8_soonOf at h
  refine Ctr.of 1 (by decide) (Nat.le_of_ble_eq_true rfl) ?_
  show TJ G mX8_soonOf (sk_R 2 0 0) (sk_K G 0 0 (rI fun r9 M9 => Q r9 ∧ M9 = M) noX) 0 0 0 [some (.ref (G.2.2.1 140)), some (.int a1), none] [] M
  refine T.iconst (q := 1) (0) dX8_soonOf_0 rfl (by decide) ?_
  refine T.ist_2 (q := 2) dX8_soonOf_1 rfl (by decide) sk_ok_i ?_
  exact tl_X8_soonOf_L2  (by decide) (by decide) _ (0 : Int32) h
theorem tl_X8_longOf_L19 {G : sk_G} {M : sk_M} {cells slots : Nat} {a0 : Int32} {s11 : Int32 × Int32} {Q : Int32 → Prop} {k38 : Int32 → Prop}  (hc0 : cells ≤ 0) (hs0 : slots ≤ 0) (hk38 : ∀ s38 : Int32, k38 s38 → TJ G mX8_longOf (sk_R 1 0 0) (sk_K G 0 0 (rI fun r9 M9 => Q r9 ∧ M9 = M) noX) cells slots 38 [some (.int a0), some (.int s11.1), some (.int s11.2), some (.int s38)] [] M) : ∀ (F : Nat) (s19 : Int32), lp (w_X8_longOf_L19 a0 s11 k38) F s19 → TJ G mX8_longOf (sk_R 1 0 0) (sk_K G 0 0 (rI fun r9 M9 => Q r9 ∧ M9 = M) noX) cells slots 19 [some (.int a0), some (.int s11.1), some (.int s11.2), some (.int s19)] [] M := by
  refine lp_sound (fun c hc9 s19 h => ?_)
  unfold w_X8_longOf_L19 at h
  refine T.ild_0 (q := 20) dX8_longOf_19 rfl ?_
  refine T.ild_2 (q := 21) dX8_longOf_20 rfl ?_
  refine T.ild_3 (q := 22) dX8_longOf_21 rfl ?_
  refine T.iadd (q := 23) dX8_longOf_22 rfl ?_
  refine T.bipush (q := 25) (7) dX8_longOf_23 rfl (by decide) ?_
  refine T.irem (q := 26) dX8_longOf_25 rfl (by decide) ?_
  refine k_X8_320 rfl dX8_longOf_26 (q := 29) rfl (by decide) hc0 hs0 (Nat.le_of_ble_eq_true rfl) (t_X8_has (P := fun r9 => r9 = (f_X8_has a0 (rmI (s11.2 + s19) (7 : Int32)))) rfl) ?_
  rintro _ _ ⟨rfl, h9⟩
  obtain rfl := h9.symm
  refine T.if_ne (tgt := 38) (q := 32) dX8_longOf_29 (by decide) rfl (fun h29 => ?_) (fun h29 => ?_)
  · replace h := s_f h29 h
    exact hk38 s19 h
  · replace h := s_t h29 h
    refine T.inc_3 (q := 35) (1) dX8_longOf_32 rfl (by decide) (by decide) sk_ok_i ?_
    refine T.goto (tgt := 19) dX8_longOf_35 (by decide) ?_
    exact hc9 (s19 + (1 : Int32)) h
theorem tl_X8_longOf_L11 {G : sk_G} {M : sk_M} {cells slots : Nat} {a0 : Int32} {Q : Int32 → Prop}  (hc0 : cells ≤ 0) (hs0 : slots ≤ 0) : ∀ (F : Nat) (s11 : Int32 × Int32), lp (w_X8_longOf_L11 a0 Q) F s11 → TJ G mX8_longOf (sk_R 1 0 0) (sk_K G 0 0 (rI fun r9 M9 => Q r9 ∧ M9 = M) noX) cells slots 11 [some (.int a0), some (.int s11.1), some (.int s11.2), none] [] M := by
  refine lp_sound (fun c hc9 s11 h => ?_)
  unfold w_X8_longOf_L11 at h
  refine T.ild_2 (q := 12) dX8_longOf_11 rfl ?_
  refine T.bipush (q := 14) (7) dX8_longOf_12 rfl (by decide) ?_
  refine T.ic_ge (tgt := 50) (q := 17) dX8_longOf_14 (by decide) rfl (fun h14 => ?_) (fun h14 => ?_)
  · replace h := s_f (fun q => q h14) h
    refine T.ild_1 (q := 51) dX8_longOf_50 rfl ?_
    exact T.retI rfl dX8_longOf_51 hc0 hs0 ⟨h, rfl⟩
  · replace h := s_t h14 h
    refine T.iconst (q := 18) (0) dX8_longOf_17 rfl (by decide) ?_
    refine T.ist_3 (q := 19) dX8_longOf_18 rfl (by decide) sk_ok_i ?_
    refine tl_X8_longOf_L19  hc0 hs0 ?_ _ (0 : Int32) h
    intro s38 h
    refine T.ild_1 (q := 39) dX8_longOf_38 rfl ?_
    refine T.ild_3 (q := 40) dX8_longOf_39 rfl ?_
    refine k_X8_326 rfl dX8_longOf_40 (q := 43) rfl (by decide) hc0 hs0 (Nat.le_of_ble_eq_true rfl) ?_
    refine T.ist_1 (q := 44) dX8_longOf_43 rfl (by decide) sk_ok_i ?_
    refine S.i1 h ?_
    intro y43 h
    refine T.inc_2 (q := 47) (1) dX8_longOf_44 rfl (by decide) (by decide) sk_ok_i ?_
    refine T.goto (tgt := 11) dX8_longOf_47 (by decide) ?_
    refine T.drop_3 ?_
    exact hc9 (y43, (s11.2 + (1 : Int32))) h
theorem t_X8_longOf {G : sk_G} {M : sk_M} {a0 : Int32}  {Q : Int32 → Prop} (h : w_X8_longOf a0 M Q) : Ctr G mX8_longOf 1 0 0 [.int a0] M (rI fun r9 M9 => Q r9 ∧ M9 = M) noX := by
  unfold w_X8_longOf at h
  refine Ctr.of 3 (by decide) (Nat.le_of_ble_eq_true rfl) ?_
  show TJ G mX8_longOf (sk_R 1 0 0) (sk_K G 0 0 (rI fun r9 M9 => Q r9 ∧ M9 = M) noX) 0 0 0 [some (.int a0), none, none, none] [] M
  refine T.ild_0 (q := 1) dX8_longOf_0 rfl ?_
  refine T.if_ne (tgt := 7) (q := 4) dX8_longOf_1 (by decide) rfl (fun h1 => ?_) (fun h1 => ?_)
  · replace h := s_f h1 h
    refine T.iconst (q := 8) (0) dX8_longOf_7 rfl (by decide) ?_
    refine T.ist_1 (q := 9) dX8_longOf_8 rfl (by decide) sk_ok_i ?_
    refine T.iconst (q := 10) (0) dX8_longOf_9 rfl (by decide) ?_
    refine T.ist_2 (q := 11) dX8_longOf_10 rfl (by decide) sk_ok_i ?_
    exact tl_X8_longOf_L11  (by decide) (by decide) _ ((0 : Int32), (0 : Int32)) h
  · replace h := s_t h1 h
    refine T.bipush (q := 6) (7) dX8_longOf_4 rfl (by decide) ?_
    exact T.retI rfl dX8_longOf_6 (by decide) (by decide) ⟨h, rfl⟩
theorem t_X8_vault {G : sk_G} {M : sk_M} {a1 : Int32} {a2 : Int32}  {Q : Int32 → sk_M → Prop} (h : w_X8_vault a1 a2 M Q) : Ctr G mX8_vault 3 0 0 [.ref (G.2.2.1 140), .int a1, .int a2] M (rI Q) noX := by
  unfold w_X8_vault at h
  refine Ctr.of 0 (by decide) (Nat.le_of_ble_eq_true rfl) ?_
  show TJ G mX8_vault (sk_R 3 0 0) (sk_K G 0 0 (rI Q) noX) 0 0 0 [some (.ref (G.2.2.1 140)), some (.int a1), some (.int a2)] [] M
  refine T.ald_0 (q := 1) dX8_vault_0 rfl ?_
  refine T.iconst (q := 2) (0) dX8_vault_1 rfl (by decide) ?_
  refine p_X8_3 rfl dX8_vault_2 (q := 5) rfl ?_
  refine S.mem h ?_
  intro M2 h
  refine T.ald_0 (q := 6) dX8_vault_5 rfl ?_
  refine T.ald_0 (q := 7) dX8_vault_6 rfl ?_
  refine T.ild_1 (q := 8) dX8_vault_7 rfl ?_
  refine k_X8_329 rfl dX8_vault_8 (q := 11) rfl (by decide) (by decide) (by decide) (Nat.le_of_ble_eq_true rfl) (t_X8_noVault (P := fun r9 => r9 = (f_X8_noVault a1 M2)) rfl) ?_
  rintro _ _ ⟨rfl, h9⟩
  obtain rfl := h9.symm
  refine T.iconst (q := 12) (1) dX8_vault_11 rfl (by decide) ?_
  refine k_X8_281 rfl dX8_vault_12 (q := 15) rfl (by decide) (by decide) (by decide) (Nat.le_of_ble_eq_true rfl) (t_X8_throwsIf  h) ?_
  intro r12 M12 h
  refine T.if_ne (tgt := 41) (q := 18) dX8_vault_15 (by decide) rfl (fun h15 => ?_) (fun h15 => ?_)
  · replace h := s_f h15 h
    refine T.iconst (q := 42) (0) dX8_vault_41 rfl (by decide) ?_
    exact T.retI rfl dX8_vault_42 (by decide) (by decide) h
  · replace h := s_t h15 h
    refine T.ald_0 (q := 19) dX8_vault_18 rfl ?_
    refine T.ild_2 (q := 20) dX8_vault_19 rfl ?_
    refine T.iconst (q := 21) (0) dX8_vault_20 rfl (by decide) ?_
    refine T.bipush (q := 23) (6) dX8_vault_21 rfl (by decide) ?_
    refine k_X8_85 rfl dX8_vault_23 (q := 26) rfl (by decide) (by decide) (by decide) (Nat.le_of_ble_eq_true rfl) (t_X8_in (P := fun r9 => r9 = (f_X8_in a2 (0 : Int32) (6 : Int32))) rfl) ?_
    rintro _ _ ⟨rfl, h9⟩
    obtain rfl := h9.symm
    refine s_dia (fun s34_26 : Int32 => TJ G mX8_vault (sk_R 3 0 0) (sk_K G 0 0 (rI Q) noX) 0 0 34 [some (.ref (G.2.2.1 140)), some (.int a1), some (.int a2)] [.int s34_26, .ref (G.2.2.1 140)] M12) h (fun s34_26 h => ?_) (fun k9 hJ9 h => ?_)
    · refine T.iconst (q := 35) (2) dX8_vault_34 rfl (by decide) ?_
      refine k_X8_281 rfl dX8_vault_35 (q := 38) rfl (by decide) (by decide) (by decide) (Nat.le_of_ble_eq_true rfl) (t_X8_throwsIf  h) ?_
      intro r35 M35 h
      refine T.if_eq (tgt := 43) (q := 41) dX8_vault_38 (by decide) rfl (fun h38 => ?_) (fun h38 => ?_)
      · replace h := s_f (fun q => q h38) h
        refine T.ild_2 (q := 44) dX8_vault_43 rfl ?_
        by_cases e4 : a2 = 4
        · replace h := s_t e4 h
          refine T.swIn (tgt := 72) (off := 28) dX8_vault_44 (by rw [e4]; decide) (by rw [e4]; decide) (by rw [e4]; rfl) (by decide) ?_
          refine T.bipush (q := 74) (127) dX8_vault_72 rfl (by decide) ?_
          refine T.ald_0 (q := 75) dX8_vault_74 rfl ?_
          refine T.ild_1 (q := 76) dX8_vault_75 rfl ?_
          refine T.iconst (q := 77) (1) dX8_vault_76 rfl (by decide) ?_
          refine k_X8_167 rfl dX8_vault_77 (q := 80) rfl (by decide) (by decide) (by decide) (Nat.le_of_ble_eq_true rfl) (t_X8_of  h) ?_
          rintro r77 _ ⟨h, h9⟩
          obtain rfl := h9.symm
          refine T.iconst (q := 81) (-1) dX8_vault_80 rfl (by decide) ?_
          refine T.ixor (q := 82) dX8_vault_81 rfl ?_
          refine T.iand (q := 83) dX8_vault_82 rfl ?_
          exact T.retI rfl dX8_vault_83 (by decide) (by decide) h
        replace h := s_f e4 h
        by_cases e5 : a2 = 5
        · replace h := s_t e5 h
          refine T.swIn (tgt := 84) (off := 40) dX8_vault_44 (by rw [e5]; decide) (by rw [e5]; decide) (by rw [e5]; rfl) (by decide) ?_
          refine T.ald_0 (q := 85) dX8_vault_84 rfl ?_
          refine T.ild_1 (q := 86) dX8_vault_85 rfl ?_
          refine k_X8_332 rfl dX8_vault_86 (q := 89) rfl (by decide) (by decide) (by decide) (Nat.le_of_ble_eq_true rfl) (t_X8_soonOf  h) ?_
          rintro r86 _ ⟨h, h9⟩
          obtain rfl := h9.symm
          exact T.retI rfl dX8_vault_89 (by decide) (by decide) h
        replace h := s_f e5 h
        by_cases e6 : a2 = 6
        · replace h := s_t e6 h
          refine T.swIn (tgt := 90) (off := 46) dX8_vault_44 (by rw [e6]; decide) (by rw [e6]; decide) (by rw [e6]; rfl) (by decide) ?_
          refine T.ald_0 (q := 91) dX8_vault_90 rfl ?_
          refine T.ild_1 (q := 92) dX8_vault_91 rfl ?_
          refine T.iconst (q := 93) (1) dX8_vault_92 rfl (by decide) ?_
          refine k_X8_167 rfl dX8_vault_93 (q := 96) rfl (by decide) (by decide) (by decide) (Nat.le_of_ble_eq_true rfl) (t_X8_of  h) ?_
          rintro r93 _ ⟨h, h9⟩
          obtain rfl := h9.symm
          refine k_X8_335 rfl dX8_vault_96 (q := 99) rfl (by decide) (by decide) (by decide) (Nat.le_of_ble_eq_true rfl) (t_X8_longOf  h) ?_
          rintro r96 _ ⟨h, h9⟩
          obtain rfl := h9.symm
          exact T.retI rfl dX8_vault_99 (by decide) (by decide) h
        replace h := s_f e6 h
        refine T.swOut (tgt := 100) dX8_vault_44 (sw_4_6 e4 e5 e6) (by decide) ?_
        refine T.ald_0 (q := 101) dX8_vault_100 rfl ?_
        refine T.ild_1 (q := 102) dX8_vault_101 rfl ?_
        refine T.ild_2 (q := 103) dX8_vault_102 rfl ?_
        refine k_X8_167 rfl dX8_vault_103 (q := 106) rfl (by decide) (by decide) (by decide) (Nat.le_of_ble_eq_true rfl) (t_X8_of  h) ?_
        rintro r103 _ ⟨h, h9⟩
        obtain rfl := h9.symm
        exact T.retI rfl dX8_vault_106 (by decide) (by decide) h
      · replace h := s_t h38 h
        refine T.iconst (q := 42) (0) dX8_vault_41 rfl (by decide) ?_
        exact T.retI rfl dX8_vault_42 (by decide) (by decide) h
    · refine T.if_ne (tgt := 33) (q := 29) dX8_vault_26 (by decide) rfl (fun h26 => ?_) (fun h26 => ?_)
      · replace h := s_fk h26 h
        refine T.iconst (q := 34) (0) dX8_vault_33 rfl (by decide) ?_
        exact hJ9 _ h
      · replace h := s_tk h26 h
        refine T.iconst (q := 30) (1) dX8_vault_29 rfl (by decide) ?_
        refine T.goto (tgt := 34) dX8_vault_30 (by decide) ?_
        exact hJ9 _ h
theorem tl_X8_rota_L62 {G : sk_G} {cells slots : Nat} {a2 : Int32} {M35 : sk_M} {r46 : Int32} {Q : Int32 → sk_M → Prop}  (hc0 : cells ≤ 0) (hs0 : slots ≤ 0) : ∀ (F : Nat) (s62 : Int32 × Int32), lp (w_X8_rota_L62 a2 M35 r46 Q) F s62 → TJ G mX8_rota (sk_R 2 0 0) (sk_K G 0 0 (rI Q) noX) cells slots 62 [none, none, some (.int a2), some (.int r46), some (.int s62.1), some (.int s62.2), none] [] M35 := by
  refine lp_sound (fun c hc9 s62 h => ?_)
  unfold w_X8_rota_L62 at h
  refine T.ild_5 (q := 64) dX8_rota_62 rfl ?_
  refine T.if_lt (tgt := 125) (q := 67) dX8_rota_64 (by decide) rfl (fun h64 => ?_) (fun h64 => ?_)
  · replace h := s_f (fun q => q h64) h
    refine T.ild_4 (q := 127) dX8_rota_125 rfl ?_
    exact T.retI rfl dX8_rota_127 hc0 hs0 h
  · replace h := s_t h64 h
    refine T.ild_5 (q := 69) dX8_rota_67 rfl ?_
    refine T.ild_3 (q := 70) dX8_rota_69 rfl ?_
    refine T.iand (q := 71) dX8_rota_70 rfl ?_
    refine s_join (fun s103_71 : Int32 => TJ G mX8_rota (sk_R 2 0 0) (sk_K G 0 0 (rI Q) noX) cells slots 103 [none, none, some (.int a2), some (.int r46), some (.int s62.1), some (.int s62.2), none] [.int s103_71] M35) h (fun s103_71 h => ?_) (fun j103_71 hj103_71 h => ?_)
    · refine T.ist_6 (q := 105) dX8_rota_103 rfl (by decide) sk_ok_i ?_
      refine T.ild_6 (q := 107) dX8_rota_105 rfl ?_
      refine T.if_eq (tgt := 115) (q := 110) dX8_rota_107 (by decide) rfl (fun h107 => ?_) (fun h107 => ?_)
      · replace h := s_f (fun q => q h107) h
        refine T.ild_4 (q := 117) dX8_rota_115 rfl ?_
        refine T.ist_4 (q := 119) dX8_rota_117 rfl (by decide) sk_ok_i ?_
        refine T.inc_5 (q := 122) (-1) dX8_rota_119 rfl (by decide) (by decide) sk_ok_i ?_
        refine T.goto (tgt := 62) dX8_rota_122 (by decide) ?_
        refine T.drop_6 ?_
        exact hc9 (s62.1, (s62.2 + (-1 : Int32))) h
      · replace h := s_t h107 h
        refine T.ild_5 (q := 112) dX8_rota_110 rfl ?_
        refine T.goto (tgt := 117) dX8_rota_112 (by decide) ?_
        refine T.ist_4 (q := 119) dX8_rota_117 rfl (by decide) sk_ok_i ?_
        refine T.inc_5 (q := 122) (-1) dX8_rota_119 rfl (by decide) (by decide) sk_ok_i ?_
        refine T.goto (tgt := 62) dX8_rota_122 (by decide) ?_
        refine T.drop_6 ?_
        exact hc9 (s62.2, (s62.2 + (-1 : Int32))) h
    · refine s_join (fun s102_71 : Unit => TJ G mX8_rota (sk_R 2 0 0) (sk_K G 0 0 (rI Q) noX) cells slots 102 [none, none, some (.int a2), some (.int r46), some (.int s62.1), some (.int s62.2), none] [] M35) h (fun s102_71 h => ?_) (fun j102_71 hj102_71 h => ?_)
      · refine T.iconst (q := 103) (0) dX8_rota_102 rfl (by decide) ?_
        exact hj103_71 (0 : Int32) h
      · refine T.if_ne (tgt := 102) (q := 74) dX8_rota_71 (by decide) rfl (fun h71 => ?_) (fun h71 => ?_)
        · replace h := s_f (fun q => h71 q.1) h
          exact hj102_71 () h
        · refine T.ild_5 (q := 76) dX8_rota_74 rfl ?_
          refine k_X8_338 rfl dX8_rota_76 (q := 79) rfl (by decide) hc0 hs0 (Nat.le_of_ble_eq_true rfl) (t_bc32 (P := fun r9 => r9 = (bc32 s62.2)) rfl) ?_
          rintro _ _ ⟨rfl, h9⟩
          obtain rfl := h9.symm
          refine T.ild_4 (q := 81) dX8_rota_79 rfl ?_
          refine k_X8_338 rfl dX8_rota_81 (q := 84) rfl (by decide) hc0 hs0 (Nat.le_of_ble_eq_true rfl) (t_bc32 (P := fun r9 => r9 = (bc32 s62.1)) rfl) ?_
          rintro _ _ ⟨rfl, h9⟩
          obtain rfl := h9.symm
          refine T.ic_gt (tgt := 102) (q := 87) dX8_rota_84 (by decide) rfl (fun h84 => ?_) (fun h84 => ?_)
          · replace h := s_f (fun q => (fun q => q h84) q.2) h
            exact hj102_71 () h
          · replace h := s_t ⟨h71, h84⟩ h
            refine T.ild_3 (q := 88) dX8_rota_87 rfl ?_
            refine T.ild_5 (q := 90) dX8_rota_88 rfl ?_
            refine T.ior (q := 91) dX8_rota_90 rfl ?_
            refine k_X8_335 rfl dX8_rota_91 (q := 94) rfl (by decide) hc0 hs0 (Nat.le_of_ble_eq_true rfl) (t_X8_longOf  h) ?_
            rintro r91 _ ⟨h, h9⟩
            obtain rfl := h9.symm
            refine T.ild_2 (q := 95) dX8_rota_94 rfl ?_
            refine T.ic_gt (tgt := 102) (q := 98) dX8_rota_95 (by decide) rfl (fun h95 => ?_) (fun h95 => ?_)
            · replace h := s_f (fun q => q h95) h
              exact hj102_71 () h
            · replace h := s_t h95 h
              refine T.iconst (q := 99) (1) dX8_rota_98 rfl (by decide) ?_
              refine T.goto (tgt := 103) dX8_rota_99 (by decide) ?_
              exact hj103_71 (1 : Int32) h
theorem t_X8_rota {G : sk_G} {M : sk_M} {a1 : Int32} {a2 : Int32}  {Q : Int32 → sk_M → Prop} (h : w_X8_rota a1 a2 M Q) : Ctr G mX8_rota 2 0 0 [.ref (G.2.2.1 140), .int a1, .int a2] M (rI Q) noX := by
  unfold w_X8_rota at h
  refine Ctr.of 4 (by decide) (Nat.le_of_ble_eq_true rfl) ?_
  show TJ G mX8_rota (sk_R 2 0 0) (sk_K G 0 0 (rI Q) noX) 0 0 0 [some (.ref (G.2.2.1 140)), some (.int a1), some (.int a2), none, none, none, none] [] M
  refine T.ald_0 (q := 1) dX8_rota_0 rfl ?_
  refine T.iconst (q := 2) (0) dX8_rota_1 rfl (by decide) ?_
  refine p_X8_3 rfl dX8_rota_2 (q := 5) rfl ?_
  refine S.mem h ?_
  intro M2 h
  refine T.ald_0 (q := 6) dX8_rota_5 rfl ?_
  refine T.ald_0 (q := 7) dX8_rota_6 rfl ?_
  refine T.ild_1 (q := 8) dX8_rota_7 rfl ?_
  refine k_X8_329 rfl dX8_rota_8 (q := 11) rfl (by decide) (by decide) (by decide) (Nat.le_of_ble_eq_true rfl) (t_X8_noVault (P := fun r9 => r9 = (f_X8_noVault a1 M2)) rfl) ?_
  rintro _ _ ⟨rfl, h9⟩
  obtain rfl := h9.symm
  refine T.iconst (q := 12) (1) dX8_rota_11 rfl (by decide) ?_
  refine k_X8_281 rfl dX8_rota_12 (q := 15) rfl (by decide) (by decide) (by decide) (Nat.le_of_ble_eq_true rfl) (t_X8_throwsIf  h) ?_
  intro r12 M12 h
  refine T.if_ne (tgt := 41) (q := 18) dX8_rota_15 (by decide) rfl (fun h15 => ?_) (fun h15 => ?_)
  · replace h := s_f h15 h
    refine T.iconst (q := 42) (0) dX8_rota_41 rfl (by decide) ?_
    exact T.retI rfl dX8_rota_42 (by decide) (by decide) h
  · replace h := s_t h15 h
    refine T.ald_0 (q := 19) dX8_rota_18 rfl ?_
    refine T.ild_2 (q := 20) dX8_rota_19 rfl ?_
    refine T.iconst (q := 21) (0) dX8_rota_20 rfl (by decide) ?_
    refine T.bipush (q := 23) (6) dX8_rota_21 rfl (by decide) ?_
    refine k_X8_85 rfl dX8_rota_23 (q := 26) rfl (by decide) (by decide) (by decide) (Nat.le_of_ble_eq_true rfl) (t_X8_in (P := fun r9 => r9 = (f_X8_in a2 (0 : Int32) (6 : Int32))) rfl) ?_
    rintro _ _ ⟨rfl, h9⟩
    obtain rfl := h9.symm
    refine s_dia (fun s34_26 : Int32 => TJ G mX8_rota (sk_R 2 0 0) (sk_K G 0 0 (rI Q) noX) 0 0 34 [some (.ref (G.2.2.1 140)), some (.int a1), some (.int a2), none, none, none, none] [.int s34_26, .ref (G.2.2.1 140)] M12) h (fun s34_26 h => ?_) (fun k9 hJ9 h => ?_)
    · refine T.iconst (q := 35) (2) dX8_rota_34 rfl (by decide) ?_
      refine k_X8_281 rfl dX8_rota_35 (q := 38) rfl (by decide) (by decide) (by decide) (Nat.le_of_ble_eq_true rfl) (t_X8_throwsIf  h) ?_
      intro r35 M35 h
      refine T.if_eq (tgt := 43) (q := 41) dX8_rota_38 (by decide) rfl (fun h38 => ?_) (fun h38 => ?_)
      · replace h := s_f (fun q => q h38) h
        refine T.ald_0 (q := 44) dX8_rota_43 rfl ?_
        refine T.ild_1 (q := 45) dX8_rota_44 rfl ?_
        refine T.iconst (q := 46) (1) dX8_rota_45 rfl (by decide) ?_
        refine k_X8_167 rfl dX8_rota_46 (q := 49) rfl (by decide) (by decide) (by decide) (Nat.le_of_ble_eq_true rfl) (t_X8_of  h) ?_
        rintro r46 _ ⟨h, h9⟩
        obtain rfl := h9.symm
        refine T.ist_3 (q := 50) dX8_rota_49 rfl (by decide) sk_ok_i ?_
        refine T.bipush (q := 52) (127) dX8_rota_50 rfl (by decide) ?_
        refine T.ild_3 (q := 53) dX8_rota_52 rfl ?_
        refine T.iconst (q := 54) (-1) dX8_rota_53 rfl (by decide) ?_
        refine T.ixor (q := 55) dX8_rota_54 rfl ?_
        refine T.iand (q := 56) dX8_rota_55 rfl ?_
        refine T.ist_4 (q := 58) dX8_rota_56 rfl (by decide) sk_ok_i ?_
        refine S.i4 h ?_
        intro y56 h
        refine T.ild_4 (q := 60) dX8_rota_58 rfl ?_
        refine T.ist_5 (q := 62) dX8_rota_60 rfl (by decide) sk_ok_i ?_
        refine T.drop_0 ?_
        refine T.drop_1 ?_
        exact tl_X8_rota_L62  (by decide) (by decide) _ (y56, y56) h
      · replace h := s_t h38 h
        refine T.iconst (q := 42) (0) dX8_rota_41 rfl (by decide) ?_
        exact T.retI rfl dX8_rota_42 (by decide) (by decide) h
    · refine T.if_ne (tgt := 33) (q := 29) dX8_rota_26 (by decide) rfl (fun h26 => ?_) (fun h26 => ?_)
      · replace h := s_fk h26 h
        refine T.iconst (q := 34) (0) dX8_rota_33 rfl (by decide) ?_
        exact hJ9 _ h
      · replace h := s_tk h26 h
        refine T.iconst (q := 30) (1) dX8_rota_29 rfl (by decide) ?_
        refine T.goto (tgt := 34) dX8_rota_30 (by decide) ?_
        exact hJ9 _ h
theorem t_X8_left {G : sk_G} {M : sk_M} {a1 : Int32} {a2 : Int32}  {Q : Int32 → sk_M → Prop} (h : w_X8_left a1 a2 M Q) : Ctr G mX8_left 2 0 0 [.ref (G.2.2.1 140), .int a1, .int a2] M (rI Q) noX := by
  unfold w_X8_left at h
  refine Ctr.of 0 (by decide) (Nat.le_of_ble_eq_true rfl) ?_
  show TJ G mX8_left (sk_R 2 0 0) (sk_K G 0 0 (rI Q) noX) 0 0 0 [some (.ref (G.2.2.1 140)), some (.int a1), some (.int a2)] [] M
  refine T.ald_0 (q := 1) dX8_left_0 rfl ?_
  refine T.iconst (q := 2) (0) dX8_left_1 rfl (by decide) ?_
  refine p_X8_3 rfl dX8_left_2 (q := 5) rfl ?_
  refine S.mem h ?_
  intro M2 h
  refine T.ald_0 (q := 6) dX8_left_5 rfl ?_
  refine T.ald_0 (q := 7) dX8_left_6 rfl ?_
  refine T.ild_1 (q := 8) dX8_left_7 rfl ?_
  refine k_X8_342 rfl dX8_left_8 (q := 11) rfl (by decide) (by decide) (by decide) (Nat.le_of_ble_eq_true rfl) (t_X8_noPerson (P := fun r9 => r9 = (f_X8_noPerson a1 M2)) rfl) ?_
  rintro _ _ ⟨rfl, h9⟩
  obtain rfl := h9.symm
  refine s_dia (fun s27_11 : Int32 => TJ G mX8_left (sk_R 2 0 0) (sk_K G 0 0 (rI Q) noX) 0 0 27 [some (.ref (G.2.2.1 140)), some (.int a1), some (.int a2)] [.int s27_11, .ref (G.2.2.1 140)] M2) h (fun s27_11 h => ?_) (fun k9 hJ9 h => ?_)
  · refine T.iconst (q := 28) (1) dX8_left_27 rfl (by decide) ?_
    refine k_X8_281 rfl dX8_left_28 (q := 31) rfl (by decide) (by decide) (by decide) (Nat.le_of_ble_eq_true rfl) (t_X8_throwsIf  h) ?_
    intro r28 M28 h
    refine T.if_eq (tgt := 38) (q := 34) dX8_left_31 (by decide) rfl (fun h31 => ?_) (fun h31 => ?_)
    · replace h := s_f (fun q => q h31) h
      refine T.ald_0 (q := 39) dX8_left_38 rfl ?_
      refine T.ild_1 (q := 40) dX8_left_39 rfl ?_
      refine T.ild_2 (q := 41) dX8_left_40 rfl ?_
      refine k_X8_345 rfl dX8_left_41 (q := 44) rfl (by decide) (by decide) (by decide) (Nat.le_of_ble_eq_true rfl) (t_X8_leftOf  h) ?_
      rintro r41 _ ⟨h, h9⟩
      obtain rfl := h9.symm
      exact T.retI rfl dX8_left_44 (by decide) (by decide) h
    · replace h := s_t h31 h
      refine T.iconst (q := 35) (0) dX8_left_34 rfl (by decide) ?_
      refine T.goto (tgt := 44) dX8_left_35 (by decide) ?_
      exact T.retI rfl dX8_left_44 (by decide) (by decide) h
  · refine T.if_ne (tgt := 22) (q := 14) dX8_left_11 (by decide) rfl (fun h11 => ?_) (fun h11 => ?_)
    · replace h := s_tk (Or.inl h11) h
      refine T.iconst (q := 23) (1) dX8_left_22 rfl (by decide) ?_
      refine T.goto (tgt := 27) dX8_left_23 (by decide) ?_
      exact hJ9 _ h
    · refine T.ald_0 (q := 15) dX8_left_14 rfl ?_
      refine T.ild_2 (q := 16) dX8_left_15 rfl ?_
      refine k_X8_329 rfl dX8_left_16 (q := 19) rfl (by decide) (by decide) (by decide) (Nat.le_of_ble_eq_true rfl) (t_X8_noVault (P := fun r9 => r9 = (f_X8_noVault a2 M2)) rfl) ?_
      rintro _ _ ⟨rfl, h9⟩
      obtain rfl := h9.symm
      refine T.if_eq (tgt := 26) (q := 22) dX8_left_19 (by decide) rfl (fun h19 => ?_) (fun h19 => ?_)
      · replace h := s_fk (fun q => q.elim (fun q => q h11) (fun q => q h19)) h
        refine T.iconst (q := 27) (0) dX8_left_26 rfl (by decide) ?_
        exact hJ9 _ h
      · replace h := s_tk (Or.inr h19) h
        refine T.iconst (q := 23) (1) dX8_left_22 rfl (by decide) ?_
        refine T.goto (tgt := 27) dX8_left_23 (by decide) ?_
        exact hJ9 _ h
theorem tl_X8_code_L42 {G : sk_G} {cells slots : Nat} {a1 : Int32} {a2 : Int32} {a3 : Int32} {M28 : sk_M} {Q : Int32 → sk_M → Prop}  (hc0 : cells ≤ 0) (hs0 : slots ≤ 0) : ∀ (F : Nat) (s42 : Int32 × Int32), lp (w_X8_code_L42 a1 a2 a3 M28 Q) F s42 → TJ G mX8_code (sk_R 2 0 0) (sk_K G 0 0 (rI Q) noX) cells slots 42 [some (.ref (G.2.2.1 140)), some (.int a1), some (.int a2), some (.int a3), some (.int s42.1), some (.int s42.2)] [] M28 := by
  refine lp_sound (fun c hc9 s42 h => ?_)
  unfold w_X8_code_L42 at h
  refine T.ild_5 (q := 44) dX8_code_42 rfl ?_
  refine T.sipush (q := 47) (216) dX8_code_44 rfl (by decide) ?_
  refine T.ic_ge (tgt := 82) (q := 50) dX8_code_47 (by decide) rfl (fun h47 => ?_) (fun h47 => ?_)
  · replace h := s_f (fun q => q h47) h
    refine T.iconst (q := 83) (-1) dX8_code_82 rfl (by decide) ?_
    exact T.retI rfl dX8_code_83 hc0 hs0 h
  · replace h := s_t h47 h
    refine T.ald_0 (q := 51) dX8_code_50 rfl ?_
    refine T.ild_1 (q := 52) dX8_code_51 rfl ?_
    refine T.ild_2 (q := 53) dX8_code_52 rfl ?_
    refine T.ild_5 (q := 55) dX8_code_53 rfl ?_
    refine k_X8_348 rfl dX8_code_55 (q := 58) rfl (by decide) hc0 hs0 (Nat.le_of_ble_eq_true rfl) (t_X8_canBe  h) ?_
    rintro r55 _ ⟨h, h9⟩
    obtain rfl := h9.symm
    refine T.if_ne (tgt := 64) (q := 61) dX8_code_58 (by decide) rfl (fun h58 => ?_) (fun h58 => ?_)
    · replace h := s_f h58 h
      refine T.ild_4 (q := 66) dX8_code_64 rfl ?_
      refine T.ild_3 (q := 67) dX8_code_66 rfl ?_
      refine T.ic_ne (tgt := 73) (q := 70) dX8_code_67 (by decide) rfl (fun h67 => ?_) (fun h67 => ?_)
      · replace h := s_f h67 h
        refine T.inc_4 (q := 76) (1) dX8_code_73 rfl (by decide) (by decide) sk_ok_i ?_
        refine T.inc_5 (q := 79) (1) dX8_code_76 rfl (by decide) (by decide) sk_ok_i ?_
        refine T.goto (tgt := 42) dX8_code_79 (by decide) ?_
        exact hc9 ((s42.1 + (1 : Int32)), (s42.2 + (1 : Int32))) h
      · replace h := s_t h67 h
        refine T.ild_5 (q := 72) dX8_code_70 rfl ?_
        exact T.retI rfl dX8_code_72 hc0 hs0 h
    · replace h := s_t h58 h
      refine T.goto (tgt := 76) dX8_code_61 (by decide) ?_
      refine T.inc_5 (q := 79) (1) dX8_code_76 rfl (by decide) (by decide) sk_ok_i ?_
      refine T.goto (tgt := 42) dX8_code_79 (by decide) ?_
      exact hc9 (s42.1, (s42.2 + (1 : Int32))) h
theorem t_X8_code {G : sk_G} {M : sk_M} {a1 : Int32} {a2 : Int32} {a3 : Int32}  {Q : Int32 → sk_M → Prop} (h : w_X8_code a1 a2 a3 M Q) : Ctr G mX8_code 2 0 0 [.ref (G.2.2.1 140), .int a1, .int a2, .int a3] M (rI Q) noX := by
  unfold w_X8_code at h
  refine Ctr.of 2 (by decide) (Nat.le_of_ble_eq_true rfl) ?_
  show TJ G mX8_code (sk_R 2 0 0) (sk_K G 0 0 (rI Q) noX) 0 0 0 [some (.ref (G.2.2.1 140)), some (.int a1), some (.int a2), some (.int a3), none, none] [] M
  refine T.ald_0 (q := 1) dX8_code_0 rfl ?_
  refine T.iconst (q := 2) (0) dX8_code_1 rfl (by decide) ?_
  refine p_X8_3 rfl dX8_code_2 (q := 5) rfl ?_
  refine S.mem h ?_
  intro M2 h
  refine T.ald_0 (q := 6) dX8_code_5 rfl ?_
  refine T.ald_0 (q := 7) dX8_code_6 rfl ?_
  refine T.ild_1 (q := 8) dX8_code_7 rfl ?_
  refine k_X8_342 rfl dX8_code_8 (q := 11) rfl (by decide) (by decide) (by decide) (Nat.le_of_ble_eq_true rfl) (t_X8_noPerson (P := fun r9 => r9 = (f_X8_noPerson a1 M2)) rfl) ?_
  rintro _ _ ⟨rfl, h9⟩
  obtain rfl := h9.symm
  refine s_dia (fun s27_11 : Int32 => TJ G mX8_code (sk_R 2 0 0) (sk_K G 0 0 (rI Q) noX) 0 0 27 [some (.ref (G.2.2.1 140)), some (.int a1), some (.int a2), some (.int a3), none, none] [.int s27_11, .ref (G.2.2.1 140)] M2) h (fun s27_11 h => ?_) (fun k9 hJ9 h => ?_)
  · refine T.iconst (q := 28) (1) dX8_code_27 rfl (by decide) ?_
    refine k_X8_281 rfl dX8_code_28 (q := 31) rfl (by decide) (by decide) (by decide) (Nat.le_of_ble_eq_true rfl) (t_X8_throwsIf  h) ?_
    intro r28 M28 h
    refine T.if_eq (tgt := 36) (q := 34) dX8_code_31 (by decide) rfl (fun h31 => ?_) (fun h31 => ?_)
    · replace h := s_f (fun q => q h31) h
      refine T.iconst (q := 37) (0) dX8_code_36 rfl (by decide) ?_
      refine T.ist_4 (q := 39) dX8_code_37 rfl (by decide) sk_ok_i ?_
      refine T.iconst (q := 40) (0) dX8_code_39 rfl (by decide) ?_
      refine T.ist_5 (q := 42) dX8_code_40 rfl (by decide) sk_ok_i ?_
      exact tl_X8_code_L42  (by decide) (by decide) _ ((0 : Int32), (0 : Int32)) h
    · replace h := s_t h31 h
      refine T.iconst (q := 35) (0) dX8_code_34 rfl (by decide) ?_
      exact T.retI rfl dX8_code_35 (by decide) (by decide) h
  · refine T.if_ne (tgt := 22) (q := 14) dX8_code_11 (by decide) rfl (fun h11 => ?_) (fun h11 => ?_)
    · replace h := s_tk (Or.inl h11) h
      refine T.iconst (q := 23) (1) dX8_code_22 rfl (by decide) ?_
      refine T.goto (tgt := 27) dX8_code_23 (by decide) ?_
      exact hJ9 _ h
    · refine T.ald_0 (q := 15) dX8_code_14 rfl ?_
      refine T.ild_2 (q := 16) dX8_code_15 rfl ?_
      refine k_X8_329 rfl dX8_code_16 (q := 19) rfl (by decide) (by decide) (by decide) (Nat.le_of_ble_eq_true rfl) (t_X8_noVault (P := fun r9 => r9 = (f_X8_noVault a2 M2)) rfl) ?_
      rintro _ _ ⟨rfl, h9⟩
      obtain rfl := h9.symm
      refine T.if_eq (tgt := 26) (q := 22) dX8_code_19 (by decide) rfl (fun h19 => ?_) (fun h19 => ?_)
      · replace h := s_fk (fun q => q.elim (fun q => q h11) (fun q => q h19)) h
        refine T.iconst (q := 27) (0) dX8_code_26 rfl (by decide) ?_
        exact hJ9 _ h
      · replace h := s_tk (Or.inr h19) h
        refine T.iconst (q := 23) (1) dX8_code_22 rfl (by decide) ?_
        refine T.goto (tgt := 27) dX8_code_23 (by decide) ?_
        exact hJ9 _ h
theorem tl_X8_figuresOf_L6 {G : sk_G} {M : sk_M} {cells slots : Nat} {a1 : Int32} {a2 : Int32} {a3 : Int32} {Q : Int32 → Prop}  (hc0 : cells ≤ 0) (hs0 : slots ≤ 0) : ∀ (F : Nat) (s6 : Int32 × Int32), lp (w_X8_figuresOf_L6 a1 a2 a3 M Q) F s6 → TJ G mX8_figuresOf (sk_R 2 0 0) (sk_K G 0 0 (rI fun r9 M9 => Q r9 ∧ M9 = M) noX) cells slots 6 [some (.ref (G.2.2.1 140)), some (.int a1), some (.int a2), some (.int a3), some (.int s6.1), some (.int s6.2)] [] M := by
  refine lp_sound (fun c hc9 s6 h => ?_)
  unfold w_X8_figuresOf_L6 at h
  refine T.ild_5 (q := 8) dX8_figuresOf_6 rfl ?_
  refine T.sipush (q := 11) (216) dX8_figuresOf_8 rfl (by decide) ?_
  refine T.ic_ge (tgt := 48) (q := 14) dX8_figuresOf_11 (by decide) rfl (fun h11 => ?_) (fun h11 => ?_)
  · replace h := s_f (fun q => q h11) h
    refine T.ild_4 (q := 50) dX8_figuresOf_48 rfl ?_
    exact T.retI rfl dX8_figuresOf_50 hc0 hs0 ⟨h, rfl⟩
  · replace h := s_t h11 h
    refine T.ild_4 (q := 16) dX8_figuresOf_14 rfl ?_
    refine T.ald_0 (q := 17) dX8_figuresOf_16 rfl ?_
    refine T.ild_1 (q := 18) dX8_figuresOf_17 rfl ?_
    refine T.ild_2 (q := 19) dX8_figuresOf_18 rfl ?_
    refine T.ild_5 (q := 21) dX8_figuresOf_19 rfl ?_
    refine k_X8_348 rfl dX8_figuresOf_21 (q := 24) rfl (by decide) hc0 hs0 (Nat.le_of_ble_eq_true rfl) (t_X8_canBe  h) ?_
    rintro r21 _ ⟨h, h9⟩
    obtain rfl := h9.symm
    refine T.if_eq (tgt := 38) (q := 27) dX8_figuresOf_24 (by decide) rfl (fun h24 => ?_) (fun h24 => ?_)
    · replace h := s_f (fun q => q h24) h
      refine T.iconst (q := 39) (0) dX8_figuresOf_38 rfl (by decide) ?_
      refine T.ior (q := 40) dX8_figuresOf_39 rfl ?_
      refine T.ist_4 (q := 42) dX8_figuresOf_40 rfl (by decide) sk_ok_i ?_
      refine S.i4 h ?_
      intro y40 h
      refine T.inc_5 (q := 45) (1) dX8_figuresOf_42 rfl (by decide) (by decide) sk_ok_i ?_
      refine T.goto (tgt := 6) dX8_figuresOf_45 (by decide) ?_
      exact hc9 (y40, (s6.2 + (1 : Int32))) h
    · replace h := s_t h24 h
      refine T.iconst (q := 28) (1) dX8_figuresOf_27 rfl (by decide) ?_
      refine T.ild_5 (q := 30) dX8_figuresOf_28 rfl ?_
      refine T.ild_3 (q := 31) dX8_figuresOf_30 rfl ?_
      refine k_X8_351 rfl dX8_figuresOf_31 (q := 34) rfl (by decide) hc0 hs0 (Nat.le_of_ble_eq_true rfl) (t_X8_figureOf (P := fun r9 => r9 = (f_X8_figureOf s6.2 a3)) rfl) ?_
      rintro _ _ ⟨rfl, h9⟩
      obtain rfl := h9.symm
      refine T.ishl (q := 35) dX8_figuresOf_34 rfl ?_
      refine T.goto (tgt := 39) dX8_figuresOf_35 (by decide) ?_
      refine T.ior (q := 40) dX8_figuresOf_39 rfl ?_
      refine T.ist_4 (q := 42) dX8_figuresOf_40 rfl (by decide) sk_ok_i ?_
      refine S.i4 h ?_
      intro y40 h
      refine T.inc_5 (q := 45) (1) dX8_figuresOf_42 rfl (by decide) (by decide) sk_ok_i ?_
      refine T.goto (tgt := 6) dX8_figuresOf_45 (by decide) ?_
      exact hc9 (y40, (s6.2 + (1 : Int32))) h
theorem t_X8_figuresOf {G : sk_G} {M : sk_M} {a1 : Int32} {a2 : Int32} {a3 : Int32}  {Q : Int32 → Prop} (h : w_X8_figuresOf a1 a2 a3 M Q) : Ctr G mX8_figuresOf 2 0 0 [.ref (G.2.2.1 140), .int a1, .int a2, .int a3] M (rI fun r9 M9 => Q r9 ∧ M9 = M) noX := by
  unfold w_X8_figuresOf at h
  refine Ctr.of 2 (by decide) (Nat.le_of_ble_eq_true rfl) ?_
  show TJ G mX8_figuresOf (sk_R 2 0 0) (sk_K G 0 0 (rI fun r9 M9 => Q r9 ∧ M9 = M) noX) 0 0 0 [some (.ref (G.2.2.1 140)), some (.int a1), some (.int a2), some (.int a3), none, none] [] M
  refine T.iconst (q := 1) (0) dX8_figuresOf_0 rfl (by decide) ?_
  refine T.ist_4 (q := 3) dX8_figuresOf_1 rfl (by decide) sk_ok_i ?_
  refine T.iconst (q := 4) (0) dX8_figuresOf_3 rfl (by decide) ?_
  refine T.ist_5 (q := 6) dX8_figuresOf_4 rfl (by decide) sk_ok_i ?_
  exact tl_X8_figuresOf_L6  (by decide) (by decide) _ ((0 : Int32), (0 : Int32)) h
theorem t_X8_wheel {G : sk_G} {M : sk_M} {a1 : Int32} {a2 : Int32} {a3 : Int32} {a4 : Int32}  {Q : Int32 → sk_M → Prop} (h : w_X8_wheel a1 a2 a3 a4 M Q) : Ctr G mX8_wheel 3 0 0 [.ref (G.2.2.1 140), .int a1, .int a2, .int a3, .int a4] M (rI Q) noX := by
  unfold w_X8_wheel at h
  refine Ctr.of 1 (by decide) (Nat.le_of_ble_eq_true rfl) ?_
  show TJ G mX8_wheel (sk_R 3 0 0) (sk_K G 0 0 (rI Q) noX) 0 0 0 [some (.ref (G.2.2.1 140)), some (.int a1), some (.int a2), some (.int a3), some (.int a4), none] [] M
  refine T.ald_0 (q := 1) dX8_wheel_0 rfl ?_
  refine T.iconst (q := 2) (0) dX8_wheel_1 rfl (by decide) ?_
  refine p_X8_3 rfl dX8_wheel_2 (q := 5) rfl ?_
  refine S.mem h ?_
  intro M2 h
  refine T.ald_0 (q := 6) dX8_wheel_5 rfl ?_
  refine T.ald_0 (q := 7) dX8_wheel_6 rfl ?_
  refine T.ild_1 (q := 8) dX8_wheel_7 rfl ?_
  refine k_X8_342 rfl dX8_wheel_8 (q := 11) rfl (by decide) (by decide) (by decide) (Nat.le_of_ble_eq_true rfl) (t_X8_noPerson (P := fun r9 => r9 = (f_X8_noPerson a1 M2)) rfl) ?_
  rintro _ _ ⟨rfl, h9⟩
  obtain rfl := h9.symm
  refine s_dia (fun s36_11 : Int32 => TJ G mX8_wheel (sk_R 3 0 0) (sk_K G 0 0 (rI Q) noX) 0 0 36 [some (.ref (G.2.2.1 140)), some (.int a1), some (.int a2), some (.int a3), some (.int a4), none] [.int s36_11, .ref (G.2.2.1 140)] M2) h (fun s36_11 h => ?_) (fun k9 hJ9 h => ?_)
  · refine T.iconst (q := 37) (1) dX8_wheel_36 rfl (by decide) ?_
    refine k_X8_281 rfl dX8_wheel_37 (q := 40) rfl (by decide) (by decide) (by decide) (Nat.le_of_ble_eq_true rfl) (t_X8_throwsIf  h) ?_
    intro r37 M37 h
    refine T.if_eq (tgt := 45) (q := 43) dX8_wheel_40 (by decide) rfl (fun h40 => ?_) (fun h40 => ?_)
    · replace h := s_f (fun q => q h40) h
      refine T.ald_0 (q := 46) dX8_wheel_45 rfl ?_
      refine T.ild_1 (q := 47) dX8_wheel_46 rfl ?_
      refine T.ild_2 (q := 48) dX8_wheel_47 rfl ?_
      refine T.ild_3 (q := 49) dX8_wheel_48 rfl ?_
      refine k_X8_354 rfl dX8_wheel_49 (q := 52) rfl (by decide) (by decide) (by decide) (Nat.le_of_ble_eq_true rfl) (t_X8_figuresOf  h) ?_
      rintro r49 _ ⟨h, h9⟩
      obtain rfl := h9.symm
      refine T.ist_5 (q := 54) dX8_wheel_52 rfl (by decide) sk_ok_i ?_
      refine T.ild_4 (q := 56) dX8_wheel_54 rfl ?_
      refine T.if_eq (tgt := 64) (q := 59) dX8_wheel_56 (by decide) rfl (fun h56 => ?_) (fun h56 => ?_)
      · replace h := s_f (fun q => q h56) h
        refine T.ild_5 (q := 66) dX8_wheel_64 rfl ?_
        refine k_X8_338 rfl dX8_wheel_66 (q := 69) rfl (by decide) (by decide) (by decide) (Nat.le_of_ble_eq_true rfl) (t_bc32 (P := fun r9 => r9 = (bc32 r49)) rfl) ?_
        rintro _ _ ⟨rfl, h9⟩
        obtain rfl := h9.symm
        refine T.iconst (q := 70) (1) dX8_wheel_69 rfl (by decide) ?_
        refine T.ic_ne (tgt := 81) (q := 73) dX8_wheel_70 (by decide) rfl (fun h70 => ?_) (fun h70 => ?_)
        · replace h := s_f h70 h
          refine T.iconst (q := 82) (-1) dX8_wheel_81 rfl (by decide) ?_
          exact T.retI rfl dX8_wheel_82 (by decide) (by decide) h
        · replace h := s_t h70 h
          refine T.ild_5 (q := 75) dX8_wheel_73 rfl ?_
          refine k_X8_357 rfl dX8_wheel_75 (q := 78) rfl (by decide) (by decide) (by decide) (Nat.le_of_ble_eq_true rfl) (t_J6_numberOfTrailingZeros_0f7a4 (P := fun r9 => r9 = (f_J6_numberOfTrailingZeros_0f7a4 r49)) rfl) ?_
          rintro _ _ ⟨rfl, h9⟩
          obtain rfl := h9.symm
          refine T.goto (tgt := 82) dX8_wheel_78 (by decide) ?_
          exact T.retI rfl dX8_wheel_82 (by decide) (by decide) h
      · replace h := s_t h56 h
        refine T.ild_5 (q := 61) dX8_wheel_59 rfl ?_
        refine T.goto (tgt := 82) dX8_wheel_61 (by decide) ?_
        exact T.retI rfl dX8_wheel_82 (by decide) (by decide) h
    · replace h := s_t h40 h
      refine T.iconst (q := 44) (0) dX8_wheel_43 rfl (by decide) ?_
      exact T.retI rfl dX8_wheel_44 (by decide) (by decide) h
  · refine T.if_ne (tgt := 31) (q := 14) dX8_wheel_11 (by decide) rfl (fun h11 => ?_) (fun h11 => ?_)
    · replace h := s_tk (Or.inl h11) h
      refine T.iconst (q := 32) (1) dX8_wheel_31 rfl (by decide) ?_
      refine T.goto (tgt := 36) dX8_wheel_32 (by decide) ?_
      exact hJ9 _ h
    · refine T.ald_0 (q := 15) dX8_wheel_14 rfl ?_
      refine T.ild_2 (q := 16) dX8_wheel_15 rfl ?_
      refine k_X8_329 rfl dX8_wheel_16 (q := 19) rfl (by decide) (by decide) (by decide) (Nat.le_of_ble_eq_true rfl) (t_X8_noVault (P := fun r9 => r9 = (f_X8_noVault a2 M2)) rfl) ?_
      rintro _ _ ⟨rfl, h9⟩
      obtain rfl := h9.symm
      refine T.if_ne (tgt := 31) (q := 22) dX8_wheel_19 (by decide) rfl (fun h19 => ?_) (fun h19 => ?_)
      · replace h := s_tk (Or.inr (Or.inl h19)) h
        refine T.iconst (q := 32) (1) dX8_wheel_31 rfl (by decide) ?_
        refine T.goto (tgt := 36) dX8_wheel_32 (by decide) ?_
        exact hJ9 _ h
      · refine T.ild_3 (q := 23) dX8_wheel_22 rfl ?_
        refine T.iconst (q := 24) (0) dX8_wheel_23 rfl (by decide) ?_
        refine T.iconst (q := 25) (2) dX8_wheel_24 rfl (by decide) ?_
        refine k_X8_85 rfl dX8_wheel_25 (q := 28) rfl (by decide) (by decide) (by decide) (Nat.le_of_ble_eq_true rfl) (t_X8_in (P := fun r9 => r9 = (f_X8_in a3 (0 : Int32) (2 : Int32))) rfl) ?_
        rintro _ _ ⟨rfl, h9⟩
        obtain rfl := h9.symm
        refine T.if_ne (tgt := 35) (q := 31) dX8_wheel_28 (by decide) rfl (fun h28 => ?_) (fun h28 => ?_)
        · replace h := s_fk (fun q => q.elim (fun q => q h11) (fun q => q.elim (fun q => q h19) h28)) h
          refine T.iconst (q := 36) (0) dX8_wheel_35 rfl (by decide) ?_
          exact hJ9 _ h
        · replace h := s_tk (Or.inr (Or.inr h28)) h
          refine T.iconst (q := 32) (1) dX8_wheel_31 rfl (by decide) ?_
          refine T.goto (tgt := 36) dX8_wheel_32 (by decide) ?_
          exact hJ9 _ h
theorem tl_X8_tells_L5 {G : sk_G} {cells slots : Nat} {a1 : Int32} {a2 : Int32} {a3 : Int32} {a4 : Int32} {a5 : Int32} {Q : sk_M → Prop} {k41 : sk_M → Prop}  (hc0 : cells ≤ 0) (hs0 : slots ≤ 0) (hk41 : ∀ s41 : sk_M, k41 s41 → TJ G mX8_tells (sk_R 1 0 0) (sk_K G 0 0 (rV Q) noX) cells slots 41 [some (.ref (G.2.2.1 140)), some (.int a1), some (.int a2), some (.int a3), some (.int a4), some (.int a5), none] [] s41) : ∀ (F : Nat) (s5 : Int32 × sk_M), lp (w_X8_tells_L5  k41) F s5 → TJ G mX8_tells (sk_R 1 0 0) (sk_K G 0 0 (rV Q) noX) cells slots 5 [some (.ref (G.2.2.1 140)), some (.int a1), some (.int a2), some (.int a3), some (.int a4), some (.int a5), some (.int s5.1)] [] s5.2 := by
  refine lp_sound (fun c hc9 s5 h => ?_)
  unfold w_X8_tells_L5 at h
  refine T.ild_6 (q := 7) dX8_tells_5 rfl ?_
  refine T.bipush (q := 9) (6) dX8_tells_7 rfl (by decide) ?_
  refine T.ic_lt (tgt := 41) (q := 12) dX8_tells_9 (by decide) rfl (fun h9 => ?_) (fun h9 => ?_)
  · replace h := s_f (fun q => q h9) h
    refine T.drop_6 ?_
    exact hk41 s5.2 h
  · replace h := s_t h9 h
    refine T.ald_0 (q := 13) dX8_tells_12 rfl ?_
    refine g_X8_13 rfl dX8_tells_13 (q := 16) rfl ?_
    refine T.bipush (q := 18) (82) dX8_tells_16 rfl (by decide) ?_
    refine T.ild_6 (q := 20) dX8_tells_18 rfl ?_
    refine T.iadd (q := 21) dX8_tells_20 rfl ?_
    refine T.ald_0 (q := 22) dX8_tells_21 rfl ?_
    refine g_X8_13 rfl dX8_tells_22 (q := 25) rfl ?_
    refine T.bipush (q := 27) (82) dX8_tells_25 rfl (by decide) ?_
    refine T.ild_6 (q := 29) dX8_tells_27 rfl ?_
    refine T.iadd (q := 30) dX8_tells_29 rfl ?_
    refine T.bipush (q := 32) (6) dX8_tells_30 rfl (by decide) ?_
    refine T.isub (q := 33) dX8_tells_32 rfl ?_
    refine T.iald (n := 2260) rfl rfl (by decide) dX8_tells_33 (q := 34) rfl h.1 ?_
    replace h := h.2
    refine T.iast (n := 2260) rfl rfl (by decide) dX8_tells_34 (q := 35) rfl h.1 ?_
    refine S.mem h.2 ?_
    intro M34 h
    refine T.inc_6 (q := 38) (-1) dX8_tells_35 rfl (by decide) (by decide) sk_ok_i ?_
    refine T.goto (tgt := 5) dX8_tells_38 (by decide) ?_
    exact hc9 ((s5.1 + (-1 : Int32)), M34) h
theorem t_X8_tells {G : sk_G} {M : sk_M} {a1 : Int32} {a2 : Int32} {a3 : Int32} {a4 : Int32} {a5 : Int32}  {Q : sk_M → Prop} (h : w_X8_tells a1 a2 a3 a4 a5 M Q) : Ctr G mX8_tells 1 0 0 [.ref (G.2.2.1 140), .int a1, .int a2, .int a3, .int a4, .int a5] M (rV Q) noX := by
  unfold w_X8_tells at h
  refine Ctr.of 1 (by decide) (Nat.le_of_ble_eq_true rfl) ?_
  show TJ G mX8_tells (sk_R 1 0 0) (sk_K G 0 0 (rV Q) noX) 0 0 0 [some (.ref (G.2.2.1 140)), some (.int a1), some (.int a2), some (.int a3), some (.int a4), some (.int a5), none] [] M
  refine T.sipush (q := 3) (479) dX8_tells_0 rfl (by decide) ?_
  refine T.ist_6 (q := 5) dX8_tells_3 rfl (by decide) sk_ok_i ?_
  refine tl_X8_tells_L5  (by decide) (by decide) ?_ _ ((479 : Int32), M) h
  intro s41 h
  refine T.ald_0 (q := 42) dX8_tells_41 rfl ?_
  refine g_X8_13 rfl dX8_tells_42 (q := 45) rfl ?_
  refine T.bipush (q := 47) (82) dX8_tells_45 rfl (by decide) ?_
  refine T.ald_0 (q := 48) dX8_tells_47 rfl ?_
  refine g_X8_13 rfl dX8_tells_48 (q := 51) rfl ?_
  refine T.iconst (q := 52) (5) dX8_tells_51 rfl (by decide) ?_
  refine T.ialdk (n := 2260) rfl rfl (by decide) dX8_tells_52 (q := 53) rfl (k9 := 5) (by decide) ?_
  refine T.iastk (n := 2260) rfl rfl (by decide) dX8_tells_53 (q := 54) rfl (k9 := 82) (by decide) ?_
  refine S.mem h ?_
  intro M53 h
  refine T.ald_0 (q := 55) dX8_tells_54 rfl ?_
  refine g_X8_13 rfl dX8_tells_55 (q := 58) rfl ?_
  refine T.bipush (q := 60) (83) dX8_tells_58 rfl (by decide) ?_
  refine T.ild_1 (q := 61) dX8_tells_60 rfl ?_
  refine T.iastk (n := 2260) rfl rfl (by decide) dX8_tells_61 (q := 62) rfl (k9 := 83) (by decide) ?_
  refine S.mem h ?_
  intro M61 h
  refine T.ald_0 (q := 63) dX8_tells_62 rfl ?_
  refine g_X8_13 rfl dX8_tells_63 (q := 66) rfl ?_
  refine T.bipush (q := 68) (84) dX8_tells_66 rfl (by decide) ?_
  refine T.ild_2 (q := 69) dX8_tells_68 rfl ?_
  refine T.iastk (n := 2260) rfl rfl (by decide) dX8_tells_69 (q := 70) rfl (k9 := 84) (by decide) ?_
  refine S.mem h ?_
  intro M69 h
  refine T.ald_0 (q := 71) dX8_tells_70 rfl ?_
  refine g_X8_13 rfl dX8_tells_71 (q := 74) rfl ?_
  refine T.bipush (q := 76) (85) dX8_tells_74 rfl (by decide) ?_
  refine T.ild_3 (q := 77) dX8_tells_76 rfl ?_
  refine T.iastk (n := 2260) rfl rfl (by decide) dX8_tells_77 (q := 78) rfl (k9 := 85) (by decide) ?_
  refine S.mem h ?_
  intro M77 h
  refine T.ald_0 (q := 79) dX8_tells_78 rfl ?_
  refine g_X8_13 rfl dX8_tells_79 (q := 82) rfl ?_
  refine T.bipush (q := 84) (86) dX8_tells_82 rfl (by decide) ?_
  refine T.ild_4 (q := 86) dX8_tells_84 rfl ?_
  refine T.iastk (n := 2260) rfl rfl (by decide) dX8_tells_86 (q := 87) rfl (k9 := 86) (by decide) ?_
  refine S.mem h ?_
  intro M86 h
  refine T.ald_0 (q := 88) dX8_tells_87 rfl ?_
  refine g_X8_13 rfl dX8_tells_88 (q := 91) rfl ?_
  refine T.bipush (q := 93) (87) dX8_tells_91 rfl (by decide) ?_
  refine T.ild_5 (q := 95) dX8_tells_93 rfl ?_
  refine s_dia (fun s103_95 : Int32 => TJ G mX8_tells (sk_R 1 0 0) (sk_K G 0 0 (rV Q) noX) 0 0 103 [some (.ref (G.2.2.1 140)), some (.int a1), some (.int a2), some (.int a3), some (.int a4), some (.int a5), none] [.int s103_95, .int (87 : Int32), .ref (G.2.2.1 141)] M86) h (fun s103_95 h => ?_) (fun k9 hJ9 h => ?_)
  · refine T.iastk (n := 2260) rfl rfl (by decide) dX8_tells_103 (q := 104) rfl (k9 := 87) (by decide) ?_
    refine S.mem h ?_
    intro M103 h
    refine T.ald_0 (q := 105) dX8_tells_104 rfl ?_
    refine g_X8_13 rfl dX8_tells_105 (q := 108) rfl ?_
    refine T.bipush (q := 110) (8) dX8_tells_108 rfl (by decide) ?_
    refine T.bipush (q := 112) (80) dX8_tells_110 rfl (by decide) ?_
    refine T.ald_0 (q := 113) dX8_tells_112 rfl ?_
    refine g_X8_13 rfl dX8_tells_113 (q := 116) rfl ?_
    refine T.bipush (q := 118) (8) dX8_tells_116 rfl (by decide) ?_
    refine T.ialdk (n := 2260) rfl rfl (by decide) dX8_tells_118 (q := 119) rfl (k9 := 8) (by decide) ?_
    refine T.iconst (q := 120) (1) dX8_tells_119 rfl (by decide) ?_
    refine T.iadd (q := 121) dX8_tells_120 rfl ?_
    refine k_X8_290 rfl dX8_tells_121 (q := 124) rfl (by decide) (by decide) (by decide) (Nat.le_of_ble_eq_true rfl) ?_
    refine T.iastk (n := 2260) rfl rfl (by decide) dX8_tells_124 (q := 125) rfl (k9 := 8) (by decide) ?_
    refine S.mem h ?_
    intro M124 h
    exact T.retV rfl dX8_tells_125 (by decide) (by decide) h
  · refine T.if_eq (tgt := 102) (q := 98) dX8_tells_95 (by decide) rfl (fun h95 => ?_) (fun h95 => ?_)
    · replace h := s_fk (fun q => q h95) h
      refine T.iconst (q := 103) (0) dX8_tells_102 rfl (by decide) ?_
      exact hJ9 _ h
    · replace h := s_tk h95 h
      refine T.iconst (q := 99) (1) dX8_tells_98 rfl (by decide) ?_
      refine T.goto (tgt := 103) dX8_tells_99 (by decide) ?_
      exact hJ9 _ h
