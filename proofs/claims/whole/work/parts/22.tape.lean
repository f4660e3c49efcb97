/-! Tape: words, numbers, signs -/
theorem l_step1 {G : sk_G} {E : sk_E} {d mR sR cells slots : Nat} {M0 : sk_M} {y : Nat → Nat} {n e : Nat} (hT : TP M0 y n) (hk : ∀ M, fdI M0 M 3 (nI e) → TJ G mX6_step (sk_R d mR sR) E cells slots 46 [some (.ref (G.2.2.1 121))] [] M) : ∀ k j : Nat, j + k = n → sc (isBl y) n j = e → ∀ M, fdI M0 M 3 (nI j) → TJ G mX6_step (sk_R d mR sR) E cells slots 8 [some (.ref (G.2.2.1 121))] [] M := by
  have hn4 := hT.2.1
  intro k
  induction k with
  | zero =>
    intro j hj he M hM
    obtain rfl : j = n := by omega
    have hT2 := TP_fd hT hM (by decide)
    rw [sc_end (Nat.le_refl _)] at he
    subst he
    refine T.ald_0 (q := 9) dX6_step_8 rfl ?_
    refine g_X6_28 rfl dX6_step_9 (q := 12) rfl ?_
    rw [hM.2.2.2]
    refine T.ald_0 (q := 13) dX6_step_12 rfl ?_
    refine g_X6_19 rfl dX6_step_13 (q := 16) rfl ?_
    rw [hT2.1]
    refine T.ic_ge (tgt := 46) (q := 19) dX6_step_16 (by decide) rfl (fun h16 => ?_) (fun h16 => absurd (nI_le (Nat.le_refl _) (by omega)) h16)
    exact hk _ hM
  | succ k ih =>
    intro j hj he M hM
    have hT2 := TP_fd hT hM (by decide)
    have hjn : j < n := by omega
    have hb := nb (hT2.2.2 j hjn).2 32 (by decide)
    refine T.ald_0 (q := 9) dX6_step_8 rfl ?_
    refine g_X6_28 rfl dX6_step_9 (q := 12) rfl ?_
    rw [hM.2.2.2]
    refine T.ald_0 (q := 13) dX6_step_12 rfl ?_
    refine g_X6_19 rfl dX6_step_13 (q := 16) rfl ?_
    rw [hT2.1]
    refine T.ic_ge (tgt := 46) (q := 19) dX6_step_16 (by decide) rfl (fun h16 => absurd h16 (nI_ge (by omega) (by omega))) (fun h16 => ?_)
    refine T.ald_0 (q := 20) dX6_step_19 rfl ?_
    refine g_X6_11 rfl dX6_step_20 (q := 23) rfl ?_
    refine T.ald_0 (q := 24) dX6_step_23 rfl ?_
    refine g_X6_28 rfl dX6_step_24 (q := 27) rfl ?_
    rw [hM.2.2.2]
    refine T.iald (n := 400) rfl rfl (by decide) dX6_step_27 (q := 28) rfl (vp_in_nI (by omega) (by decide)) ?_
    rw [nI_clamp (by omega), (hT2.2.2 j hjn).1]
    refine T.bipush (q := 30) (32) dX6_step_28 rfl (by decide) ?_
    refine T.ic_ne (tgt := 46) (q := 33) dX6_step_30 (by decide) rfl (fun h30 => ?_) (fun h30 => ?_)
    · rw [sc_no (p := isBl y) (fun q => h30 (hb.1.mpr q))] at he
      subst he
      exact hk _ hM
    · refine T.ald_0 (q := 34) dX6_step_33 rfl ?_
      refine T.dup (q := 35) dX6_step_34 rfl rfl ?_
      refine g_X6_28 rfl dX6_step_35 (q := 38) rfl ?_
      rw [hM.2.2.2]
      refine T.iconst (q := 39) (1) dX6_step_38 rfl (by decide) ?_
      refine T.iadd (q := 40) dX6_step_39 rfl ?_
      rw [nI_1]
      refine p_X6_28 rfl dX6_step_40 (q := 43) rfl ?_
      refine T.goto (tgt := 8) dX6_step_43 (by decide) ?_
      exact ih (j + 1) (by omega) (by rw [← sc_go (p := isBl y) hjn (hb.1.mp h30)]; exact he) _ (fdI_set hM)
theorem l_step2 {G : sk_G} {E : sk_E} {d mR sR cells slots : Nat} {M0 : sk_M} {y : Nat → Nat} {n e : Nat} (hT : TP M0 y n) (hk : ∀ M, fdI M0 M 4 (nI e) → TJ G mX6_step (sk_R d mR sR) E cells slots 258 [some (.ref (G.2.2.1 121))] [] M) : ∀ k j : Nat, j + k = n → sc (isLe y) n j = e → ∀ M, fdI M0 M 4 (nI j) → TJ G mX6_step (sk_R d mR sR) E cells slots 106 [some (.ref (G.2.2.1 121))] [] M := by
  have hn4 := hT.2.1
  intro k
  induction k with
  | zero =>
    intro j hj he M hM
    obtain rfl : j = n := by omega
    have hT2 := TP_fd hT hM (by decide)
    rw [sc_end (Nat.le_refl _)] at he
    subst he
    refine T.ald_0 (q := 107) dX6_step_106 rfl ?_
    refine g_X6_22 rfl dX6_step_107 (q := 110) rfl ?_
    rw [hM.2.2.2]
    refine T.ald_0 (q := 111) dX6_step_110 rfl ?_
    refine g_X6_19 rfl dX6_step_111 (q := 114) rfl ?_
    rw [hT2.1]
    refine T.ic_ge (tgt := 258) (q := 117) dX6_step_114 (by decide) rfl (fun h114 => ?_) (fun h114 => absurd (nI_le (Nat.le_refl _) (by omega)) h114)
    exact hk _ hM
  | succ k ih =>
    intro j hj he M hM
    have hT2 := TP_fd hT hM (by decide)
    have hjn : j < n := by omega
    have hb := nb (hT2.2.2 j hjn).2 97 (by decide)
    have hb2 := nb (hT2.2.2 j hjn).2 122 (by decide)
    refine T.ald_0 (q := 107) dX6_step_106 rfl ?_
    refine g_X6_22 rfl dX6_step_107 (q := 110) rfl ?_
    rw [hM.2.2.2]
    refine T.ald_0 (q := 111) dX6_step_110 rfl ?_
    refine g_X6_19 rfl dX6_step_111 (q := 114) rfl ?_
    rw [hT2.1]
    refine T.ic_ge (tgt := 258) (q := 117) dX6_step_114 (by decide) rfl (fun h114 => absurd h114 (nI_ge (by omega) (by omega))) (fun h114 => ?_)
    refine T.ald_0 (q := 118) dX6_step_117 rfl ?_
    refine g_X6_11 rfl dX6_step_118 (q := 121) rfl ?_
    refine T.ald_0 (q := 122) dX6_step_121 rfl ?_
    refine g_X6_22 rfl dX6_step_122 (q := 125) rfl ?_
    rw [hM.2.2.2]
    refine T.iald (n := 400) rfl rfl (by decide) dX6_step_125 (q := 126) rfl (vp_in_nI (by omega) (by decide)) ?_
    rw [nI_clamp (by omega), (hT2.2.2 j hjn).1]
    refine T.bipush (q := 128) (97) dX6_step_126 rfl (by decide) ?_
    refine T.ic_lt (tgt := 258) (q := 131) dX6_step_128 (by decide) rfl (fun h128 => ?_) (fun h128 => ?_)
    · have hnp : ¬ isLe y j := by first | exact fun q => Nat.not_lt.mpr q.1 (hb.2.1.mp h128) | exact fun q => Nat.not_lt.mpr q.2 (hb2.2.2.mp h142)
      rw [sc_no hnp] at he
      subst he
      exact hk _ hM
    · refine T.ald_0 (q := 132) dX6_step_131 rfl ?_
      refine g_X6_11 rfl dX6_step_132 (q := 135) rfl ?_
      refine T.ald_0 (q := 136) dX6_step_135 rfl ?_
      refine g_X6_22 rfl dX6_step_136 (q := 139) rfl ?_
      rw [hM.2.2.2]
      refine T.iald (n := 400) rfl rfl (by decide) dX6_step_139 (q := 140) rfl (vp_in_nI (by omega) (by decide)) ?_
      rw [nI_clamp (by omega), (hT2.2.2 j hjn).1]
      refine T.bipush (q := 142) (122) dX6_step_140 rfl (by decide) ?_
      refine T.ic_gt (tgt := 258) (q := 145) dX6_step_142 (by decide) rfl (fun h142 => ?_) (fun h142 => ?_)
      · have hnp : ¬ isLe y j := by first | exact fun q => Nat.not_lt.mpr q.1 (hb.2.1.mp h128) | exact fun q => Nat.not_lt.mpr q.2 (hb2.2.2.mp h142)
        rw [sc_no hnp] at he
        subst he
        exact hk _ hM
      · refine T.ald_0 (q := 146) dX6_step_145 rfl ?_
        refine T.dup (q := 147) dX6_step_146 rfl rfl ?_
        refine g_X6_22 rfl dX6_step_147 (q := 150) rfl ?_
        rw [hM.2.2.2]
        refine T.iconst (q := 151) (1) dX6_step_150 rfl (by decide) ?_
        refine T.iadd (q := 152) dX6_step_151 rfl ?_
        rw [nI_1]
        refine p_X6_22 rfl dX6_step_152 (q := 155) rfl ?_
        refine T.goto (tgt := 106) dX6_step_155 (by decide) ?_
        exact ih (j + 1) (by omega) (by rw [← sc_go (p := isLe y) hjn ⟨Nat.not_lt.mp (fun q => h128 (hb.2.1.mpr q)), Nat.not_lt.mp (fun q => h142 (hb2.2.2.mpr q))⟩]; exact he) _ (fdI_set hM)
theorem l_step3 {G : sk_G} {E : sk_E} {d mR sR cells slots : Nat} {M0 : sk_M} {y : Nat → Nat} {n e : Nat} (hT : TP M0 y n) (hk : ∀ M, fdI M0 M 4 (nI e) → TJ G mX6_step (sk_R d mR sR) E cells slots 258 [some (.ref (G.2.2.1 121))] [] M) : ∀ k j : Nat, j + k = n → sc (isDi y) n j = e → ∀ M, fdI M0 M 4 (nI j) → TJ G mX6_step (sk_R d mR sR) E cells slots 191 [some (.ref (G.2.2.1 121))] [] M := by
  have hn4 := hT.2.1
  intro k
  induction k with
  | zero =>
    intro j hj he M hM
    obtain rfl : j = n := by omega
    have hT2 := TP_fd hT hM (by decide)
    rw [sc_end (Nat.le_refl _)] at he
    subst he
    refine T.ald_0 (q := 192) dX6_step_191 rfl ?_
    refine g_X6_22 rfl dX6_step_192 (q := 195) rfl ?_
    rw [hM.2.2.2]
    refine T.ald_0 (q := 196) dX6_step_195 rfl ?_
    refine g_X6_19 rfl dX6_step_196 (q := 199) rfl ?_
    rw [hT2.1]
    refine T.ic_ge (tgt := 258) (q := 202) dX6_step_199 (by decide) rfl (fun h199 => ?_) (fun h199 => absurd (nI_le (Nat.le_refl _) (by omega)) h199)
    exact hk _ hM
  | succ k ih =>
    intro j hj he M hM
    have hT2 := TP_fd hT hM (by decide)
    have hjn : j < n := by omega
    have hb := nb (hT2.2.2 j hjn).2 48 (by decide)
    have hb2 := nb (hT2.2.2 j hjn).2 57 (by decide)
    refine T.ald_0 (q := 192) dX6_step_191 rfl ?_
    refine g_X6_22 rfl dX6_step_192 (q := 195) rfl ?_
    rw [hM.2.2.2]
    refine T.ald_0 (q := 196) dX6_step_195 rfl ?_
    refine g_X6_19 rfl dX6_step_196 (q := 199) rfl ?_
    rw [hT2.1]
    refine T.ic_ge (tgt := 258) (q := 202) dX6_step_199 (by decide) rfl (fun h199 => absurd h199 (nI_ge (by omega) (by omega))) (fun h199 => ?_)
    refine T.ald_0 (q := 203) dX6_step_202 rfl ?_
    refine g_X6_11 rfl dX6_step_203 (q := 206) rfl ?_
    refine T.ald_0 (q := 207) dX6_step_206 rfl ?_
    refine g_X6_22 rfl dX6_step_207 (q := 210) rfl ?_
    rw [hM.2.2.2]
    refine T.iald (n := 400) rfl rfl (by decide) dX6_step_210 (q := 211) rfl (vp_in_nI (by omega) (by decide)) ?_
    rw [nI_clamp (by omega), (hT2.2.2 j hjn).1]
    refine T.bipush (q := 213) (48) dX6_step_211 rfl (by decide) ?_
    refine T.ic_lt (tgt := 258) (q := 216) dX6_step_213 (by decide) rfl (fun h213 => ?_) (fun h213 => ?_)
    · have hnp : ¬ isDi y j := by first | exact fun q => Nat.not_lt.mpr q.1 (hb.2.1.mp h213) | exact fun q => Nat.not_lt.mpr q.2 (hb2.2.2.mp h227)
      rw [sc_no hnp] at he
      subst he
      exact hk _ hM
    · refine T.ald_0 (q := 217) dX6_step_216 rfl ?_
      refine g_X6_11 rfl dX6_step_217 (q := 220) rfl ?_
      refine T.ald_0 (q := 221) dX6_step_220 rfl ?_
      refine g_X6_22 rfl dX6_step_221 (q := 224) rfl ?_
      rw [hM.2.2.2]
      refine T.iald (n := 400) rfl rfl (by decide) dX6_step_224 (q := 225) rfl (vp_in_nI (by omega) (by decide)) ?_
      rw [nI_clamp (by omega), (hT2.2.2 j hjn).1]
      refine T.bipush (q := 227) (57) dX6_step_225 rfl (by decide) ?_
      refine T.ic_gt (tgt := 258) (q := 230) dX6_step_227 (by decide) rfl (fun h227 => ?_) (fun h227 => ?_)
      · have hnp : ¬ isDi y j := by first | exact fun q => Nat.not_lt.mpr q.1 (hb.2.1.mp h213) | exact fun q => Nat.not_lt.mpr q.2 (hb2.2.2.mp h227)
        rw [sc_no hnp] at he
        subst he
        exact hk _ hM
      · refine T.ald_0 (q := 231) dX6_step_230 rfl ?_
        refine T.dup (q := 232) dX6_step_231 rfl rfl ?_
        refine g_X6_22 rfl dX6_step_232 (q := 235) rfl ?_
        rw [hM.2.2.2]
        refine T.iconst (q := 236) (1) dX6_step_235 rfl (by decide) ?_
        refine T.iadd (q := 237) dX6_step_236 rfl ?_
        rw [nI_1]
        refine p_X6_22 rfl dX6_step_237 (q := 240) rfl ?_
        refine T.goto (tgt := 191) dX6_step_240 (by decide) ?_
        exact ih (j + 1) (by omega) (by rw [← sc_go (p := isDi y) hjn ⟨Nat.not_lt.mp (fun q => h213 (hb.2.1.mpr q)), Nat.not_lt.mp (fun q => h227 (hb2.2.2.mpr q))⟩]; exact he) _ (fdI_set hM)
theorem c_step {G : sk_G} {d : Nat} {M : sk_M} {y : Nat → Nat} {n i : Nat} (hT : TP M y n) (hi : M.1 121 4 = nI i) (hin : i ≤ n) : Ctr G mX6_step d 0 0 [.ref (G.2.2.1 121)] M (rV fun M' => stpI M M' y n i) noX := by
  refine Ctr.of 0 (by decide) (Nat.le_of_ble_eq_true rfl) ?_
  refine T.ald_0 (q := 1) dX6_step_0 rfl ?_
  refine T.ald_0 (q := 2) dX6_step_1 rfl ?_
  refine g_X6_22 rfl dX6_step_2 (q := 5) rfl ?_
  rw [hi]
  refine p_X6_28 rfl dX6_step_5 (q := 8) rfl ?_
  have hn4 := hT.2.1
  have hsl := sc_le (p := isBl y) (n := n) (n - i) i (by omega)
  have hal : tkA y n i ≤ n := hsl.2
  refine l_step1 (M0 := M) (e := tkA y n i) hT ?_ (n - i) i (by omega) rfl _ ⟨fun c hc => sk_si_ne hc, rfl, fun k hk => sk_sif hk, sk_sie⟩
  intro M2 hM2
  have hT2 := TP_fd hT hM2 (by decide)
  refine T.ald_0 (q := 47) dX6_step_46 rfl ?_
  refine T.ald_0 (q := 48) dX6_step_47 rfl ?_
  refine g_X6_28 rfl dX6_step_48 (q := 51) rfl ?_
  rw [hM2.2.2.2]
  refine p_X6_22 rfl dX6_step_51 (q := 54) rfl ?_
  refine T.ald_0 (q := 55) dX6_step_54 rfl ?_
  refine g_X6_28 rfl dX6_step_55 (q := 58) rfl ?_
  rw [sk_sif (by decide), hM2.2.2.2]
  refine T.ald_0 (q := 59) dX6_step_58 rfl ?_
  refine g_X6_19 rfl dX6_step_59 (q := 62) rfl ?_
  rw [sk_sif (by decide), hT2.1]
  refine T.ic_lt (tgt := 73) (q := 65) dX6_step_62 (by decide) rfl (fun h62 => ?_) (fun h62 => ?_)
  · have han : tkA y n i < n := (nI_ltI (by omega) (by omega)).mp h62
    have hb1 := nb (hT2.2.2 _ han).2 97 (by decide)
    have hb2 := nb (hT2.2.2 _ han).2 122 (by decide)
    have hb3 := nb (hT2.2.2 _ han).2 48 (by decide)
    have hb4 := nb (hT2.2.2 _ han).2 57 (by decide)
    refine T.ald_0 (q := 74) dX6_step_73 rfl ?_
    refine g_X6_11 rfl dX6_step_74 (q := 77) rfl ?_
    refine T.ald_0 (q := 78) dX6_step_77 rfl ?_
    refine g_X6_28 rfl dX6_step_78 (q := 81) rfl ?_
    rw [sk_sif (by decide), hM2.2.2.2]
    refine T.iald (n := 400) rfl rfl (by decide) dX6_step_81 (q := 82) rfl (vp_in_nI (by omega) (by decide)) ?_
    rw [nI_clamp (by omega), sk_si_ne (by decide), (hT2.2.2 _ han).1]
    refine T.bipush (q := 84) (97) dX6_step_82 rfl (by decide) ?_
    refine T.ic_lt (tgt := 158) (q := 87) dX6_step_84 (by decide) rfl (fun h84 => ?_) (fun h84 => ?_)
    · refine T.ald_0 (q := 159) dX6_step_158 rfl ?_
      refine g_X6_11 rfl dX6_step_159 (q := 162) rfl ?_
      refine T.ald_0 (q := 163) dX6_step_162 rfl ?_
      refine g_X6_28 rfl dX6_step_163 (q := 166) rfl ?_
      rw [sk_sif (by decide), hM2.2.2.2]
      refine T.iald (n := 400) rfl rfl (by decide) dX6_step_166 (q := 167) rfl (vp_in_nI (by omega) (by decide)) ?_
      rw [nI_clamp (by omega), sk_si_ne (by decide), (hT2.2.2 _ han).1]
      refine T.bipush (q := 169) (48) dX6_step_167 rfl (by decide) ?_
      refine T.ic_lt (tgt := 243) (q := 172) dX6_step_169 (by decide) rfl (fun h169 => ?_) (fun h169 => ?_)
      · refine T.ald_0 (q := 244) dX6_step_243 rfl ?_
        refine T.iconst (q := 245) (3) dX6_step_244 rfl (by decide) ?_
        refine p_X6_31 rfl dX6_step_245 (q := 248) rfl ?_
        refine T.ald_0 (q := 249) dX6_step_248 rfl ?_
        refine T.dup (q := 250) dX6_step_249 rfl rfl ?_
        refine g_X6_22 rfl dX6_step_250 (q := 253) rfl ?_
        rw [sk_sif (by decide), sk_sie]
        refine T.iconst (q := 254) (1) dX6_step_253 rfl (by decide) ?_
        refine T.iadd (q := 255) dX6_step_254 rfl ?_
        refine p_X6_22 rfl dX6_step_255 (q := 258) rfl ?_
        refine T.retV rfl dX6_step_258 (by decide) (by decide) ?_
        first | exact stp_mk (kd := 0) (e := tkA y n i) hM2 (fun c hc => by rw [sk_si_ne hc, sk_si_ne hc]) rfl (fun k q1 q2 => by rw [sk_sif q1, sk_sif q2]) sk_sie (by rw [sk_sif (by decide), sk_sie]) (tk0 (Nat.not_lt.mp (fun q => h62 ((nI_ltI (by omega) (by omega)).mpr q)))) | exact stp_mk (kd := 3) (e := tkA y n i + 1) hM2 (fun c hc => by rw [sk_si_ne hc, sk_si_ne hc, sk_si_ne hc]) rfl (fun k q1 q2 => by rw [sk_sif q2, sk_sif q1, sk_sif q2]) (by rw [sk_sif (by decide), sk_sie]; rfl) (by rw [sk_sie, nI_1]) (tk3 (by omega) (by first | exact fun q => Nat.not_lt.mpr q.1 (hb1.2.1.mp h84) | exact fun q => Nat.not_lt.mpr q.2 (hb2.2.2.mp h98)) (by first | exact fun q => Nat.not_lt.mpr q.1 (hb3.2.1.mp h169) | exact fun q => Nat.not_lt.mpr q.2 (hb4.2.2.mp h183)))
      · refine T.ald_0 (q := 173) dX6_step_172 rfl ?_
        refine g_X6_11 rfl dX6_step_173 (q := 176) rfl ?_
        refine T.ald_0 (q := 177) dX6_step_176 rfl ?_
        refine g_X6_28 rfl dX6_step_177 (q := 180) rfl ?_
        rw [sk_sif (by decide), hM2.2.2.2]
        refine T.iald (n := 400) rfl rfl (by decide) dX6_step_180 (q := 181) rfl (vp_in_nI (by omega) (by decide)) ?_
        rw [nI_clamp (by omega), sk_si_ne (by decide), (hT2.2.2 _ han).1]
        refine T.bipush (q := 183) (57) dX6_step_181 rfl (by decide) ?_
        refine T.ic_gt (tgt := 243) (q := 186) dX6_step_183 (by decide) rfl (fun h183 => ?_) (fun h183 => ?_)
        · refine T.ald_0 (q := 244) dX6_step_243 rfl ?_
          refine T.iconst (q := 245) (3) dX6_step_244 rfl (by decide) ?_
          refine p_X6_31 rfl dX6_step_245 (q := 248) rfl ?_
          refine T.ald_0 (q := 249) dX6_step_248 rfl ?_
          refine T.dup (q := 250) dX6_step_249 rfl rfl ?_
          refine g_X6_22 rfl dX6_step_250 (q := 253) rfl ?_
          rw [sk_sif (by decide), sk_sie]
          refine T.iconst (q := 254) (1) dX6_step_253 rfl (by decide) ?_
          refine T.iadd (q := 255) dX6_step_254 rfl ?_
          refine p_X6_22 rfl dX6_step_255 (q := 258) rfl ?_
          refine T.retV rfl dX6_step_258 (by decide) (by decide) ?_
          first | exact stp_mk (kd := 0) (e := tkA y n i) hM2 (fun c hc => by rw [sk_si_ne hc, sk_si_ne hc]) rfl (fun k q1 q2 => by rw [sk_sif q1, sk_sif q2]) sk_sie (by rw [sk_sif (by decide), sk_sie]) (tk0 (Nat.not_lt.mp (fun q => h62 ((nI_ltI (by omega) (by omega)).mpr q)))) | exact stp_mk (kd := 3) (e := tkA y n i + 1) hM2 (fun c hc => by rw [sk_si_ne hc, sk_si_ne hc, sk_si_ne hc]) rfl (fun k q1 q2 => by rw [sk_sif q2, sk_sif q1, sk_sif q2]) (by rw [sk_sif (by decide), sk_sie]; rfl) (by rw [sk_sie, nI_1]) (tk3 (by omega) (by first | exact fun q => Nat.not_lt.mpr q.1 (hb1.2.1.mp h84) | exact fun q => Nat.not_lt.mpr q.2 (hb2.2.2.mp h98)) (by first | exact fun q => Nat.not_lt.mpr q.1 (hb3.2.1.mp h169) | exact fun q => Nat.not_lt.mpr q.2 (hb4.2.2.mp h183)))
        · refine T.ald_0 (q := 187) dX6_step_186 rfl ?_
          refine T.iconst (q := 188) (2) dX6_step_187 rfl (by decide) ?_
          refine p_X6_31 rfl dX6_step_188 (q := 191) rfl ?_
          refine l_step3 (M0 := sk_si (sk_si M2 121 4 (nI (tkA y n i))) 121 2 2) (y := y) (n := n) (e := sc (isDi y) n (tkA y n i)) ⟨by rw [sk_sif (by decide), sk_sif (by decide)]; exact hT2.1, hT2.2.1, fun j hj => by rw [sk_si_ne (by decide), sk_si_ne (by decide)]; exact hT2.2.2 j hj⟩ ?_ (n - tkA y n i) (tkA y n i) (by omega) rfl _ ⟨fun _ _ => rfl, rfl, fun _ _ => rfl, by rw [sk_sif (by decide), sk_sie]⟩
          intro M5 hM5
          refine T.retV rfl dX6_step_258 (by decide) (by decide) ?_
          exact stp_mk (kd := 2) hM2 (fun c hc => by rw [hM5.1 c hc, sk_si_ne hc, sk_si_ne hc]) hM5.2.1 (fun k q1 q2 => by rw [hM5.2.2.1 k q2, sk_sif q1, sk_sif q2]) (by rw [hM5.2.2.1 2 (by decide), sk_sie]; rfl) hM5.2.2.2 (tk2 (by omega) (by first | exact fun q => Nat.not_lt.mpr q.1 (hb1.2.1.mp h84) | exact fun q => Nat.not_lt.mpr q.2 (hb2.2.2.mp h98)) ⟨Nat.not_lt.mp (fun q => h169 (hb3.2.1.mpr q)), Nat.not_lt.mp (fun q => h183 (hb4.2.2.mpr q))⟩)
    · refine T.ald_0 (q := 88) dX6_step_87 rfl ?_
      refine g_X6_11 rfl dX6_step_88 (q := 91) rfl ?_
      refine T.ald_0 (q := 92) dX6_step_91 rfl ?_
      refine g_X6_28 rfl dX6_step_92 (q := 95) rfl ?_
      rw [sk_sif (by decide), hM2.2.2.2]
      refine T.iald (n := 400) rfl rfl (by decide) dX6_step_95 (q := 96) rfl (vp_in_nI (by omega) (by decide)) ?_
      rw [nI_clamp (by omega), sk_si_ne (by decide), (hT2.2.2 _ han).1]
      refine T.bipush (q := 98) (122) dX6_step_96 rfl (by decide) ?_
      refine T.ic_gt (tgt := 158) (q := 101) dX6_step_98 (by decide) rfl (fun h98 => ?_) (fun h98 => ?_)
      · refine T.ald_0 (q := 159) dX6_step_158 rfl ?_
        refine g_X6_11 rfl dX6_step_159 (q := 162) rfl ?_
        refine T.ald_0 (q := 163) dX6_step_162 rfl ?_
        refine g_X6_28 rfl dX6_step_163 (q := 166) rfl ?_
        rw [sk_sif (by decide), hM2.2.2.2]
        refine T.iald (n := 400) rfl rfl (by decide) dX6_step_166 (q := 167) rfl (vp_in_nI (by omega) (by decide)) ?_
        rw [nI_clamp (by omega), sk_si_ne (by decide), (hT2.2.2 _ han).1]
        refine T.bipush (q := 169) (48) dX6_step_167 rfl (by decide) ?_
        refine T.ic_lt (tgt := 243) (q := 172) dX6_step_169 (by decide) rfl (fun h169 => ?_) (fun h169 => ?_)
        · refine T.ald_0 (q := 244) dX6_step_243 rfl ?_
          refine T.iconst (q := 245) (3) dX6_step_244 rfl (by decide) ?_
          refine p_X6_31 rfl dX6_step_245 (q := 248) rfl ?_
          refine T.ald_0 (q := 249) dX6_step_248 rfl ?_
          refine T.dup (q := 250) dX6_step_249 rfl rfl ?_
          refine g_X6_22 rfl dX6_step_250 (q := 253) rfl ?_
          rw [sk_sif (by decide), sk_sie]
          refine T.iconst (q := 254) (1) dX6_step_253 rfl (by decide) ?_
          refine T.iadd (q := 255) dX6_step_254 rfl ?_
          refine p_X6_22 rfl dX6_step_255 (q := 258) rfl ?_
          refine T.retV rfl dX6_step_258 (by decide) (by decide) ?_
          first | exact stp_mk (kd := 0) (e := tkA y n i) hM2 (fun c hc => by rw [sk_si_ne hc, sk_si_ne hc]) rfl (fun k q1 q2 => by rw [sk_sif q1, sk_sif q2]) sk_sie (by rw [sk_sif (by decide), sk_sie]) (tk0 (Nat.not_lt.mp (fun q => h62 ((nI_ltI (by omega) (by omega)).mpr q)))) | exact stp_mk (kd := 3) (e := tkA y n i + 1) hM2 (fun c hc => by rw [sk_si_ne hc, sk_si_ne hc, sk_si_ne hc]) rfl (fun k q1 q2 => by rw [sk_sif q2, sk_sif q1, sk_sif q2]) (by rw [sk_sif (by decide), sk_sie]; rfl) (by rw [sk_sie, nI_1]) (tk3 (by omega) (by first | exact fun q => Nat.not_lt.mpr q.1 (hb1.2.1.mp h84) | exact fun q => Nat.not_lt.mpr q.2 (hb2.2.2.mp h98)) (by first | exact fun q => Nat.not_lt.mpr q.1 (hb3.2.1.mp h169) | exact fun q => Nat.not_lt.mpr q.2 (hb4.2.2.mp h183)))
        · refine T.ald_0 (q := 173) dX6_step_172 rfl ?_
          refine g_X6_11 rfl dX6_step_173 (q := 176) rfl ?_
          refine T.ald_0 (q := 177) dX6_step_176 rfl ?_
          refine g_X6_28 rfl dX6_step_177 (q := 180) rfl ?_
          rw [sk_sif (by decide), hM2.2.2.2]
          refine T.iald (n := 400) rfl rfl (by decide) dX6_step_180 (q := 181) rfl (vp_in_nI (by omega) (by decide)) ?_
          rw [nI_clamp (by omega), sk_si_ne (by decide), (hT2.2.2 _ han).1]
          refine T.bipush (q := 183) (57) dX6_step_181 rfl (by decide) ?_
          refine T.ic_gt (tgt := 243) (q := 186) dX6_step_183 (by decide) rfl (fun h183 => ?_) (fun h183 => ?_)
          · refine T.ald_0 (q := 244) dX6_step_243 rfl ?_
            refine T.iconst (q := 245) (3) dX6_step_244 rfl (by decide) ?_
            refine p_X6_31 rfl dX6_step_245 (q := 248) rfl ?_
            refine T.ald_0 (q := 249) dX6_step_248 rfl ?_
            refine T.dup (q := 250) dX6_step_249 rfl rfl ?_
            refine g_X6_22 rfl dX6_step_250 (q := 253) rfl ?_
            rw [sk_sif (by decide), sk_sie]
            refine T.iconst (q := 254) (1) dX6_step_253 rfl (by decide) ?_
            refine T.iadd (q := 255) dX6_step_254 rfl ?_
            refine p_X6_22 rfl dX6_step_255 (q := 258) rfl ?_
            refine T.retV rfl dX6_step_258 (by decide) (by decide) ?_
            first | exact stp_mk (kd := 0) (e := tkA y n i) hM2 (fun c hc => by rw [sk_si_ne hc, sk_si_ne hc]) rfl (fun k q1 q2 => by rw [sk_sif q1, sk_sif q2]) sk_sie (by rw [sk_sif (by decide), sk_sie]) (tk0 (Nat.not_lt.mp (fun q => h62 ((nI_ltI (by omega) (by omega)).mpr q)))) | exact stp_mk (kd := 3) (e := tkA y n i + 1) hM2 (fun c hc => by rw [sk_si_ne hc, sk_si_ne hc, sk_si_ne hc]) rfl (fun k q1 q2 => by rw [sk_sif q2, sk_sif q1, sk_sif q2]) (by rw [sk_sif (by decide), sk_sie]; rfl) (by rw [sk_sie, nI_1]) (tk3 (by omega) (by first | exact fun q => Nat.not_lt.mpr q.1 (hb1.2.1.mp h84) | exact fun q => Nat.not_lt.mpr q.2 (hb2.2.2.mp h98)) (by first | exact fun q => Nat.not_lt.mpr q.1 (hb3.2.1.mp h169) | exact fun q => Nat.not_lt.mpr q.2 (hb4.2.2.mp h183)))
          · refine T.ald_0 (q := 187) dX6_step_186 rfl ?_
            refine T.iconst (q := 188) (2) dX6_step_187 rfl (by decide) ?_
            refine p_X6_31 rfl dX6_step_188 (q := 191) rfl ?_
            refine l_step3 (M0 := sk_si (sk_si M2 121 4 (nI (tkA y n i))) 121 2 2) (y := y) (n := n) (e := sc (isDi y) n (tkA y n i)) ⟨by rw [sk_sif (by decide), sk_sif (by decide)]; exact hT2.1, hT2.2.1, fun j hj => by rw [sk_si_ne (by decide), sk_si_ne (by decide)]; exact hT2.2.2 j hj⟩ ?_ (n - tkA y n i) (tkA y n i) (by omega) rfl _ ⟨fun _ _ => rfl, rfl, fun _ _ => rfl, by rw [sk_sif (by decide), sk_sie]⟩
            intro M5 hM5
            refine T.retV rfl dX6_step_258 (by decide) (by decide) ?_
            exact stp_mk (kd := 2) hM2 (fun c hc => by rw [hM5.1 c hc, sk_si_ne hc, sk_si_ne hc]) hM5.2.1 (fun k q1 q2 => by rw [hM5.2.2.1 k q2, sk_sif q1, sk_sif q2]) (by rw [hM5.2.2.1 2 (by decide), sk_sie]; rfl) hM5.2.2.2 (tk2 (by omega) (by first | exact fun q => Nat.not_lt.mpr q.1 (hb1.2.1.mp h84) | exact fun q => Nat.not_lt.mpr q.2 (hb2.2.2.mp h98)) ⟨Nat.not_lt.mp (fun q => h169 (hb3.2.1.mpr q)), Nat.not_lt.mp (fun q => h183 (hb4.2.2.mpr q))⟩)
      · refine T.ald_0 (q := 102) dX6_step_101 rfl ?_
        refine T.iconst (q := 103) (1) dX6_step_102 rfl (by decide) ?_
        refine p_X6_31 rfl dX6_step_103 (q := 106) rfl ?_
        refine l_step2 (M0 := sk_si (sk_si M2 121 4 (nI (tkA y n i))) 121 2 1) (y := y) (n := n) (e := sc (isLe y) n (tkA y n i)) ⟨by rw [sk_sif (by decide), sk_sif (by decide)]; exact hT2.1, hT2.2.1, fun j hj => by rw [sk_si_ne (by decide), sk_si_ne (by decide)]; exact hT2.2.2 j hj⟩ ?_ (n - tkA y n i) (tkA y n i) (by omega) rfl _ ⟨fun _ _ => rfl, rfl, fun _ _ => rfl, by rw [sk_sif (by decide), sk_sie]⟩
        intro M5 hM5
        refine T.retV rfl dX6_step_258 (by decide) (by decide) ?_
        exact stp_mk (kd := 1) hM2 (fun c hc => by rw [hM5.1 c hc, sk_si_ne hc, sk_si_ne hc]) hM5.2.1 (fun k q1 q2 => by rw [hM5.2.2.1 k q2, sk_sif q1, sk_sif q2]) (by rw [hM5.2.2.1 2 (by decide), sk_sie]; rfl) hM5.2.2.2 (tk1 (by omega) ⟨Nat.not_lt.mp (fun q => h84 (hb1.2.1.mpr q)), Nat.not_lt.mp (fun q => h98 (hb2.2.2.mpr q))⟩)
  · refine T.ald_0 (q := 66) dX6_step_65 rfl ?_
    refine T.iconst (q := 67) (0) dX6_step_66 rfl (by decide) ?_
    refine p_X6_31 rfl dX6_step_67 (q := 70) rfl ?_
    refine T.goto (tgt := 258) dX6_step_70 (by decide) ?_
    refine T.retV rfl dX6_step_258 (by decide) (by decide) ?_
    first | exact stp_mk (kd := 0) (e := tkA y n i) hM2 (fun c hc => by rw [sk_si_ne hc, sk_si_ne hc]) rfl (fun k q1 q2 => by rw [sk_sif q1, sk_sif q2]) sk_sie (by rw [sk_sif (by decide), sk_sie]) (tk0 (Nat.not_lt.mp (fun q => h62 ((nI_ltI (by omega) (by omega)).mpr q)))) | exact stp_mk (kd := 3) (e := tkA y n i + 1) hM2 (fun c hc => by rw [sk_si_ne hc, sk_si_ne hc, sk_si_ne hc]) rfl (fun k q1 q2 => by rw [sk_sif q2, sk_sif q1, sk_sif q2]) (by rw [sk_sif (by decide), sk_sie]; rfl) (by rw [sk_sie, nI_1]) (tk3 (by omega) (by first | exact fun q => Nat.not_lt.mpr q.1 (hb1.2.1.mp h84) | exact fun q => Nat.not_lt.mpr q.2 (hb2.2.2.mp h98)) (by first | exact fun q => Nat.not_lt.mpr q.1 (hb3.2.1.mp h169) | exact fun q => Nat.not_lt.mpr q.2 (hb4.2.2.mp h183)))
