/-! Sieve: which sound alike, what is needed behind a turning -/
theorem l_compare1 {G : sk_G} {E : sk_E} {d mR sR cells slots : Nat} {M : sk_M} {t i : Nat} {l : List Nat} (hd : 0 < d) (ht : t < 216) (hfc : faced M t) (hV : SV M l) (hil : i < l.length) (hit : ¬ l.getD i 0 = t) (hc : cells ≤ mR) (hs : slots ≤ sR) (hk : ∀ j, j = l.length → TJ G mX4_compare (sk_R d mR sR) E cells slots 87 [some (.ref (G.2.2.1 130)), some (.int (nI t)), some (.int (nI i)), some (.int (bitsP (alP (M.1 (0 + 7)) t l i) j)), some (.int (nI j))] [] M) : ∀ m j : Nat, j + m = l.length → TJ G mX4_compare (sk_R d mR sR) E cells slots 20 [some (.ref (G.2.2.1 130)), some (.int (nI t)), some (.int (nI i)), some (.int (bitsP (alP (M.1 (0 + 7)) t l i) j)), some (.int (nI j))] [] M := by
  have hl9 := hV.2.1
  have hci := (hV.2.2.1 i hil).2
  have ei : nI (l.getD i 0) = nI t ↔ l.getD i 0 = t := nI_eq (by omega) (by omega)
  intro m
  induction m with
  | zero =>
    intro j hj
    obtain rfl : j = l.length := by omega
    refine T.ild_4 (q := 22) dX4_compare_20 rfl ?_
    refine T.ald_0 (q := 23) dX4_compare_22 rfl ?_
    refine g_X4_38 rfl dX4_compare_23 (q := 26) rfl ?_
    rw [hV.1]
    refine T.ic_ge (tgt := 87) (q := 29) dX4_compare_26 (by decide) rfl (fun h26 => ?_) (fun h26 => absurd (nI_le (Nat.le_refl _) (by omega)) h26)
    exact hk _ rfl
  | succ m ih =>
    intro j hj
    have hcj := (hV.2.2.1 j (by omega)).2
    have ej : nI (l.getD j 0) = nI t ↔ l.getD j 0 = t := nI_eq (by omega) (by omega)
    refine T.ild_4 (q := 22) dX4_compare_20 rfl ?_
    refine T.ald_0 (q := 23) dX4_compare_22 rfl ?_
    refine g_X4_38 rfl dX4_compare_23 (q := 26) rfl ?_
    rw [hV.1]
    refine T.ic_ge (tgt := 87) (q := 29) dX4_compare_26 (by decide) rfl (fun h26 => absurd h26 (nI_ge (by omega) (by omega))) (fun h26 => ?_)
    refine T.ald_0 (q := 30) dX4_compare_29 rfl ?_
    refine g_X4_15 rfl dX4_compare_30 (q := 33) rfl ?_
    refine T.ild_2 (q := 34) dX4_compare_33 rfl ?_
    refine T.iald (n := 216) rfl rfl (by decide) dX4_compare_34 (q := 35) rfl (vp_in_nI (by omega) (by decide)) ?_
    rw [nI_clamp (by omega), (hV.2.2.1 i (by omega)).1]
    refine T.ild_1 (q := 36) dX4_compare_35 rfl ?_
    refine T.ic_eq (tgt := 87) (q := 39) dX4_compare_36 (by decide) rfl (fun h36 => absurd h36 (fun q => hit (ei.mp q))) (fun h36 => ?_)
    refine T.ald_0 (q := 40) dX4_compare_39 rfl ?_
    refine g_X4_15 rfl dX4_compare_40 (q := 43) rfl ?_
    refine T.ild_4 (q := 45) dX4_compare_43 rfl ?_
    refine T.iald (n := 216) rfl rfl (by decide) dX4_compare_45 (q := 46) rfl (vp_in_nI (by omega) (by decide)) ?_
    rw [nI_clamp (by omega), (hV.2.2.1 j (by omega)).1]
    refine T.ild_1 (q := 47) dX4_compare_46 rfl ?_
    refine T.ic_eq (tgt := 81) (q := 50) dX4_compare_47 (by decide) rfl (fun h47 => ?_) (fun h47 => ?_)
    · first | rw [bitsP_t (P := alP (M.1 (0 + 7)) t l i) ⟨hit, fun q => h47 (ej.mpr q), h71⟩] | rw [bitsP_f (P := alP (M.1 (0 + 7)) t l i) (fun z => z.2.1 (ej.mp h47))] | rw [bitsP_f (P := alP (M.1 (0 + 7)) t l i) (fun z => h71 z.2.2)]
      refine T.inc_4 (q := 84) (1) dX4_compare_81 rfl (by decide) (by decide) (by first | exact sk_ok_i | exact sk_ok_r | exact sk_ok_n) ?_
      refine T.goto (tgt := 20) dX4_compare_84 (by decide) ?_
      rw [nI_1]
      exact ih (j + 1) (by omega)
    · refine T.ald_0 (q := 51) dX4_compare_50 rfl ?_
      refine T.ald_0 (q := 52) dX4_compare_51 rfl ?_
      refine g_X4_15 rfl dX4_compare_52 (q := 55) rfl ?_
      refine T.ild_4 (q := 57) dX4_compare_55 rfl ?_
      refine T.iald (n := 216) rfl rfl (by decide) dX4_compare_57 (q := 58) rfl (vp_in_nI (by omega) (by decide)) ?_
      rw [nI_clamp (by omega), (hV.2.2.1 j (by omega)).1]
      refine k_X4_52 rfl dX4_compare_58 (q := 61) rfl (by omega) hc hs (Nat.le_of_ble_eq_true rfl) (c_slotOf (d := 0) hcj hfc) ?_
      rintro r M9 ⟨rfl, hM9⟩
      obtain rfl := hM9.symm
      refine T.ald_0 (q := 62) dX4_compare_61 rfl ?_
      refine T.ald_0 (q := 63) dX4_compare_62 rfl ?_
      refine g_X4_15 rfl dX4_compare_63 (q := 66) rfl ?_
      refine T.ild_2 (q := 67) dX4_compare_66 rfl ?_
      refine T.iald (n := 216) rfl rfl (by decide) dX4_compare_67 (q := 68) rfl (vp_in_nI (by omega) (by decide)) ?_
      rw [nI_clamp (by omega), (hV.2.2.1 i (by omega)).1]
      refine k_X4_52 rfl dX4_compare_68 (q := 71) rfl (by omega) hc hs (Nat.le_of_ble_eq_true rfl) (c_slotOf (d := 0) hci hfc) ?_
      rintro r M9 ⟨rfl, hM9⟩
      obtain rfl := hM9.symm
      refine T.ic_ne (tgt := 81) (q := 74) dX4_compare_71 (by decide) rfl (fun h71 => ?_) (fun h71 => ?_)
      · first | rw [bitsP_t (P := alP (M.1 (0 + 7)) t l i) ⟨hit, fun q => h47 (ej.mpr q), h71⟩] | rw [bitsP_f (P := alP (M.1 (0 + 7)) t l i) (fun z => z.2.1 (ej.mp h47))] | rw [bitsP_f (P := alP (M.1 (0 + 7)) t l i) (fun z => h71 z.2.2)]
        refine T.inc_4 (q := 84) (1) dX4_compare_81 rfl (by decide) (by decide) (by first | exact sk_ok_i | exact sk_ok_r | exact sk_ok_n) ?_
        refine T.goto (tgt := 20) dX4_compare_84 (by decide) ?_
        rw [nI_1]
        exact ih (j + 1) (by omega)
      · refine T.ild_3 (q := 75) dX4_compare_74 rfl ?_
        refine T.iconst (q := 76) (1) dX4_compare_75 rfl (by decide) ?_
        refine T.ild_4 (q := 78) dX4_compare_76 rfl ?_
        refine T.ishl (q := 79) dX4_compare_78 rfl ?_
        refine T.ior (q := 80) dX4_compare_79 rfl ?_
        refine T.ist_3 (q := 81) dX4_compare_80 rfl (by decide) (by first | exact sk_ok_i | exact sk_ok_r | exact sk_ok_n) ?_
        first | rw [bitsP_t (P := alP (M.1 (0 + 7)) t l i) ⟨hit, fun q => h47 (ej.mpr q), h71⟩] | rw [bitsP_f (P := alP (M.1 (0 + 7)) t l i) (fun z => z.2.1 (ej.mp h47))] | rw [bitsP_f (P := alP (M.1 (0 + 7)) t l i) (fun z => h71 z.2.2)]
        refine T.inc_4 (q := 84) (1) dX4_compare_81 rfl (by decide) (by decide) (by first | exact sk_ok_i | exact sk_ok_r | exact sk_ok_n) ?_
        refine T.goto (tgt := 20) dX4_compare_84 (by decide) ?_
        rw [nI_1]
        exact ih (j + 1) (by omega)
theorem l_compare2 {G : sk_G} {E : sk_E} {d mR sR cells slots : Nat} {M1 : sk_M} {t : Nat} {l : List Nat} (hd : 0 < d) (ht : t < 216) (hfc : faced M1 t) (hV : SV M1 l) (hl6 : l.length ≤ 6) (hc : cells ≤ mR) (hs : slots ≤ sR) (hk : ∀ M i x3 x4, cmI M1 M t l l.length → TJ G mX4_compare (sk_R d mR sR) E cells slots 105 [some (.ref (G.2.2.1 130)), some (.int (nI t)), some (.int (nI i)), x3, x4] [] M) : ∀ m i : Nat, i + m = l.length → ∀ M x3 x4, cmI M1 M t l i → TJ G mX4_compare (sk_R d mR sR) E cells slots 7 [some (.ref (G.2.2.1 130)), some (.int (nI t)), some (.int (nI i)), x3, x4] [] M := by
  intro m
  induction m with
  | zero =>
    intro i hi M x3 x4 hM
    obtain rfl : i = l.length := by omega
    refine T.ild_2 (q := 8) dX4_compare_7 rfl ?_
    refine T.ald_0 (q := 9) dX4_compare_8 rfl ?_
    refine g_X4_38 rfl dX4_compare_9 (q := 12) rfl ?_
    rw [hM.1 130 (by decide), hV.1]
    refine T.ic_ge (tgt := 105) (q := 15) dX4_compare_12 (by decide) rfl (fun h12 => ?_) (fun h12 => absurd (nI_le (Nat.le_refl _) (by omega)) h12)
    exact hk _ _ _ _ hM
  | succ m ih =>
    intro i hi M x3 x4 hM
    have hil : i < l.length := by omega
    have hV2 : SV M l := ⟨by rw [hM.1 130 (by decide)]; exact hV.1, hV.2.1, fun j hj => by rw [hM.1 131 (by decide)]; exact hV.2.2.1 j hj, fun c hc => by rw [hM.1 132 (by decide)]; exact hV.2.2.2 c hc⟩
    have e7 : M.1 (0 + 7) = (M1.1 (0 + 7)) := hM.1 _ (by decide)
    have hf2 : faced M t := faced_cg hfc (by rw [hM.1 130 (by decide)]) (hM.1 133 (by decide)) e7
    have hci := (hV2.2.2.1 i hil).2
    have ei : nI (l.getD i 0) = nI t ↔ l.getD i 0 = t := nI_eq (by omega) (by omega)
    have J87 : ∀ (z : Int32) (x4 : Option Value), z = bitsP (alP (M.1 (0 + 7)) t l i) l.length → TJ G mX4_compare (sk_R d mR sR) E cells slots 87 [some (.ref (G.2.2.1 130)), some (.int (nI t)), some (.int (nI i)), some (.int z), x4] [] M := by
      rintro z x4 rfl
      refine T.ald_0 (q := 88) dX4_compare_87 rfl ?_
      refine g_X4_29 rfl dX4_compare_88 (q := 91) rfl ?_
      refine T.ild_1 (q := 92) dX4_compare_91 rfl ?_
      refine T.bipush (q := 94) (6) dX4_compare_92 rfl (by decide) ?_
      refine T.imul (q := 95) dX4_compare_94 rfl ?_
      refine T.ild_2 (q := 96) dX4_compare_95 rfl ?_
      refine T.iadd (q := 97) dX4_compare_96 rfl ?_
      rw [show nI t * 6 + nI i = nI (6 * t + i) from (by simp (disch := omega) only [sk_lit, nI_add, pk_mul, pk_div, pk_sub, sk_mod, nI_clamp, nI_1]; try (congr 1 <;> omega))]
      refine T.ild_3 (q := 98) dX4_compare_97 rfl ?_
      refine T.iast (n := 1296) rfl rfl (by decide) dX4_compare_98 (q := 99) rfl (vp_in_nI (by omega) (by decide)) ?_
      rw [nI_clamp (by omega)]
      refine T.inc_2 (q := 102) (1) dX4_compare_99 rfl (by decide) (by decide) (by first | exact sk_ok_i | exact sk_ok_r | exact sk_ok_n) ?_
      refine T.goto (tgt := 7) dX4_compare_102 (by decide) ?_
      rw [nI_1]
      refine ih (i + 1) (by omega) _ _ _ ⟨fun c hc => by rw [sk_si_ne hc]; exact hM.1 c hc, hM.2.1, fun q hq => ?_, fun x hx => ?_⟩
      · rw [sk_si_at, upd]
        by_cases e : 6 * t + q = 6 * t + i
        · rw [if_pos e, e7, show q = i by omega]
        · rw [if_neg e]; exact hM.2.2.1 q (by omega)
      · rw [sk_si_at, upd, if_neg (by omega)]; exact hM.2.2.2 x hx
    refine T.ild_2 (q := 8) dX4_compare_7 rfl ?_
    refine T.ald_0 (q := 9) dX4_compare_8 rfl ?_
    refine g_X4_38 rfl dX4_compare_9 (q := 12) rfl ?_
    rw [hM.1 130 (by decide), hV.1]
    refine T.ic_ge (tgt := 105) (q := 15) dX4_compare_12 (by decide) rfl (fun h12 => absurd h12 (nI_ge (by omega) (by omega))) (fun h12 => ?_)
    by_cases hit : l.getD i 0 = t
    · have hz : (0 : Int32) = bitsP (alP (M.1 (0 + 7)) t l i) l.length := (bitsP_no _ (fun j _ z => z.1 hit)).symm
      refine T.iconst (q := 16) (0) dX4_compare_15 rfl (by decide) ?_
      refine T.ist_3 (q := 17) dX4_compare_16 rfl (by decide) (by first | exact sk_ok_i | exact sk_ok_r | exact sk_ok_n) ?_
      refine T.iconst (q := 18) (0) dX4_compare_17 rfl (by decide) ?_
      refine T.ist_4 (q := 20) dX4_compare_18 rfl (by decide) (by first | exact sk_ok_i | exact sk_ok_r | exact sk_ok_n) ?_
      refine T.ild_4 (q := 22) dX4_compare_20 rfl ?_
      refine T.ald_0 (q := 23) dX4_compare_22 rfl ?_
      refine g_X4_38 rfl dX4_compare_23 (q := 26) rfl ?_
      rw [hV2.1]
      refine T.ic_ge (tgt := 87) (q := 29) dX4_compare_26 (by decide) rfl (fun h26 => absurd h26 (nI_ge (a := 0) (by omega) (by have := hV2.2.1; omega))) (fun h26 => ?_)
      refine T.ald_0 (q := 30) dX4_compare_29 rfl ?_
      refine g_X4_15 rfl dX4_compare_30 (q := 33) rfl ?_
      refine T.ild_2 (q := 34) dX4_compare_33 rfl ?_
      refine T.iald (n := 216) rfl rfl (by decide) dX4_compare_34 (q := 35) rfl (vp_in_nI (by omega) (by decide)) ?_
      rw [nI_clamp (by omega), (hV2.2.2.1 i (by omega)).1]
      refine T.ild_1 (q := 36) dX4_compare_35 rfl ?_
      refine T.ic_eq (tgt := 87) (q := 39) dX4_compare_36 (by decide) rfl (fun h36 => ?_) (fun h36 => absurd (ei.mpr hit) h36)
      exact J87 _ _ hz
    refine T.iconst (q := 16) (0) dX4_compare_15 rfl (by decide) ?_
    refine T.ist_3 (q := 17) dX4_compare_16 rfl (by decide) (by first | exact sk_ok_i | exact sk_ok_r | exact sk_ok_n) ?_
    refine T.iconst (q := 18) (0) dX4_compare_17 rfl (by decide) ?_
    refine T.ist_4 (q := 20) dX4_compare_18 rfl (by decide) (by first | exact sk_ok_i | exact sk_ok_r | exact sk_ok_n) ?_
    refine l_compare1 hd ht hf2 hV2 hil hit hc hs ?_ l.length 0 (Nat.zero_add _)
    rintro j rfl
    exact J87 _ _ rfl
theorem c_compare {G : sk_G} {d : Nat} {M : sk_M} {t : Nat} {l : List Nat} (hd : 0 < d) (ht : t < 216) (hV : SV M l) (hl6 : l.length ≤ 6) : Ctr G mX4_compare d 0 0 [.ref (G.2.2.1 130), .int (nI t)] M (rV fun M' => cmF M M' t l) noX := by
  refine Ctr.of 3 (by decide) (Nat.le_of_ble_eq_true rfl) ?_
  refine T.ald_0 (q := 1) dX4_compare_0 rfl ?_
  refine T.ild_1 (q := 2) dX4_compare_1 rfl ?_
  refine k_X4_48 rfl dX4_compare_2 (q := 5) rfl (by omega) (by decide) (by decide) (Nat.le_of_ble_eq_true rfl) (c_face (d := 0) ht) ?_
  rintro M1 hF
  obtain ⟨f1, f2, f3, f4⟩ := hF
  have hV1 : SV M1 l := ⟨by rw [f3 8 (by decide)]; exact hV.1, hV.2.1, fun j hj => by rw [f1 131 (by decide) (by decide)]; exact hV.2.2.1 j hj, fun c hc => by rw [f1 132 (by decide) (by decide)]; exact hV.2.2.2 c hc⟩
  have e7 : M1.1 (0 + 7) = M.1 (0 + 7) := f1 _ (by decide) (by decide)
  refine T.iconst (q := 6) (0) dX4_compare_5 rfl (by decide) ?_
  refine T.ist_2 (q := 7) dX4_compare_6 rfl (by decide) (by first | exact sk_ok_i | exact sk_ok_r | exact sk_ok_n) ?_
  refine l_compare2 (M1 := M1) hd ht f4 hV1 hl6 (Nat.le_refl 0) (Nat.le_refl 0) ?_ l.length 0 (Nat.zero_add _) _ _ _ ⟨fun _ _ => rfl, rfl, fun q h => absurd h (Nat.not_lt_zero q), fun _ _ => rfl⟩
  intro M5 i x3 x4 hM5
  refine T.retV rfl dX4_compare_105 (by decide) (by decide) ⟨fun c h1 h2 h3 => (hM5.1 c h3).trans (f1 c h1 h2), hM5.2.1.trans f2, fun k hk => by rw [hM5.1 130 (by decide)]; exact f3 k hk, fun q hq => by rw [hM5.2.2.1 q hq, e7], fun x hx => by rw [hM5.2.2.2 x hx, f1 135 (by decide) (by decide)]⟩
