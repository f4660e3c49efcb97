/-! Sieve: sides, parts, the greatest part -/
theorem l_sidesOf {G : sk_G} {E : sk_E} {d mR sR cells slots : Nat} {M : sk_M} {l : List Nat} {dv : Nat} {x1 : Value} (hV : SV M l) (hdv : 0 < dv) (hd36 : dv ≤ 36) (hc : cells ≤ mR) (hs : slots ≤ sR) (hk : TJ G mX4_sidesOf (sk_R d mR sR) E cells slots 58 [some (.ref (G.2.2.1 130)), some x1, some (.int (nI dv)), some (.int ((l.take (l.length)).foldl (sdS dv) 0)), some (.int (nI (l.length)))] [] M) : ∀ n i : Nat, i + n = l.length → TJ G mX4_sidesOf (sk_R d mR sR) E cells slots 26 [some (.ref (G.2.2.1 130)), some x1, some (.int (nI dv)), some (.int ((l.take i).foldl (sdS dv) 0)), some (.int (nI i))] [] M := by
  intro n
  induction n with
  | zero =>
    intro i hi
    obtain rfl : i = l.length := by omega
    refine T.ild_4 (q := 28) dX4_sidesOf_26 rfl ?_
    refine T.ald_0 (q := 29) dX4_sidesOf_28 rfl ?_
    refine g_X4_38 rfl dX4_sidesOf_29 (q := 32) rfl ?_
    rw [hV.1]
    refine T.ic_ge (tgt := 58) (q := 35) dX4_sidesOf_32 (by decide) rfl (fun h32 => ?_) (fun h32 => absurd (nI_le (Nat.le_refl _) (by have := hV.2.1; omega)) h32)
    exact hk
  | succ n ih =>
    intro i hi
    refine T.ild_4 (q := 28) dX4_sidesOf_26 rfl ?_
    refine T.ald_0 (q := 29) dX4_sidesOf_28 rfl ?_
    refine g_X4_38 rfl dX4_sidesOf_29 (q := 32) rfl ?_
    have hl9 := hV.2.1
    rw [hV.1]
    refine T.ic_ge (tgt := 58) (q := 35) dX4_sidesOf_32 (by decide) rfl (fun h32 => absurd h32 (nI_ge (by omega) (by omega))) (fun h32 => ?_)
    refine T.ild_3 (q := 36) dX4_sidesOf_35 rfl ?_
    refine T.iconst (q := 37) (1) dX4_sidesOf_36 rfl (by decide) ?_
    refine T.ald_0 (q := 38) dX4_sidesOf_37 rfl ?_
    refine g_X4_15 rfl dX4_sidesOf_38 (q := 41) rfl ?_
    refine T.ild_4 (q := 43) dX4_sidesOf_41 rfl ?_
    refine T.iald (n := 216) rfl rfl (by decide) dX4_sidesOf_43 (q := 44) rfl (vp_in_nI (by omega) (by decide)) ?_
    rw [nI_clamp (by omega), (hV.2.2.1 i (by omega)).1]
    have hci := (hV.2.2.1 i (by omega)).2
    refine T.ild_2 (q := 45) dX4_sidesOf_44 rfl ?_
    refine T.idiv (q := 46) dX4_sidesOf_45 rfl (nI_ne0 hdv (by omega)) ?_
    refine T.bipush (q := 48) (6) dX4_sidesOf_46 rfl (by decide) ?_
    refine T.irem (q := 49) dX4_sidesOf_48 rfl (by decide) ?_
    rw [pk_div (by omega) hdv (by omega), sk_lit 6, pk_div (by have := Nat.div_le_self (l.getD i 0) dv; omega) (by decide) (by decide), pk_mul, pk_sub (Nat.div_mul_le_self _ _), sk_mod]
    refine T.ishl (q := 50) dX4_sidesOf_49 rfl ?_
    refine T.ior (q := 51) dX4_sidesOf_50 rfl ?_
    refine T.ist_3 (q := 52) dX4_sidesOf_51 rfl (by decide) (by first | exact sk_ok_i | exact sk_ok_r | exact sk_ok_n) ?_
    refine T.inc_4 (q := 55) (1) dX4_sidesOf_52 rfl (by decide) (by decide) (by first | exact sk_ok_i | exact sk_ok_r | exact sk_ok_n) ?_
    refine T.goto (tgt := 26) dX4_sidesOf_55 (by decide) ?_
    rw [nI_1]
    have hh := ih (i + 1) (by omega)
    rw [fo_s (by omega)] at hh
    exact hh
theorem c_sidesOf {G : sk_G} {d : Nat} {M : sk_M} {l : List Nat} {w : Nat} (hw : w < 3) (hV : SV M l) : Ctr G mX4_sidesOf d 0 0 [.ref (G.2.2.1 130), .int (nI w)] M (rI fun r M' => r = l.foldl (sdS (dvs w)) 0 ∧ M' = M) noX := by
  refine Ctr.of 3 (by decide) (Nat.le_of_ble_eq_true rfl) ?_
  have J20 : ∀ z : Int32, z = nI (dvs w) → TJ G mX4_sidesOf (sk_R d 0 0) (sk_K G 0 0 (rI fun r M' => r = l.foldl (sdS (dvs w)) 0 ∧ M' = M) noX) 0 0 20 [some (.ref (G.2.2.1 130)), some (.int (nI w)), none, none, none] [.int z] M := by
    rintro z rfl
    refine T.ist_2 (q := 21) dX4_sidesOf_20 rfl (by decide) (by first | exact sk_ok_i | exact sk_ok_r | exact sk_ok_n) ?_
    refine T.iconst (q := 22) (0) dX4_sidesOf_21 rfl (by decide) ?_
    refine T.ist_3 (q := 23) dX4_sidesOf_22 rfl (by decide) (by first | exact sk_ok_i | exact sk_ok_r | exact sk_ok_n) ?_
    refine T.iconst (q := 24) (0) dX4_sidesOf_23 rfl (by decide) ?_
    refine T.ist_4 (q := 26) dX4_sidesOf_24 rfl (by decide) (by first | exact sk_ok_i | exact sk_ok_r | exact sk_ok_n) ?_
    refine l_sidesOf (dv := dvs w) hV (by unfold dvs; split <;> (try split) <;> decide) (by unfold dvs; split <;> (try split) <;> decide) (Nat.le_refl 0) (Nat.le_refl 0) ?_ l.length 0 (Nat.zero_add _)
    refine T.ild_3 (q := 59) dX4_sidesOf_58 rfl ?_
    exact T.retI rfl dX4_sidesOf_59 (by decide) (by decide) ⟨by rw [List.take_length], rfl⟩
  refine T.ild_1 (q := 1) dX4_sidesOf_0 rfl ?_
  refine T.if_ne (tgt := 9) (q := 4) dX4_sidesOf_1 (by decide) rfl (fun h1 => ?_) (fun h1 => ?_)
  · refine T.ild_1 (q := 10) dX4_sidesOf_9 rfl ?_
    refine T.iconst (q := 11) (1) dX4_sidesOf_10 rfl (by decide) ?_
    refine T.ic_ne (tgt := 19) (q := 14) dX4_sidesOf_11 (by decide) rfl (fun h11 => ?_) (fun h11 => ?_)
    · refine T.iconst (q := 20) (1) dX4_sidesOf_19 rfl (by decide) ?_
      refine J20 _ ?_
      have w0 : nI w = 0 ↔ w = 0 := nI_eq (b := 0) (by omega) (by decide)
      have w1 : nI w = 1 ↔ w = 1 := nI_eq (b := 1) (by omega) (by decide)
      unfold dvs
      first | (rw [if_pos (w0.mp h1)]; rfl) | (rw [if_neg (fun q => h1 (w0.mpr q)), if_pos (w1.mp h11)]; rfl) | (rw [if_neg (fun q => h1 (w0.mpr q)), if_neg (fun q => h11 (w1.mpr q))]; rfl)
    · refine T.bipush (q := 16) (6) dX4_sidesOf_14 rfl (by decide) ?_
      refine T.goto (tgt := 20) dX4_sidesOf_16 (by decide) ?_
      refine J20 _ ?_
      have w0 : nI w = 0 ↔ w = 0 := nI_eq (b := 0) (by omega) (by decide)
      have w1 : nI w = 1 ↔ w = 1 := nI_eq (b := 1) (by omega) (by decide)
      unfold dvs
      first | (rw [if_pos (w0.mp h1)]; rfl) | (rw [if_neg (fun q => h1 (w0.mpr q)), if_pos (w1.mp h11)]; rfl) | (rw [if_neg (fun q => h1 (w0.mpr q)), if_neg (fun q => h11 (w1.mpr q))]; rfl)
  · refine T.bipush (q := 6) (36) dX4_sidesOf_4 rfl (by decide) ?_
    refine T.goto (tgt := 20) dX4_sidesOf_6 (by decide) ?_
    refine J20 _ ?_
    have w0 : nI w = 0 ↔ w = 0 := nI_eq (b := 0) (by omega) (by decide)
    have w1 : nI w = 1 ↔ w = 1 := nI_eq (b := 1) (by omega) (by decide)
    unfold dvs
    first | (rw [if_pos (w0.mp h1)]; rfl) | (rw [if_neg (fun q => h1 (w0.mpr q)), if_pos (w1.mp h11)]; rfl) | (rw [if_neg (fun q => h1 (w0.mpr q)), if_neg (fun q => h11 (w1.mpr q))]; rfl)
theorem l_partsBy {G : sk_G} {E : sk_E} {d mR sR cells slots : Nat} {M0 : sk_M} {t fl : Nat} {l : List Nat} (hd : 1 < d) (ht : t < 216) (hB : clB (M0.1 (0 + 7))) (hV : SV M0 l) (hc : cells ≤ mR) (hs : slots ≤ sR) (hk : ∀ M i, ptI M0 M t l l.length fl → ∀ pv, pv = nI (trF (M0.1 (0 + 7)) t l).2.1 → TJ G mX4_partsBy (sk_R d mR sR) E cells slots 58 [some (.ref (G.2.2.1 130)), some (.int (nI t)), some (.int pv), some (.int (nI i))] [] M) : ∀ n i : Nat, i + n = l.length → ∀ M pv, ptI M0 M t l i fl → pv = nI (trF (M0.1 (0 + 7)) t (l.take i)).2.1 → TJ G mX4_partsBy (sk_R d mR sR) E cells slots 13 [some (.ref (G.2.2.1 130)), some (.int (nI t)), some (.int pv), some (.int (nI i))] [] M := by
  have hl9 := hV.2.1
  intro n
  induction n with
  | zero =>
    intro i hi M pv hM hpv
    obtain rfl : i = l.length := by omega
    rw [List.take_length] at hpv
    have hV2 := SV_sw hV hM.1
    refine T.ild_3 (q := 14) dX4_partsBy_13 rfl ?_
    refine T.ald_0 (q := 15) dX4_partsBy_14 rfl ?_
    refine g_X4_38 rfl dX4_partsBy_15 (q := 18) rfl ?_
    rw [hV2.1]
    refine T.ic_ge (tgt := 58) (q := 21) dX4_partsBy_18 (by decide) rfl (fun h18 => ?_) (fun h18 => absurd (nI_le (Nat.le_refl _) (by omega)) h18)
    exact hk _ _ hM _ hpv
  | succ n ih =>
    intro i hi M pv hM hpv
    subst hpv
    have hil : i < l.length := by omega
    have hV2 := SV_sw hV hM.1
    have hci := (hV2.2.2.1 i hil).2
    have hsl := slN_ok hB ht hci
    have hle := trF_le (f := (M0.1 (0 + 7))) (t := t) (l := l) i (by omega)
    have e7 : M.1 (0 + 7) = (M0.1 (0 + 7)) := hM.1.1 _ (by decide) (by decide) (by decide)
    have ec : nI (l.getD i 0) = nI t ↔ l.getD i 0 = t := nI_eq (by omega) (by omega)
    refine T.ild_3 (q := 14) dX4_partsBy_13 rfl ?_
    refine T.ald_0 (q := 15) dX4_partsBy_14 rfl ?_
    refine g_X4_38 rfl dX4_partsBy_15 (q := 18) rfl ?_
    rw [hV2.1]
    refine T.ic_ge (tgt := 58) (q := 21) dX4_partsBy_18 (by decide) rfl (fun h18 => absurd h18 (nI_ge (by omega) (by omega))) (fun h18 => ?_)
    refine T.ald_0 (q := 22) dX4_partsBy_21 rfl ?_
    refine g_X4_15 rfl dX4_partsBy_22 (q := 25) rfl ?_
    refine T.ild_3 (q := 26) dX4_partsBy_25 rfl ?_
    refine T.iald (n := 216) rfl rfl (by decide) dX4_partsBy_26 (q := 27) rfl (vp_in_nI (by omega) (by decide)) ?_
    rw [nI_clamp (by omega), (hV2.2.2.1 i hil).1]
    refine T.ild_1 (q := 28) dX4_partsBy_27 rfl ?_
    refine T.ic_eq (tgt := 49) (q := 31) dX4_partsBy_28 (by decide) rfl (fun h28 => ?_) (fun h28 => ?_)
    · refine T.inc_2 (q := 52) (1) dX4_partsBy_49 rfl (by decide) (by decide) (by first | exact sk_ok_i | exact sk_ok_r | exact sk_ok_n) ?_
      refine T.inc_3 (q := 55) (1) dX4_partsBy_52 rfl (by decide) (by decide) (by first | exact sk_ok_i | exact sk_ok_r | exact sk_ok_n) ?_
      refine T.goto (tgt := 13) dX4_partsBy_55 (by decide) ?_
      rw [nI_1 i]
      refine ih (i + 1) (by omega) _ _ (by first | exact pt_a hM hil (ec.mp h28) | exact pt_b hM hil (fun q => h28 (ec.mpr q)) hT9 hA9) ?_
      rw [trF_s hil, trS]
      first | (rw [if_pos (ec.mp h28), nI_1]; done) | (rw [if_neg (fun q => h28 (ec.mpr q))]; have e1 := nI_eq (a := (trF (M0.1 (0 + 7)) t (l.take i)).1 (slN (M0.1 (0 + 7)) t (l.getD i 0)) + 1) (b := 1) (by have := hle.1 (slN (M0.1 (0 + 7)) t (l.getD i 0)); omega) (by decide); first | (rw [if_pos (show (trF (M0.1 (0 + 7)) t (l.take i)).1 (slN (M0.1 (0 + 7)) t (l.getD i 0)) = 0 by have := e1.mp h46; omega), nI_1]; done) | (rw [if_neg (show ¬ (trF (M0.1 (0 + 7)) t (l.take i)).1 (slN (M0.1 (0 + 7)) t (l.getD i 0)) = 0 by intro q; exact h46 (e1.mpr (by omega)))]; rfl))
    · refine T.ald_0 (q := 32) dX4_partsBy_31 rfl ?_
      refine T.ald_0 (q := 33) dX4_partsBy_32 rfl ?_
      refine T.ald_0 (q := 34) dX4_partsBy_33 rfl ?_
      refine g_X4_15 rfl dX4_partsBy_34 (q := 37) rfl ?_
      refine T.ild_3 (q := 38) dX4_partsBy_37 rfl ?_
      refine T.iald (n := 216) rfl rfl (by decide) dX4_partsBy_38 (q := 39) rfl (vp_in_nI (by omega) (by decide)) ?_
      rw [nI_clamp (by omega), (hV2.2.2.1 i hil).1]
      refine k_X4_52 rfl dX4_partsBy_39 (q := 42) rfl (by omega) hc hs (Nat.le_of_ble_eq_true rfl) (c_slotOf (d := 0) hci hM.2.1) ?_
      rintro r M9 ⟨rfl, hM9⟩
      obtain rfl := hM9.symm
      rw [e7, hsl.1]
      refine k_X4_81 rfl dX4_partsBy_42 (q := 45) rfl (by omega) hc hs (Nat.le_of_ble_eq_true rfl) (c_countOne (d := 0 + 1) (by decide) hsl.2 hM.2.2 (by have := hle.1 (slN (M0.1 (0 + 7)) t (l.getD i 0)); omega)) ?_
      rintro r M9 ⟨rfl, hT9, hA9⟩
      refine T.iconst (q := 46) (1) dX4_partsBy_45 rfl (by decide) ?_
      refine T.ic_ne (tgt := 52) (q := 49) dX4_partsBy_46 (by decide) rfl (fun h46 => ?_) (fun h46 => ?_)
      · refine T.inc_3 (q := 55) (1) dX4_partsBy_52 rfl (by decide) (by decide) (by first | exact sk_ok_i | exact sk_ok_r | exact sk_ok_n) ?_
        refine T.goto (tgt := 13) dX4_partsBy_55 (by decide) ?_
        rw [nI_1 i]
        refine ih (i + 1) (by omega) _ _ (by first | exact pt_a hM hil (ec.mp h28) | exact pt_b hM hil (fun q => h28 (ec.mpr q)) hT9 hA9) ?_
        rw [trF_s hil, trS]
        first | (rw [if_pos (ec.mp h28), nI_1]; done) | (rw [if_neg (fun q => h28 (ec.mpr q))]; have e1 := nI_eq (a := (trF (M0.1 (0 + 7)) t (l.take i)).1 (slN (M0.1 (0 + 7)) t (l.getD i 0)) + 1) (b := 1) (by have := hle.1 (slN (M0.1 (0 + 7)) t (l.getD i 0)); omega) (by decide); first | (rw [if_pos (show (trF (M0.1 (0 + 7)) t (l.take i)).1 (slN (M0.1 (0 + 7)) t (l.getD i 0)) = 0 by have := e1.mp h46; omega), nI_1]; done) | (rw [if_neg (show ¬ (trF (M0.1 (0 + 7)) t (l.take i)).1 (slN (M0.1 (0 + 7)) t (l.getD i 0)) = 0 by intro q; exact h46 (e1.mpr (by omega)))]; rfl))
      · refine T.inc_2 (q := 52) (1) dX4_partsBy_49 rfl (by decide) (by decide) (by first | exact sk_ok_i | exact sk_ok_r | exact sk_ok_n) ?_
        refine T.inc_3 (q := 55) (1) dX4_partsBy_52 rfl (by decide) (by decide) (by first | exact sk_ok_i | exact sk_ok_r | exact sk_ok_n) ?_
        refine T.goto (tgt := 13) dX4_partsBy_55 (by decide) ?_
        rw [nI_1 i]
        refine ih (i + 1) (by omega) _ _ (by first | exact pt_a hM hil (ec.mp h28) | exact pt_b hM hil (fun q => h28 (ec.mpr q)) hT9 hA9) ?_
        rw [trF_s hil, trS]
        first | (rw [if_pos (ec.mp h28), nI_1]; done) | (rw [if_neg (fun q => h28 (ec.mpr q))]; have e1 := nI_eq (a := (trF (M0.1 (0 + 7)) t (l.take i)).1 (slN (M0.1 (0 + 7)) t (l.getD i 0)) + 1) (b := 1) (by have := hle.1 (slN (M0.1 (0 + 7)) t (l.getD i 0)); omega) (by decide); first | (rw [if_pos (show (trF (M0.1 (0 + 7)) t (l.take i)).1 (slN (M0.1 (0 + 7)) t (l.getD i 0)) = 0 by have := e1.mp h46; omega), nI_1]; done) | (rw [if_neg (show ¬ (trF (M0.1 (0 + 7)) t (l.take i)).1 (slN (M0.1 (0 + 7)) t (l.getD i 0)) = 0 by intro q; exact h46 (e1.mpr (by omega)))]; rfl))
theorem c_partsBy {G : sk_G} {d : Nat} {M : sk_M} {t : Nat} {l : List Nat} (hd : 1 < d) (ht : t < 216) (hB : clB (M.1 (0 + 7))) (hV : SV M l) (hT : TB M) : Ctr G mX4_partsBy d 0 0 [.ref (G.2.2.1 130), .int (nI t)] M (rI fun r M' => r = nI (trF (M.1 (0 + 7)) t l).2.1 ∧ swF M M' ∧ TB M') noX := by
  refine Ctr.of 2 (by decide) (Nat.le_of_ble_eq_true rfl) ?_
  refine T.ald_0 (q := 1) dX4_partsBy_0 rfl ?_
  refine T.ild_1 (q := 2) dX4_partsBy_1 rfl ?_
  refine k_X4_48 rfl dX4_partsBy_2 (q := 5) rfl (by omega) (by decide) (by decide) (Nat.le_of_ble_eq_true rfl) (c_face (d := 0) ht) ?_
  rintro M1 hF
  refine T.ald_0 (q := 6) dX4_partsBy_5 rfl ?_
  refine k_X4_78 rfl dX4_partsBy_6 (q := 9) rfl (by omega) (by decide) (by decide) (Nat.le_of_ble_eq_true rfl) (c_startTally (d := 1) (by decide) (TB_fc hT hF)) ?_
  rintro M2 ⟨hT2, fl, hA2⟩
  refine T.iconst (q := 10) (0) dX4_partsBy_9 rfl (by decide) ?_
  refine T.ist_2 (q := 11) dX4_partsBy_10 rfl (by decide) (by first | exact sk_ok_i | exact sk_ok_r | exact sk_ok_n) ?_
  refine T.iconst (q := 12) (0) dX4_partsBy_11 rfl (by decide) ?_
  refine T.ist_3 (q := 13) dX4_partsBy_12 rfl (by decide) (by first | exact sk_ok_i | exact sk_ok_r | exact sk_ok_n) ?_
  refine l_partsBy (M0 := M) (fl := fl) (l := l) (by omega) ht hB hV (Nat.le_refl 0) (Nat.le_refl 0) ?_ l.length 0 (Nat.zero_add _) M2 _ ⟨swF_tl (swF_fc hF) hT2, faced_tl hF.2.2.2 hT2, hA2⟩ rfl
  rintro M5 i hM5 pv rfl
  refine T.ild_2 (q := 59) dX4_partsBy_58 rfl ?_
  exact T.retI rfl dX4_partsBy_59 (by decide) (by decide) ⟨rfl, hM5.1, ⟨_, _, hM5.2.2⟩⟩
theorem l_greatest {G : sk_G} {E : sk_E} {d mR sR cells slots : Nat} {M0 : sk_M} {t fl lim : Nat} {l : List Nat} (hd : 1 < d) (ht : t < 216) (hB : clB (M0.1 (0 + 7))) (hV : SV M0 l) (hlim : lim < 1000) (hc : cells ≤ mR) (hs : slots ≤ sR) (hk : ∀ M i k, swF M0 M → TB M → k ≤ (trF (M0.1 (0 + 7)) t l).2.2 → (k < lim → k = (trF (M0.1 (0 + 7)) t l).2.2) → ∀ pv, pv = nI k → TJ G mX4_greatestPart (sk_R d mR sR) E cells slots 69 [some (.ref (G.2.2.1 130)), some (.int (nI t)), some (.int (nI lim)), some (.int pv), some (.int (nI i))] [] M) : ∀ n i : Nat, i + n = l.length → ∀ M pv, ptI M0 M t l i fl → pv = nI (trF (M0.1 (0 + 7)) t (l.take i)).2.2 → TJ G mX4_greatestPart (sk_R d mR sR) E cells slots 14 [some (.ref (G.2.2.1 130)), some (.int (nI t)), some (.int (nI lim)), some (.int pv), some (.int (nI i))] [] M := by
  have hl9 := hV.2.1
  intro n
  induction n with
  | zero =>
    intro i hi M pv hM hpv
    obtain rfl : i = l.length := by omega
    rw [List.take_length] at hpv
    have hV2 := SV_sw hV hM.1
    refine T.ild_4 (q := 16) dX4_greatestPart_14 rfl ?_
    refine T.ald_0 (q := 17) dX4_greatestPart_16 rfl ?_
    refine g_X4_38 rfl dX4_greatestPart_17 (q := 20) rfl ?_
    rw [hV2.1]
    refine T.ic_ge (tgt := 69) (q := 23) dX4_greatestPart_20 (by decide) rfl (fun h20 => ?_) (fun h20 => absurd (nI_le (Nat.le_refl _) (by omega)) h20)
    exact hk _ _ _ hM.1 ⟨_, _, hM.2.2⟩ (Nat.le_refl _) (fun _ => rfl) _ hpv
  | succ n ih =>
    intro i hi M pv hM hpv
    subst hpv
    have hil : i < l.length := by omega
    have hV2 := SV_sw hV hM.1
    have hci := (hV2.2.2.1 i hil).2
    have hsl := slN_ok hB ht hci
    have hle := trF_le (f := (M0.1 (0 + 7))) (t := t) (l := l) i (by omega)
    have hmo := trF_mono (f := (M0.1 (0 + 7))) (t := t) (l := l) (i := i) (n + 1) (by omega)
    rw [hi, List.take_length] at hmo
    have e7 : M.1 (0 + 7) = (M0.1 (0 + 7)) := hM.1.1 _ (by decide) (by decide) (by decide)
    have ec : nI (l.getD i 0) = nI t ↔ l.getD i 0 = t := nI_eq (by omega) (by omega)
    refine T.ild_4 (q := 16) dX4_greatestPart_14 rfl ?_
    refine T.ald_0 (q := 17) dX4_greatestPart_16 rfl ?_
    refine g_X4_38 rfl dX4_greatestPart_17 (q := 20) rfl ?_
    rw [hV2.1]
    refine T.ic_ge (tgt := 69) (q := 23) dX4_greatestPart_20 (by decide) rfl (fun h20 => absurd h20 (nI_ge (by omega) (by omega))) (fun h20 => ?_)
    refine T.ild_3 (q := 24) dX4_greatestPart_23 rfl ?_
    refine T.ild_2 (q := 25) dX4_greatestPart_24 rfl ?_
    refine T.ic_ge (tgt := 69) (q := 28) dX4_greatestPart_25 (by decide) rfl (fun h25 => ?_) (fun h25 => ?_)
    · exact hk _ _ _ hM.1 ⟨_, _, hM.2.2⟩ hmo (fun q => absurd q (Nat.not_lt.mpr ((nI_leI (by omega) (by have := hle.2.2; omega)).mp h25))) _ rfl
    · refine T.ild_3 (q := 29) dX4_greatestPart_28 rfl ?_
      refine T.ald_0 (q := 30) dX4_greatestPart_29 rfl ?_
      refine g_X4_15 rfl dX4_greatestPart_30 (q := 33) rfl ?_
      refine T.ild_4 (q := 35) dX4_greatestPart_33 rfl ?_
      refine T.iald (n := 216) rfl rfl (by decide) dX4_greatestPart_35 (q := 36) rfl (vp_in_nI (by omega) (by decide)) ?_
      rw [nI_clamp (by omega), (hV2.2.2.1 i hil).1]
      refine T.ild_1 (q := 37) dX4_greatestPart_36 rfl ?_
      refine T.ic_ne (tgt := 44) (q := 40) dX4_greatestPart_37 (by decide) rfl (fun h37 => ?_) (fun h37 => ?_)
      · refine T.ald_0 (q := 45) dX4_greatestPart_44 rfl ?_
        refine T.ald_0 (q := 46) dX4_greatestPart_45 rfl ?_
        refine T.ald_0 (q := 47) dX4_greatestPart_46 rfl ?_
        refine g_X4_15 rfl dX4_greatestPart_47 (q := 50) rfl ?_
        refine T.ild_4 (q := 52) dX4_greatestPart_50 rfl ?_
        refine T.iald (n := 216) rfl rfl (by decide) dX4_greatestPart_52 (q := 53) rfl (vp_in_nI (by omega) (by decide)) ?_
        rw [nI_clamp (by omega), (hV2.2.2.1 i hil).1]
        refine k_X4_52 rfl dX4_greatestPart_53 (q := 56) rfl (by omega) hc hs (Nat.le_of_ble_eq_true rfl) (c_slotOf (d := 0) hci hM.2.1) ?_
        rintro r M9 ⟨rfl, hM9⟩
        obtain rfl := hM9.symm
        rw [e7, hsl.1]
        refine k_X4_81 rfl dX4_greatestPart_56 (q := 59) rfl (by omega) hc hs (Nat.le_of_ble_eq_true rfl) (c_countOne (d := 0 + 1) (by decide) hsl.2 hM.2.2 (by have := hle.1 (slN (M0.1 (0 + 7)) t (l.getD i 0)); omega)) ?_
        rintro r M9 ⟨rfl, hT9, hA9⟩
        refine k_X4_72 rfl dX4_greatestPart_59 (q := 62) rfl (by omega) hc hs (Nat.le_of_ble_eq_true rfl) ?_
        first | rw [sk_lit 1, nImax (by have := hle.2.2; omega) (by decide)] | rw [nImax (by have := hle.2.2; omega) (by have := hle.1 (slN (M0.1 (0 + 7)) t (l.getD i 0)); omega)]
        refine T.ist_3 (q := 63) dX4_greatestPart_62 rfl (by decide) (by first | exact sk_ok_i | exact sk_ok_r | exact sk_ok_n) ?_
        refine T.inc_4 (q := 66) (1) dX4_greatestPart_63 rfl (by decide) (by decide) (by first | exact sk_ok_i | exact sk_ok_r | exact sk_ok_n) ?_
        refine T.goto (tgt := 14) dX4_greatestPart_66 (by decide) ?_
        rw [nI_1 i]
        refine ih (i + 1) (by omega) _ _ (by first | exact pt_a hM hil (ec.mp h37) | exact pt_b hM hil (fun q => h37 (ec.mpr q)) hT9 hA9) ?_
        rw [trF_s hil, trS]
        first | rw [if_pos (ec.mp h37)] | rw [if_neg (fun q => h37 (ec.mpr q))]
      · refine T.iconst (q := 41) (1) dX4_greatestPart_40 rfl (by decide) ?_
        refine T.goto (tgt := 59) dX4_greatestPart_41 (by decide) ?_
        refine k_X4_72 rfl dX4_greatestPart_59 (q := 62) rfl (by omega) hc hs (Nat.le_of_ble_eq_true rfl) ?_
        first | rw [sk_lit 1, nImax (by have := hle.2.2; omega) (by decide)] | rw [nImax (by have := hle.2.2; omega) (by have := hle.1 (slN (M0.1 (0 + 7)) t (l.getD i 0)); omega)]
        refine T.ist_3 (q := 63) dX4_greatestPart_62 rfl (by decide) (by first | exact sk_ok_i | exact sk_ok_r | exact sk_ok_n) ?_
        refine T.inc_4 (q := 66) (1) dX4_greatestPart_63 rfl (by decide) (by decide) (by first | exact sk_ok_i | exact sk_ok_r | exact sk_ok_n) ?_
        refine T.goto (tgt := 14) dX4_greatestPart_66 (by decide) ?_
        rw [nI_1 i]
        refine ih (i + 1) (by omega) _ _ (by first | exact pt_a hM hil (ec.mp h37) | exact pt_b hM hil (fun q => h37 (ec.mpr q)) hT9 hA9) ?_
        rw [trF_s hil, trS]
        first | rw [if_pos (ec.mp h37)] | rw [if_neg (fun q => h37 (ec.mpr q))]
theorem c_greatest {G : sk_G} {d : Nat} {M : sk_M} {t lim : Nat} {l : List Nat} (hd : 1 < d) (ht : t < 216) (hlim : lim < 1000) (hB : clB (M.1 (0 + 7))) (hV : SV M l) (hT : TB M) : Ctr G mX4_greatestPart d 0 0 [.ref (G.2.2.1 130), .int (nI t), .int (nI lim)] M (rI fun r M' => (∃ k, r = nI k ∧ k ≤ (trF (M.1 (0 + 7)) t l).2.2 ∧ (k < lim → k = (trF (M.1 (0 + 7)) t l).2.2)) ∧ swF M M' ∧ TB M') noX := by
  refine Ctr.of 2 (by decide) (Nat.le_of_ble_eq_true rfl) ?_
  refine T.ald_0 (q := 1) dX4_greatestPart_0 rfl ?_
  refine T.ild_1 (q := 2) dX4_greatestPart_1 rfl ?_
  refine k_X4_48 rfl dX4_greatestPart_2 (q := 5) rfl (by omega) (by decide) (by decide) (Nat.le_of_ble_eq_true rfl) (c_face (d := 0) ht) ?_
  rintro M1 hF
  refine T.ald_0 (q := 6) dX4_greatestPart_5 rfl ?_
  refine k_X4_78 rfl dX4_greatestPart_6 (q := 9) rfl (by omega) (by decide) (by decide) (Nat.le_of_ble_eq_true rfl) (c_startTally (d := 1) (by decide) (TB_fc hT hF)) ?_
  rintro M2 ⟨hT2, fl, hA2⟩
  refine T.iconst (q := 10) (0) dX4_greatestPart_9 rfl (by decide) ?_
  refine T.ist_3 (q := 11) dX4_greatestPart_10 rfl (by decide) (by first | exact sk_ok_i | exact sk_ok_r | exact sk_ok_n) ?_
  refine T.iconst (q := 12) (0) dX4_greatestPart_11 rfl (by decide) ?_
  refine T.ist_4 (q := 14) dX4_greatestPart_12 rfl (by decide) (by first | exact sk_ok_i | exact sk_ok_r | exact sk_ok_n) ?_
  refine l_greatest (M0 := M) (fl := fl) (l := l) (by omega) ht hB hV hlim (Nat.le_refl 0) (Nat.le_refl 0) ?_ l.length 0 (Nat.zero_add _) M2 _ ⟨swF_tl (swF_fc hF) hT2, faced_tl hF.2.2.2 hT2, hA2⟩ rfl
  rintro M5 i k hM5 hT5 hk1 hk2 pv rfl
  refine T.ild_3 (q := 70) dX4_greatestPart_69 rfl ?_
  exact T.retI rfl dX4_greatestPart_70 (by decide) (by decide) ⟨⟨k, rfl, hk1, hk2⟩, hM5, hT5⟩
