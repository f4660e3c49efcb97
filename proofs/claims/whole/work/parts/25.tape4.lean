/-! Tape: numbers and figures -/
theorem l_number {G : sk_G} {E : sk_E} {d mR sR cells slots : Nat} {M : sk_M} {y : Nat → Nat} {n i : Nat} {mo : Int32} (hS : TS M y n i) (hN : isNu y n i) (hk : ∀ q, q = tkE y n i - tkA y n i → TJ G mX6_numberUpTo (sk_R d mR sR) E cells slots 66 [some (.ref (G.2.2.1 121)), some (.int mo), some (.int (nI (nmP y (tkA y n i) q))), some (.int (nI (tkA y n i + q)))] [] M) : ∀ m q : Nat, q + m = tkE y n i - tkA y n i → TJ G mX6_numberUpTo (sk_R d mR sR) E cells slots 32 [some (.ref (G.2.2.1 121)), some (.int mo), some (.int (nI (nmP y (tkA y n i) q))), some (.int (nI (tkA y n i + q)))] [] M := by
  obtain ⟨⟨t1, t2, t3⟩, hin, k1, k2, k3⟩ := hS
  have hle := tk_le (y := y) hin
  obtain ⟨hK, h3⟩ := hN
  have hdg : ∀ q, q < tkE y n i - tkA y n i → isDi y (tkA y n i + q) := fun q h => hle.2.2.2.2.1 hK _ (by omega) (by omega)
  have hlt := nmP_lt (y := y) (a := tkA y n i) (tkE y n i - tkA y n i) hdg
  have hp3 : ∀ q, q ≤ 3 → 10 ^ q ≤ 1000 := by decide
  intro m
  induction m with
  | zero =>
    intro q hq
    refine T.ild_3 (q := 33) dX6_numberUpTo_32 rfl ?_
    refine T.ald_0 (q := 34) dX6_numberUpTo_33 rfl ?_
    refine g_X6_22 rfl dX6_numberUpTo_34 (q := 37) rfl ?_
    rw [k3]
    refine T.ic_ge (tgt := 66) (q := 40) dX6_numberUpTo_37 (by decide) rfl (fun h37 => ?_) (fun h37 => absurd (nI_le (by omega) (by omega)) h37)
    exact hk q (by omega)
  | succ m ih =>
    intro q hq
    have h1 := hlt q (by omega)
    have h2 := hp3 q (by omega)
    have h4 := hdg q (by omega)
    have h5 : 48 ≤ y (tkA y n i + q) ∧ y (tkA y n i + q) ≤ 57 := h4
    refine T.ild_3 (q := 33) dX6_numberUpTo_32 rfl ?_
    refine T.ald_0 (q := 34) dX6_numberUpTo_33 rfl ?_
    refine g_X6_22 rfl dX6_numberUpTo_34 (q := 37) rfl ?_
    rw [k3]
    refine T.ic_ge (tgt := 66) (q := 40) dX6_numberUpTo_37 (by decide) rfl (fun h37 => absurd h37 (nI_ge (by omega) (by omega))) (fun h37 => ?_)
    refine T.ild_2 (q := 41) dX6_numberUpTo_40 rfl ?_
    refine T.iconst (q := 42) (-1) dX6_numberUpTo_41 rfl (by decide) ?_
    refine T.ic_eq (tgt := 66) (q := 45) dX6_numberUpTo_42 (by decide) rfl (fun h42 => absurd h42 (nI_m1 (by omega))) (fun h42 => ?_)
    refine T.bipush (q := 47) (10) dX6_numberUpTo_45 rfl (by decide) ?_
    refine T.ild_2 (q := 48) dX6_numberUpTo_47 rfl ?_
    refine T.imul (q := 49) dX6_numberUpTo_48 rfl ?_
    refine T.ald_0 (q := 50) dX6_numberUpTo_49 rfl ?_
    refine g_X6_11 rfl dX6_numberUpTo_50 (q := 53) rfl ?_
    refine T.ild_3 (q := 54) dX6_numberUpTo_53 rfl ?_
    refine T.iald (n := 400) rfl rfl (by decide) dX6_numberUpTo_54 (q := 55) rfl (vp_in_nI (by omega) (by decide)) ?_
    rw [nI_clamp (by omega), (t3 _ (by omega)).1]
    refine T.iadd (q := 56) dX6_numberUpTo_55 rfl ?_
    refine T.bipush (q := 58) (48) dX6_numberUpTo_56 rfl (by decide) ?_
    refine T.isub (q := 59) dX6_numberUpTo_58 rfl ?_
    rw [show 10 * nI (nmP y (tkA y n i) q) + nI (y (tkA y n i + q)) - 48 = nI (nmP y (tkA y n i) (q + 1)) from (by simp (disch := omega) only [sk_lit, nI_add, pk_mul, pk_sub, nmP]; try (congr 1 <;> omega))]
    refine T.ist_2 (q := 60) dX6_numberUpTo_59 rfl (by decide) (by first | exact sk_ok_i | exact sk_ok_r | exact sk_ok_n) ?_
    refine T.inc_3 (q := 63) (1) dX6_numberUpTo_60 rfl (by decide) (by decide) (by first | exact sk_ok_i | exact sk_ok_r | exact sk_ok_n) ?_
    refine T.goto (tgt := 32) dX6_numberUpTo_63 (by decide) ?_
    rw [nI_1]
    exact ih (q + 1) (by omega)
theorem c_number {G : sk_G} {d : Nat} {M : sk_M} {y : Nat → Nat} {n i : Nat} {mo : Int32} (hd : 0 < d) (hS : TS M y n i) : Ctr G mX6_numberUpTo d 0 0 [.ref (G.2.2.1 121), .int mo] M (rI fun r M' => (isNu y n i ∧ nI (nuV y n i) ≤ mo → r = nI (nuV y n i) ∧ stpI M M' y n (tkE y n i)) ∧ (¬ (isNu y n i ∧ nI (nuV y n i) ≤ mo) → r = -1 ∧ M' = rfM M)) noX := by
  refine Ctr.of 2 (by decide) (Nat.le_of_ble_eq_true rfl) ?_
  obtain ⟨⟨t1, t2, t3⟩, hin, k1, k2, k3⟩ := hS
  have hle := tk_le (y := y) hin
  have hK := tk_K y n i
  have e2 : nI (tkK y n i) = 2 ↔ tkK y n i = 2 := nI_eq (b := 2) (by omega) (by decide)
  have e3 : nI 3 < nI (tkE y n i - tkA y n i) ↔ 3 < tkE y n i - tkA y n i := nI_ltI (by decide) (by omega)
  have J0 : isNu y n i → TJ G mX6_numberUpTo (sk_R d 0 0) (sk_K G 0 0 (rI fun r M' => (isNu y n i ∧ nI (nuV y n i) ≤ mo → r = nI (nuV y n i) ∧ stpI M M' y n (tkE y n i)) ∧ (¬ (isNu y n i ∧ nI (nuV y n i) ≤ mo) → r = -1 ∧ M' = rfM M)) noX) 0 0 26 [some (.ref (G.2.2.1 121)), some (.int mo), none, none] [.int 0] M := by
    intro hN
    have hvl : nuV y n i < 1000 := by
      have h9 := nmP_lt (y := y) (a := tkA y n i) (tkE y n i - tkA y n i) (fun q h => hle.2.2.2.2.1 hN.1 _ (by omega) (by omega)) _ (Nat.le_refl _)
      have hp3 : ∀ q, q ≤ 3 → 10 ^ q ≤ 1000 := by decide
      have := hp3 _ hN.2
      unfold nuV; omega
    refine T.ist_2 (q := 27) dX6_numberUpTo_26 rfl (by decide) (by first | exact sk_ok_i | exact sk_ok_r | exact sk_ok_n) ?_
    refine T.ald_0 (q := 28) dX6_numberUpTo_27 rfl ?_
    refine g_X6_28 rfl dX6_numberUpTo_28 (q := 31) rfl ?_
    refine T.ist_3 (q := 32) dX6_numberUpTo_31 rfl (by decide) (by first | exact sk_ok_i | exact sk_ok_r | exact sk_ok_n) ?_
    rw [k1]
    refine l_number ⟨⟨t1, t2, t3⟩, hin, k1, k2, k3⟩ hN ?_ (tkE y n i - tkA y n i) 0 (Nat.zero_add _)
    rintro q rfl
    rw [show nmP y (tkA y n i) (tkE y n i - tkA y n i) = nuV y n i from rfl]
    refine T.ild_2 (q := 67) dX6_numberUpTo_66 rfl ?_
    refine T.iconst (q := 68) (-1) dX6_numberUpTo_67 rfl (by decide) ?_
    refine T.ic_eq (tgt := 76) (q := 71) dX6_numberUpTo_68 (by decide) rfl (fun h68 => absurd h68 (nI_m1 (by have := hvl; omega))) (fun h68 => ?_)
    refine T.ild_2 (q := 72) dX6_numberUpTo_71 rfl ?_
    refine T.ild_1 (q := 73) dX6_numberUpTo_72 rfl ?_
    refine T.ic_le (tgt := 83) (q := 76) dX6_numberUpTo_73 (by decide) rfl (fun h73 => ?_) (fun h73 => ?_)
    · refine T.ald_0 (q := 84) dX6_numberUpTo_83 rfl ?_
      refine k_X6_25 rfl dX6_numberUpTo_84 (q := 87) rfl (by omega) (by decide) (by decide) (Nat.le_of_ble_eq_true rfl) (c_step (d := 0) ⟨t1, t2, t3⟩ k3 hle.2.2.1) ?_
      rintro M9 hM9
      refine T.ild_2 (q := 88) dX6_numberUpTo_87 rfl ?_
      exact T.retI rfl dX6_numberUpTo_88 (by decide) (by decide) ⟨fun _ => ⟨rfl, hM9⟩, fun z => absurd ⟨hN, h73⟩ z⟩
    · refine T.ald_0 (q := 77) dX6_numberUpTo_76 rfl ?_
      refine k_X6_47 rfl dX6_numberUpTo_77 (q := 80) rfl (by omega) (by decide) (by decide) (Nat.le_of_ble_eq_true rfl) (c_refuse (d := 0)) ?_
      rintro r M9 ⟨rfl, rfl⟩
      refine T.pop (q := 81) dX6_numberUpTo_80 rfl rfl ?_
      refine T.iconst (q := 82) (-1) dX6_numberUpTo_81 rfl (by decide) ?_
      exact T.retI rfl dX6_numberUpTo_82 (by decide) (by decide) ⟨fun z => absurd z.2 h73, fun _ => ⟨rfl, rfl⟩⟩
  have J1 : ¬ isNu y n i → TJ G mX6_numberUpTo (sk_R d 0 0) (sk_K G 0 0 (rI fun r M' => (isNu y n i ∧ nI (nuV y n i) ≤ mo → r = nI (nuV y n i) ∧ stpI M M' y n (tkE y n i)) ∧ (¬ (isNu y n i ∧ nI (nuV y n i) ≤ mo) → r = -1 ∧ M' = rfM M)) noX) 0 0 26 [some (.ref (G.2.2.1 121)), some (.int mo), none, none] [.int (-1)] M := by
    intro hN
    refine T.ist_2 (q := 27) dX6_numberUpTo_26 rfl (by decide) (by first | exact sk_ok_i | exact sk_ok_r | exact sk_ok_n) ?_
    refine T.ald_0 (q := 28) dX6_numberUpTo_27 rfl ?_
    refine g_X6_28 rfl dX6_numberUpTo_28 (q := 31) rfl ?_
    refine T.ist_3 (q := 32) dX6_numberUpTo_31 rfl (by decide) (by first | exact sk_ok_i | exact sk_ok_r | exact sk_ok_n) ?_
    refine T.ild_3 (q := 33) dX6_numberUpTo_32 rfl ?_
    refine T.ald_0 (q := 34) dX6_numberUpTo_33 rfl ?_
    refine g_X6_22 rfl dX6_numberUpTo_34 (q := 37) rfl ?_
    rw [k1, k3]
    refine T.ic_ge (tgt := 66) (q := 40) dX6_numberUpTo_37 (by decide) rfl (fun h37 => ?_) (fun h37 => ?_)
    · refine T.ild_2 (q := 67) dX6_numberUpTo_66 rfl ?_
      refine T.iconst (q := 68) (-1) dX6_numberUpTo_67 rfl (by decide) ?_
      refine T.ic_eq (tgt := 76) (q := 71) dX6_numberUpTo_68 (by decide) rfl (fun h68 => ?_) (fun h68 => absurd rfl h68)
      refine T.ald_0 (q := 77) dX6_numberUpTo_76 rfl ?_
      refine k_X6_47 rfl dX6_numberUpTo_77 (q := 80) rfl (by omega) (by decide) (by decide) (Nat.le_of_ble_eq_true rfl) (c_refuse (d := 0)) ?_
      rintro r M9 ⟨rfl, rfl⟩
      refine T.pop (q := 81) dX6_numberUpTo_80 rfl rfl ?_
      refine T.iconst (q := 82) (-1) dX6_numberUpTo_81 rfl (by decide) ?_
      exact T.retI rfl dX6_numberUpTo_82 (by decide) (by decide) ⟨fun z => absurd z.1 hN, fun _ => ⟨rfl, rfl⟩⟩
    · refine T.ild_2 (q := 41) dX6_numberUpTo_40 rfl ?_
      refine T.iconst (q := 42) (-1) dX6_numberUpTo_41 rfl (by decide) ?_
      refine T.ic_eq (tgt := 66) (q := 45) dX6_numberUpTo_42 (by decide) rfl (fun h42 => ?_) (fun h42 => absurd rfl h42)
      refine T.ild_2 (q := 67) dX6_numberUpTo_66 rfl ?_
      refine T.iconst (q := 68) (-1) dX6_numberUpTo_67 rfl (by decide) ?_
      refine T.ic_eq (tgt := 76) (q := 71) dX6_numberUpTo_68 (by decide) rfl (fun h68 => ?_) (fun h68 => absurd rfl h68)
      refine T.ald_0 (q := 77) dX6_numberUpTo_76 rfl ?_
      refine k_X6_47 rfl dX6_numberUpTo_77 (q := 80) rfl (by omega) (by decide) (by decide) (Nat.le_of_ble_eq_true rfl) (c_refuse (d := 0)) ?_
      rintro r M9 ⟨rfl, rfl⟩
      refine T.pop (q := 81) dX6_numberUpTo_80 rfl rfl ?_
      refine T.iconst (q := 82) (-1) dX6_numberUpTo_81 rfl (by decide) ?_
      exact T.retI rfl dX6_numberUpTo_82 (by decide) (by decide) ⟨fun z => absurd z.1 hN, fun _ => ⟨rfl, rfl⟩⟩
  refine T.ald_0 (q := 1) dX6_numberUpTo_0 rfl ?_
  refine g_X6_31 rfl dX6_numberUpTo_1 (q := 4) rfl ?_
  rw [k2]
  refine T.iconst (q := 5) (2) dX6_numberUpTo_4 rfl (by decide) ?_
  refine T.ic_ne (tgt := 25) (q := 8) dX6_numberUpTo_5 (by decide) rfl (fun h5 => ?_) (fun h5 => ?_)
  · refine T.iconst (q := 26) (-1) dX6_numberUpTo_25 rfl (by decide) ?_
    first | exact J0 ⟨e2.mp h5, Nat.not_lt.mp (fun q => h18 (e3.mpr q))⟩ | exact J1 (fun z => h5 (e2.mpr z.1)) | exact J1 (fun z => Nat.not_lt.mpr z.2 (e3.mp h18))
  · refine T.ald_0 (q := 9) dX6_numberUpTo_8 rfl ?_
    refine g_X6_22 rfl dX6_numberUpTo_9 (q := 12) rfl ?_
    refine T.ald_0 (q := 13) dX6_numberUpTo_12 rfl ?_
    refine g_X6_28 rfl dX6_numberUpTo_13 (q := 16) rfl ?_
    refine T.isub (q := 17) dX6_numberUpTo_16 rfl ?_
    rw [k1, k3, pk_sub hle.2.1]
    refine T.iconst (q := 18) (3) dX6_numberUpTo_17 rfl (by decide) ?_
    refine T.ic_gt (tgt := 25) (q := 21) dX6_numberUpTo_18 (by decide) rfl (fun h18 => ?_) (fun h18 => ?_)
    · refine T.iconst (q := 26) (-1) dX6_numberUpTo_25 rfl (by decide) ?_
      first | exact J0 ⟨e2.mp h5, Nat.not_lt.mp (fun q => h18 (e3.mpr q))⟩ | exact J1 (fun z => h5 (e2.mpr z.1)) | exact J1 (fun z => Nat.not_lt.mpr z.2 (e3.mp h18))
    · refine T.iconst (q := 22) (0) dX6_numberUpTo_21 rfl (by decide) ?_
      refine T.goto (tgt := 26) dX6_numberUpTo_22 (by decide) ?_
      first | exact J0 ⟨e2.mp h5, Nat.not_lt.mp (fun q => h18 (e3.mpr q))⟩ | exact J1 (fun z => h5 (e2.mpr z.1)) | exact J1 (fun z => Nat.not_lt.mpr z.2 (e3.mp h18))
