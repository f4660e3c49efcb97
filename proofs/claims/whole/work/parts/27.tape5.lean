/-! Tape: the figures of a code -/
theorem e_figures {G : sk_G} {d : Nat} {M : sk_M} {y : Nat → Nat} {n i : Nat} {z x2 : Int32} {x3 : Option Value} (hd : 0 < d) (hS : TS M y n i) (hz : (isFg y n i ∧ z = nI (fgV y n i)) ∨ (¬ isFg y n i ∧ z = -1)) : TJ G mX6_figures (sk_R d 0 0) (sk_K G 0 0 (rI fun r M' => (isFg y n i → r = nI (fgV y n i) ∧ stpI M M' y n (tkE y n i)) ∧ (¬ isFg y n i → r = -1 ∧ M' = rfM M)) noX) 0 0 78 [some (.ref (G.2.2.1 121)), some (.int z), some (.int x2), x3] [] M := by
  obtain ⟨⟨t1, t2, t3⟩, hin, k1, k2, k3⟩ := hS
  have hle := tk_le (y := y) hin
  rcases hz with ⟨hF, rfl⟩ | ⟨hF, rfl⟩
  · have hvl : fgV y n i < 216 := fgP_lt (y := y) (a := tkA y n i) 3 hF.2.2 3 (Nat.le_refl 3)
    refine T.ild_1 (q := 79) dX6_figures_78 rfl ?_
    refine T.iconst (q := 80) (-1) dX6_figures_79 rfl (by decide) ?_
    refine T.ic_ne (tgt := 90) (q := 83) dX6_figures_80 (by decide) rfl (fun h80 => ?_) (fun h80 => absurd h80 (nI_m1 (by omega)))
    refine T.ald_0 (q := 91) dX6_figures_90 rfl ?_
    refine k_X6_25 rfl dX6_figures_91 (q := 94) rfl (by omega) (by decide) (by decide) (Nat.le_of_ble_eq_true rfl) (c_step (d := 0) ⟨t1, t2, t3⟩ k3 hle.2.2.1) ?_
    rintro M9 hM9
    refine T.ild_1 (q := 95) dX6_figures_94 rfl ?_
    exact T.retI rfl dX6_figures_95 (by decide) (by decide) ⟨fun _ => ⟨rfl, hM9⟩, fun q => absurd hF q⟩
  · refine T.ild_1 (q := 79) dX6_figures_78 rfl ?_
    refine T.iconst (q := 80) (-1) dX6_figures_79 rfl (by decide) ?_
    refine T.ic_ne (tgt := 90) (q := 83) dX6_figures_80 (by decide) rfl (fun h80 => absurd rfl h80) (fun h80 => ?_)
    refine T.ald_0 (q := 84) dX6_figures_83 rfl ?_
    refine k_X6_47 rfl dX6_figures_84 (q := 87) rfl (by omega) (by decide) (by decide) (Nat.le_of_ble_eq_true rfl) (c_refuse (d := 0)) ?_
    rintro r M9 ⟨rfl, rfl⟩
    refine T.pop (q := 88) dX6_figures_87 rfl rfl ?_
    refine T.iconst (q := 89) (-1) dX6_figures_88 rfl (by decide) ?_
    exact T.retI rfl dX6_figures_89 (by decide) (by decide) ⟨fun q => absurd q hF, fun _ => ⟨rfl, rfl⟩⟩
theorem l_figures {G : sk_G} {d : Nat} {M : sk_M} {y : Nat → Nat} {n i : Nat} (hd : 0 < d) (hS : TS M y n i) (hK : tkK y n i = 2) (h3 : tkE y n i - tkA y n i = 3) : ∀ m q : Nat, q + m = 3 → (∀ r, r < q → y (tkA y n i + r) - 48 < 6) → ∀ x3, TJ G mX6_figures (sk_R d 0 0) (sk_K G 0 0 (rI fun r M' => (isFg y n i → r = nI (fgV y n i) ∧ stpI M M' y n (tkE y n i)) ∧ (¬ isFg y n i → r = -1 ∧ M' = rfM M)) noX) 0 0 32 [some (.ref (G.2.2.1 121)), some (.int (nI (fgP y (tkA y n i) q))), some (.int (nI (tkA y n i + q))), x3] [] M := by
  have hS2 := hS
  obtain ⟨⟨t1, t2, t3⟩, hin, k1, k2, k3⟩ := hS
  have hle := tk_le (y := y) hin
  have hdg : ∀ q, q < 3 → 48 ≤ y (tkA y n i + q) ∧ y (tkA y n i + q) ≤ 57 := fun q h => hle.2.2.2.2.1 hK _ (by omega) (by omega)
  have hp3 : ∀ q, q ≤ 3 → 6 ^ q ≤ 216 := by decide
  intro m
  induction m with
  | zero =>
    intro q hq hF x3
    obtain rfl : q = 3 := by omega
    refine T.ild_2 (q := 33) dX6_figures_32 rfl ?_
    refine T.ald_0 (q := 34) dX6_figures_33 rfl ?_
    refine g_X6_22 rfl dX6_figures_34 (q := 37) rfl ?_
    rw [k3]
    refine T.ic_ge (tgt := 78) (q := 40) dX6_figures_37 (by decide) rfl (fun h37 => ?_) (fun h37 => absurd (nI_le (by omega) (by omega)) h37)
    exact e_figures hd hS2 (Or.inl ⟨⟨hK, h3, hF⟩, rfl⟩)
  | succ m ih =>
    intro q hq hF x3
    have h1 := fgP_lt (y := y) (a := tkA y n i) q hF q (Nat.le_refl q)
    have h2 := hp3 q (by omega)
    have h5 := hdg q (by omega)
    refine T.ild_2 (q := 33) dX6_figures_32 rfl ?_
    refine T.ald_0 (q := 34) dX6_figures_33 rfl ?_
    refine g_X6_22 rfl dX6_figures_34 (q := 37) rfl ?_
    rw [k3]
    refine T.ic_ge (tgt := 78) (q := 40) dX6_figures_37 (by decide) rfl (fun h37 => absurd h37 (nI_ge (by omega) (by omega))) (fun h37 => ?_)
    refine T.ild_1 (q := 41) dX6_figures_40 rfl ?_
    refine T.iconst (q := 42) (-1) dX6_figures_41 rfl (by decide) ?_
    refine T.ic_eq (tgt := 78) (q := 45) dX6_figures_42 (by decide) rfl (fun h42 => absurd h42 (nI_m1 (by omega))) (fun h42 => ?_)
    refine T.ald_0 (q := 46) dX6_figures_45 rfl ?_
    refine g_X6_11 rfl dX6_figures_46 (q := 49) rfl ?_
    refine T.ild_2 (q := 50) dX6_figures_49 rfl ?_
    refine T.iald (n := 400) rfl rfl (by decide) dX6_figures_50 (q := 51) rfl (vp_in_nI (by omega) (by decide)) ?_
    rw [nI_clamp (by omega), (t3 _ (by omega)).1]
    refine T.bipush (q := 53) (48) dX6_figures_51 rfl (by decide) ?_
    refine T.isub (q := 54) dX6_figures_53 rfl ?_
    rw [sk_lit 48, pk_sub h5.1]
    refine T.ist_3 (q := 55) dX6_figures_54 rfl (by decide) (by first | exact sk_ok_i | exact sk_ok_r | exact sk_ok_n) ?_
    refine T.ild_3 (q := 56) dX6_figures_55 rfl ?_
    refine T.bipush (q := 58) (6) dX6_figures_56 rfl (by decide) ?_
    refine T.ic_ge (tgt := 70) (q := 61) dX6_figures_58 (by decide) rfl (fun h58 => ?_) (fun h58 => ?_)
    · refine T.iconst (q := 71) (-1) dX6_figures_70 rfl (by decide) ?_
      first
        | (have hlt6 : y (tkA y n i + q) - 48 < 6 := Nat.not_le.mp (fun z => h58 ((nI_leI (a := 6) (by decide) (by omega)).mpr z))
           rw [show 6 * nI (fgP y (tkA y n i) q) + nI (y (tkA y n i + q) - 48) = nI (fgP y (tkA y n i) (q + 1)) from (by simp (disch := omega) only [sk_lit, nI_add, pk_mul, fgP])]
           refine T.ist_1 (q := 72) dX6_figures_71 rfl (by decide) sk_ok_r ?_
           refine T.inc_2 (q := 75) (1) dX6_figures_72 rfl (by decide) (by decide) sk_ok_i ?_
           refine T.goto (tgt := 32) dX6_figures_75 (by decide) ?_
           rw [nI_1]
           refine ih (q + 1) (by omega) (fun r hr => ?_) _
           rcases Nat.lt_succ_iff_lt_or_eq.mp hr with z | z
           · exact hF r z
           · rw [z]; exact hlt6)
        | (have hnf : ¬ isFg y n i := fun z => Nat.not_le.mpr (z.2.2 q (by omega)) ((nI_leI (a := 6) (by decide) (by omega)).mp h58)
           refine T.ist_1 (q := 72) dX6_figures_71 rfl (by decide) sk_ok_r ?_
           refine T.inc_2 (q := 75) (1) dX6_figures_72 rfl (by decide) (by decide) sk_ok_i ?_
           refine T.goto (tgt := 32) dX6_figures_75 (by decide) ?_
           refine T.ild_2 (q := 33) dX6_figures_32 rfl ?_
           refine T.ald_0 (q := 34) dX6_figures_33 rfl ?_
           refine g_X6_22 rfl dX6_figures_34 (q := 37) rfl ?_
           refine T.ic_ge (tgt := 78) (q := 40) dX6_figures_37 (by decide) rfl (fun _ => ?_) (fun _ => ?_)
           · exact e_figures hd hS2 (Or.inr ⟨hnf, rfl⟩)
           · refine T.ild_1 (q := 41) dX6_figures_40 rfl ?_
             refine T.iconst (q := 42) (-1) dX6_figures_41 rfl (by decide) ?_
             refine T.ic_eq (tgt := 78) (q := 45) dX6_figures_42 (by decide) rfl (fun _ => ?_) (fun h => absurd rfl h)
             exact e_figures hd hS2 (Or.inr ⟨hnf, rfl⟩))
    · refine T.bipush (q := 63) (6) dX6_figures_61 rfl (by decide) ?_
      refine T.ild_1 (q := 64) dX6_figures_63 rfl ?_
      refine T.imul (q := 65) dX6_figures_64 rfl ?_
      refine T.ild_3 (q := 66) dX6_figures_65 rfl ?_
      refine T.iadd (q := 67) dX6_figures_66 rfl ?_
      refine T.goto (tgt := 71) dX6_figures_67 (by decide) ?_
      first
        | (have hlt6 : y (tkA y n i + q) - 48 < 6 := Nat.not_le.mp (fun z => h58 ((nI_leI (a := 6) (by decide) (by omega)).mpr z))
           rw [show 6 * nI (fgP y (tkA y n i) q) + nI (y (tkA y n i + q) - 48) = nI (fgP y (tkA y n i) (q + 1)) from (by simp (disch := omega) only [sk_lit, nI_add, pk_mul, fgP])]
           refine T.ist_1 (q := 72) dX6_figures_71 rfl (by decide) sk_ok_r ?_
           refine T.inc_2 (q := 75) (1) dX6_figures_72 rfl (by decide) (by decide) sk_ok_i ?_
           refine T.goto (tgt := 32) dX6_figures_75 (by decide) ?_
           rw [nI_1]
           refine ih (q + 1) (by omega) (fun r hr => ?_) _
           rcases Nat.lt_succ_iff_lt_or_eq.mp hr with z | z
           · exact hF r z
           · rw [z]; exact hlt6)
        | (have hnf : ¬ isFg y n i := fun z => Nat.not_le.mpr (z.2.2 q (by omega)) ((nI_leI (a := 6) (by decide) (by omega)).mp h58)
           refine T.ist_1 (q := 72) dX6_figures_71 rfl (by decide) sk_ok_r ?_
           refine T.inc_2 (q := 75) (1) dX6_figures_72 rfl (by decide) (by decide) sk_ok_i ?_
           refine T.goto (tgt := 32) dX6_figures_75 (by decide) ?_
           refine T.ild_2 (q := 33) dX6_figures_32 rfl ?_
           refine T.ald_0 (q := 34) dX6_figures_33 rfl ?_
           refine g_X6_22 rfl dX6_figures_34 (q := 37) rfl ?_
           refine T.ic_ge (tgt := 78) (q := 40) dX6_figures_37 (by decide) rfl (fun _ => ?_) (fun _ => ?_)
           · exact e_figures hd hS2 (Or.inr ⟨hnf, rfl⟩)
           · refine T.ild_1 (q := 41) dX6_figures_40 rfl ?_
             refine T.iconst (q := 42) (-1) dX6_figures_41 rfl (by decide) ?_
             refine T.ic_eq (tgt := 78) (q := 45) dX6_figures_42 (by decide) rfl (fun _ => ?_) (fun h => absurd rfl h)
             exact e_figures hd hS2 (Or.inr ⟨hnf, rfl⟩))
theorem c_figures {G : sk_G} {d : Nat} {M : sk_M} {y : Nat → Nat} {n i : Nat} (hd : 0 < d) (hS : TS M y n i) : Ctr G mX6_figures d 0 0 [.ref (G.2.2.1 121)] M (rI fun r M' => (isFg y n i → r = nI (fgV y n i) ∧ stpI M M' y n (tkE y n i)) ∧ (¬ isFg y n i → r = -1 ∧ M' = rfM M)) noX := by
  refine Ctr.of 3 (by decide) (Nat.le_of_ble_eq_true rfl) ?_
  have hS2 := hS
  obtain ⟨⟨t1, t2, t3⟩, hin, k1, k2, k3⟩ := hS
  have hle := tk_le (y := y) hin
  have hK := tk_K y n i
  have e2 : nI (tkK y n i) = 2 ↔ tkK y n i = 2 := nI_eq (b := 2) (by omega) (by decide)
  have e3 : nI (tkE y n i - tkA y n i) = 3 ↔ tkE y n i - tkA y n i = 3 := nI_eq (b := 3) (by omega) (by decide)
  have J1 : ¬ isFg y n i → TJ G mX6_figures (sk_R d 0 0) (sk_K G 0 0 (rI fun r M' => (isFg y n i → r = nI (fgV y n i) ∧ stpI M M' y n (tkE y n i)) ∧ (¬ isFg y n i → r = -1 ∧ M' = rfM M)) noX) 0 0 26 [some (.ref (G.2.2.1 121)), none, none, none] [.int (-1)] M := by
    intro hN
    refine T.ist_1 (q := 27) dX6_figures_26 rfl (by decide) (by first | exact sk_ok_i | exact sk_ok_r | exact sk_ok_n) ?_
    refine T.ald_0 (q := 28) dX6_figures_27 rfl ?_
    refine g_X6_28 rfl dX6_figures_28 (q := 31) rfl ?_
    refine T.ist_2 (q := 32) dX6_figures_31 rfl (by decide) (by first | exact sk_ok_i | exact sk_ok_r | exact sk_ok_n) ?_
    refine T.ild_2 (q := 33) dX6_figures_32 rfl ?_
    refine T.ald_0 (q := 34) dX6_figures_33 rfl ?_
    refine g_X6_22 rfl dX6_figures_34 (q := 37) rfl ?_
    refine T.ic_ge (tgt := 78) (q := 40) dX6_figures_37 (by decide) rfl (fun h37 => ?_) (fun h37 => ?_)
    · exact e_figures hd hS2 (Or.inr ⟨hN, rfl⟩)
    · refine T.ild_1 (q := 41) dX6_figures_40 rfl ?_
      refine T.iconst (q := 42) (-1) dX6_figures_41 rfl (by decide) ?_
      refine T.ic_eq (tgt := 78) (q := 45) dX6_figures_42 (by decide) rfl (fun h42 => ?_) (fun h42 => absurd rfl h42)
      exact e_figures hd hS2 (Or.inr ⟨hN, rfl⟩)
  refine T.ald_0 (q := 1) dX6_figures_0 rfl ?_
  refine g_X6_31 rfl dX6_figures_1 (q := 4) rfl ?_
  rw [k2]
  refine T.iconst (q := 5) (2) dX6_figures_4 rfl (by decide) ?_
  refine T.ic_ne (tgt := 25) (q := 8) dX6_figures_5 (by decide) rfl (fun h5 => ?_) (fun h5 => ?_)
  · refine T.iconst (q := 26) (-1) dX6_figures_25 rfl (by decide) ?_
    first
      | exact J1 (fun z => h5 (e2.mpr z.1))
      | exact J1 (fun z => h18 (e3.mpr z.2.1))
      | (refine T.ist_1 (q := 27) dX6_figures_26 rfl (by decide) sk_ok_r ?_
         refine T.ald_0 (q := 28) dX6_figures_27 rfl ?_
         refine g_X6_28 rfl dX6_figures_28 (q := 31) rfl ?_
         refine T.ist_2 (q := 32) dX6_figures_31 rfl (by decide) sk_ok_i ?_
         rw [k1]
         exact l_figures hd hS2 (e2.mp h5) (e3.mp h18) 3 0 rfl (fun r h => absurd h (Nat.not_lt_zero r)) _)
  · refine T.ald_0 (q := 9) dX6_figures_8 rfl ?_
    refine g_X6_22 rfl dX6_figures_9 (q := 12) rfl ?_
    refine T.ald_0 (q := 13) dX6_figures_12 rfl ?_
    refine g_X6_28 rfl dX6_figures_13 (q := 16) rfl ?_
    refine T.isub (q := 17) dX6_figures_16 rfl ?_
    rw [k1, k3, pk_sub hle.2.1]
    refine T.iconst (q := 18) (3) dX6_figures_17 rfl (by decide) ?_
    refine T.ic_ne (tgt := 25) (q := 21) dX6_figures_18 (by decide) rfl (fun h18 => ?_) (fun h18 => ?_)
    · refine T.iconst (q := 26) (-1) dX6_figures_25 rfl (by decide) ?_
      first
        | exact J1 (fun z => h5 (e2.mpr z.1))
        | exact J1 (fun z => h18 (e3.mpr z.2.1))
        | (refine T.ist_1 (q := 27) dX6_figures_26 rfl (by decide) sk_ok_r ?_
           refine T.ald_0 (q := 28) dX6_figures_27 rfl ?_
           refine g_X6_28 rfl dX6_figures_28 (q := 31) rfl ?_
           refine T.ist_2 (q := 32) dX6_figures_31 rfl (by decide) sk_ok_i ?_
           rw [k1]
           exact l_figures hd hS2 (e2.mp h5) (e3.mp h18) 3 0 rfl (fun r h => absurd h (Nat.not_lt_zero r)) _)
    · refine T.iconst (q := 22) (0) dX6_figures_21 rfl (by decide) ?_
      refine T.goto (tgt := 26) dX6_figures_22 (by decide) ?_
      first
        | exact J1 (fun z => h5 (e2.mpr z.1))
        | exact J1 (fun z => h18 (e3.mpr z.2.1))
        | (refine T.ist_1 (q := 27) dX6_figures_26 rfl (by decide) sk_ok_r ?_
           refine T.ald_0 (q := 28) dX6_figures_27 rfl ?_
           refine g_X6_28 rfl dX6_figures_28 (q := 31) rfl ?_
           refine T.ist_2 (q := 32) dX6_figures_31 rfl (by decide) sk_ok_i ?_
           rw [k1]
           exact l_figures hd hS2 (e2.mp h5) (e3.mp h18) 3 0 rfl (fun r h => absurd h (Nat.not_lt_zero r)) _)
