/-! Sieve: the row of codes that can be -/
theorem l_load {G : sk_G} {E : sk_E} {d mR sR cells slots : Nat} {M0 : sk_M} {p v : Nat} (hd : 1 < d) (hp : p < 6) (hv : v < 6) (hc : cells ≤ mR) (hs : slots ≤ sR) (hk : ∀ M i, loI M0 M (kbit (M0.2 (0 + 9)) (4 * (6 * p + v))) 216 → TJ G mX4_load (sk_R d mR sR) E cells slots 65 [some (.ref (G.2.2.1 130)), some (.int (nI p)), some (.int (nI v)), some (.int (nI i))] [] M) : ∀ n i : Nat, i + n = 216 → ∀ M, loI M0 M (kbit (M0.2 (0 + 9)) (4 * (6 * p + v))) i → TJ G mX4_load (sk_R d mR sR) E cells slots 7 [some (.ref (G.2.2.1 130)), some (.int (nI p)), some (.int (nI v)), some (.int (nI i))] [] M := by
  intro n
  induction n with
  | zero =>
    intro i hi M hM
    obtain rfl : i = 216 := by omega
    refine T.ild_3 (q := 8) dX4_load_7 rfl ?_
    refine T.sipush (q := 11) (216) dX4_load_8 rfl (by decide) ?_
    refine T.ic_ge (tgt := 65) (q := 14) dX4_load_11 (by decide) rfl (fun h11 => ?_) (fun h11 => absurd (nI_le (a := 216) (b := 216) (Nat.le_refl _) (by decide)) h11)
    exact hk _ _ hM
  | succ n ih =>
    intro i hi M hM
    have hle := enl_len (kbit (M0.2 (0 + 9)) (4 * (6 * p + v))) i
    refine T.ild_3 (q := 8) dX4_load_7 rfl ?_
    refine T.sipush (q := 11) (216) dX4_load_8 rfl (by decide) ?_
    refine T.ic_ge (tgt := 65) (q := 14) dX4_load_11 (by decide) rfl (fun h11 => absurd h11 (nI_ge (a := i) (b := 216) (by omega) (by decide))) (fun h11 => ?_)
    refine T.ald_0 (q := 15) dX4_load_14 rfl ?_
    refine g_X4_19 rfl dX4_load_15 (q := 18) rfl ?_
    refine T.ild_3 (q := 19) dX4_load_18 rfl ?_
    refine T.ald_0 (q := 20) dX4_load_19 rfl ?_
    refine g_X4_9 rfl dX4_load_20 (q := 23) rfl ?_
    refine T.ild_1 (q := 24) dX4_load_23 rfl ?_
    refine T.ild_2 (q := 25) dX4_load_24 rfl ?_
    refine T.ild_3 (q := 26) dX4_load_25 rfl ?_
    refine k_X4_42 sk_s0 rfl dX4_load_26 (q := 29) rfl (by omega) hc hs (Nat.le_of_ble_eq_true rfl) (c_canBe (d := 1) (by decide) sk_s0 hp hv (by omega)) ?_
    rintro r M9 ⟨rfl, hM9⟩
    obtain rfl := hM9.symm
    rw [hM.1.2.1]
    refine T.zast (n := 216) rfl rfl (by decide) dX4_load_29 (q := 30) rfl (vp_in_nI (by omega) (by decide)) ?_
    rw [nI_clamp (by omega), nar_bI]
    refine T.ald_0 (q := 31) dX4_load_30 rfl ?_
    refine g_X4_19 rfl dX4_load_31 (q := 34) rfl ?_
    refine T.ild_3 (q := 35) dX4_load_34 rfl ?_
    refine T.zald (n := 216) rfl rfl (by decide) dX4_load_35 (q := 36) rfl (vp_in_nI (by omega) (by decide)) ?_
    rw [nI_clamp (by omega), sk_si_at, show upd (M.1 132) i (bI ((kbit (M0.2 (0 + 9)) (4 * (6 * p + v))) i)) i = bI ((kbit (M0.2 (0 + 9)) (4 * (6 * p + v))) i) from by rw [upd, if_pos rfl]]
    refine T.if_eq (tgt := 59) (q := 39) dX4_load_36 (by decide) rfl (fun h36 => ?_) (fun h36 => ?_)
    · have hst : ∃ M9, loI M0 M9 (kbit (M0.2 (0 + 9)) (4 * (6 * p + v))) (i + 1) ∧ M9 = _ := ⟨_, by first | exact loI_t hM (bI_n.mp h36) | exact loI_f hM (bI_z.mp h36), rfl⟩
      obtain ⟨M9, hM9, rfl⟩ := hst
      refine T.inc_3 (q := 62) (1) dX4_load_59 rfl (by decide) (by decide) (by first | exact sk_ok_i | exact sk_ok_r | exact sk_ok_n) ?_
      refine T.goto (tgt := 7) dX4_load_62 (by decide) ?_
      rw [nI_1]
      exact ih (i + 1) (by omega) _ hM9
    · refine T.ald_0 (q := 40) dX4_load_39 rfl ?_
      refine g_X4_15 rfl dX4_load_40 (q := 43) rfl ?_
      refine T.ald_0 (q := 44) dX4_load_43 rfl ?_
      refine g_X4_38 rfl dX4_load_44 (q := 47) rfl ?_
      rw [sk_si_ne (by decide), hM.2.1]
      refine T.ild_3 (q := 48) dX4_load_47 rfl ?_
      refine T.iast (n := 216) rfl rfl (by decide) dX4_load_48 (q := 49) rfl (vp_in_nI (by omega) (by decide)) ?_
      rw [nI_clamp (by omega)]
      refine T.ald_0 (q := 50) dX4_load_49 rfl ?_
      refine T.dup (q := 51) dX4_load_50 rfl rfl ?_
      refine g_X4_38 rfl dX4_load_51 (q := 54) rfl ?_
      rw [sk_si_ne (by decide), sk_si_ne (by decide), hM.2.1]
      refine T.iconst (q := 55) (1) dX4_load_54 rfl (by decide) ?_
      refine T.iadd (q := 56) dX4_load_55 rfl ?_
      rw [nI_1]
      refine p_X4_38 rfl dX4_load_56 (q := 59) rfl ?_
      have hst : ∃ M9, loI M0 M9 (kbit (M0.2 (0 + 9)) (4 * (6 * p + v))) (i + 1) ∧ M9 = _ := ⟨_, by first | exact loI_t hM (bI_n.mp h36) | exact loI_f hM (bI_z.mp h36), rfl⟩
      obtain ⟨M9, hM9, rfl⟩ := hst
      refine T.inc_3 (q := 62) (1) dX4_load_59 rfl (by decide) (by decide) (by first | exact sk_ok_i | exact sk_ok_r | exact sk_ok_n) ?_
      refine T.goto (tgt := 7) dX4_load_62 (by decide) ?_
      rw [nI_1]
      exact ih (i + 1) (by omega) _ hM9
theorem c_load {G : sk_G} {d : Nat} {M : sk_M} {p v : Nat} (hd : 1 < d) (hp : p < 6) (hv : v < 6) : Ctr G mX4_load d 0 0 [.ref (G.2.2.1 130), .int (nI p), .int (nI v)] M (rV fun M' => svF M M' ∧ SV M' (enl (kbit (M.2 (0 + 9)) (4 * (6 * p + v))) 216)) noX := by
  refine Ctr.of 1 (by decide) (Nat.le_of_ble_eq_true rfl) ?_
  refine T.ald_0 (q := 1) dX4_load_0 rfl ?_
  refine T.iconst (q := 2) (0) dX4_load_1 rfl (by decide) ?_
  refine p_X4_38 rfl dX4_load_2 (q := 5) rfl ?_
  refine T.iconst (q := 6) (0) dX4_load_5 rfl (by decide) ?_
  refine T.ist_3 (q := 7) dX4_load_6 rfl (by decide) (by first | exact sk_ok_i | exact sk_ok_r | exact sk_ok_n) ?_
  refine l_load (M0 := M) hd hp hv (Nat.le_refl 0) (Nat.le_refl 0) ?_ 216 0 rfl _ ⟨⟨fun c h1 _ _ => sk_si_ne h1, rfl, fun k hk => by rw [sk_si_at, upd, if_neg hk]⟩, by rw [sk_si_at]; rfl, fun j h => absurd h (Nat.not_lt_zero j), fun c h => absurd h (Nat.not_lt_zero c)⟩
  intro M5 i hM5
  exact T.retV rfl dX4_load_65 (by decide) (by decide) (loI_SV hM5)
theorem l_loadAllBut {G : sk_G} {E : sk_E} {d mR sR cells slots : Nat} {M0 : sk_M} {t : Nat} (ht : t < 216) (hc : cells ≤ mR) (hs : slots ≤ sR) (hk : ∀ M i, loI M0 M (fun c => c ≠ t) 216 → TJ G mX4_loadAllBut (sk_R d mR sR) E cells slots 65 [some (.ref (G.2.2.1 130)), some (.int (nI t)), some (.int (nI i))] [] M) : ∀ n i : Nat, i + n = 216 → ∀ M, loI M0 M (fun c => c ≠ t) i → TJ G mX4_loadAllBut (sk_R d mR sR) E cells slots 7 [some (.ref (G.2.2.1 130)), some (.int (nI t)), some (.int (nI i))] [] M := by
  intro n
  induction n with
  | zero =>
    intro i hi M hM
    obtain rfl : i = 216 := by omega
    refine T.ild_2 (q := 8) dX4_loadAllBut_7 rfl ?_
    refine T.sipush (q := 11) (216) dX4_loadAllBut_8 rfl (by decide) ?_
    refine T.ic_ge (tgt := 65) (q := 14) dX4_loadAllBut_11 (by decide) rfl (fun h11 => ?_) (fun h11 => absurd (nI_le (a := 216) (b := 216) (Nat.le_refl _) (by decide)) h11)
    exact hk _ _ hM
  | succ n ih =>
    intro i hi M hM
    have hle := enl_len (fun c => c ≠ t) i
    refine T.ild_2 (q := 8) dX4_loadAllBut_7 rfl ?_
    refine T.sipush (q := 11) (216) dX4_loadAllBut_8 rfl (by decide) ?_
    refine T.ic_ge (tgt := 65) (q := 14) dX4_loadAllBut_11 (by decide) rfl (fun h11 => absurd h11 (nI_ge (a := i) (b := 216) (by omega) (by decide))) (fun h11 => ?_)
    have J29 : ∀ z : Int32, z = bI (i ≠ t) → TJ G mX4_loadAllBut (sk_R d mR sR) E cells slots 29 [some (.ref (G.2.2.1 130)), some (.int (nI t)), some (.int (nI i))] [.int z, .int (nI i), .ref (G.2.2.1 132)] M := by
      rintro z rfl
      refine T.zast (n := 216) rfl rfl (by decide) dX4_loadAllBut_29 (q := 30) rfl (vp_in_nI (by omega) (by decide)) ?_
      rw [nI_clamp (by omega), nar_bI]
      refine T.ald_0 (q := 31) dX4_loadAllBut_30 rfl ?_
      refine g_X4_19 rfl dX4_loadAllBut_31 (q := 34) rfl ?_
      refine T.ild_2 (q := 35) dX4_loadAllBut_34 rfl ?_
      refine T.zald (n := 216) rfl rfl (by decide) dX4_loadAllBut_35 (q := 36) rfl (vp_in_nI (by omega) (by decide)) ?_
      rw [nI_clamp (by omega), sk_si_at, show upd (M.1 132) i (bI ((fun c => c ≠ t) i)) i = bI ((fun c => c ≠ t) i) from by rw [upd, if_pos rfl]]
      refine T.if_eq (tgt := 59) (q := 39) dX4_loadAllBut_36 (by decide) rfl (fun h36 => ?_) (fun h36 => ?_)
      · have hst : ∃ M9, loI M0 M9 (fun c => c ≠ t) (i + 1) ∧ M9 = _ := ⟨_, by first | exact loI_t hM (bI_n.mp h36) | exact loI_f hM (bI_z.mp h36), rfl⟩
        obtain ⟨M9, hM9, rfl⟩ := hst
        refine T.inc_2 (q := 62) (1) dX4_loadAllBut_59 rfl (by decide) (by decide) (by first | exact sk_ok_i | exact sk_ok_r | exact sk_ok_n) ?_
        refine T.goto (tgt := 7) dX4_loadAllBut_62 (by decide) ?_
        rw [nI_1]
        exact ih (i + 1) (by omega) _ hM9
      · refine T.ald_0 (q := 40) dX4_loadAllBut_39 rfl ?_
        refine g_X4_15 rfl dX4_loadAllBut_40 (q := 43) rfl ?_
        refine T.ald_0 (q := 44) dX4_loadAllBut_43 rfl ?_
        refine g_X4_38 rfl dX4_loadAllBut_44 (q := 47) rfl ?_
        rw [sk_si_ne (by decide), hM.2.1]
        refine T.ild_2 (q := 48) dX4_loadAllBut_47 rfl ?_
        refine T.iast (n := 216) rfl rfl (by decide) dX4_loadAllBut_48 (q := 49) rfl (vp_in_nI (by omega) (by decide)) ?_
        rw [nI_clamp (by omega)]
        refine T.ald_0 (q := 50) dX4_loadAllBut_49 rfl ?_
        refine T.dup (q := 51) dX4_loadAllBut_50 rfl rfl ?_
        refine g_X4_38 rfl dX4_loadAllBut_51 (q := 54) rfl ?_
        rw [sk_si_ne (by decide), sk_si_ne (by decide), hM.2.1]
        refine T.iconst (q := 55) (1) dX4_loadAllBut_54 rfl (by decide) ?_
        refine T.iadd (q := 56) dX4_loadAllBut_55 rfl ?_
        rw [nI_1]
        refine p_X4_38 rfl dX4_loadAllBut_56 (q := 59) rfl ?_
        have hst : ∃ M9, loI M0 M9 (fun c => c ≠ t) (i + 1) ∧ M9 = _ := ⟨_, by first | exact loI_t hM (bI_n.mp h36) | exact loI_f hM (bI_z.mp h36), rfl⟩
        obtain ⟨M9, hM9, rfl⟩ := hst
        refine T.inc_2 (q := 62) (1) dX4_loadAllBut_59 rfl (by decide) (by decide) (by first | exact sk_ok_i | exact sk_ok_r | exact sk_ok_n) ?_
        refine T.goto (tgt := 7) dX4_loadAllBut_62 (by decide) ?_
        rw [nI_1]
        exact ih (i + 1) (by omega) _ hM9
    refine T.ald_0 (q := 15) dX4_loadAllBut_14 rfl ?_
    refine g_X4_19 rfl dX4_loadAllBut_15 (q := 18) rfl ?_
    refine T.ild_2 (q := 19) dX4_loadAllBut_18 rfl ?_
    refine T.ild_2 (q := 20) dX4_loadAllBut_19 rfl ?_
    refine T.ild_1 (q := 21) dX4_loadAllBut_20 rfl ?_
    refine T.ic_eq (tgt := 28) (q := 24) dX4_loadAllBut_21 (by decide) rfl (fun h21 => ?_) (fun h21 => ?_)
    · refine T.iconst (q := 29) (0) dX4_loadAllBut_28 rfl (by decide) ?_
      exact J29 _ (by first | exact (bI_t (p := i ≠ t) (fun q => h21 (by rw [q]))).symm | exact (bI_f (p := i ≠ t) (fun q => q ((nI_eq (by omega) (by omega)).mp h21))).symm)
    · refine T.iconst (q := 25) (1) dX4_loadAllBut_24 rfl (by decide) ?_
      refine T.goto (tgt := 29) dX4_loadAllBut_25 (by decide) ?_
      exact J29 _ (by first | exact (bI_t (p := i ≠ t) (fun q => h21 (by rw [q]))).symm | exact (bI_f (p := i ≠ t) (fun q => q ((nI_eq (by omega) (by omega)).mp h21))).symm)
theorem c_loadAllBut {G : sk_G} {d : Nat} {M : sk_M} {t : Nat} (ht : t < 216) : Ctr G mX4_loadAllBut d 0 0 [.ref (G.2.2.1 130), .int (nI t)] M (rV fun M' => svF M M' ∧ SV M' (enl (fun c => c ≠ t) 216)) noX := by
  refine Ctr.of 1 (by decide) (Nat.le_of_ble_eq_true rfl) ?_
  refine T.ald_0 (q := 1) dX4_loadAllBut_0 rfl ?_
  refine T.iconst (q := 2) (0) dX4_loadAllBut_1 rfl (by decide) ?_
  refine p_X4_38 rfl dX4_loadAllBut_2 (q := 5) rfl ?_
  refine T.iconst (q := 6) (0) dX4_loadAllBut_5 rfl (by decide) ?_
  refine T.ist_2 (q := 7) dX4_loadAllBut_6 rfl (by decide) (by first | exact sk_ok_i | exact sk_ok_r | exact sk_ok_n) ?_
  refine l_loadAllBut (M0 := M) ht (Nat.le_refl 0) (Nat.le_refl 0) ?_ 216 0 rfl _ ⟨⟨fun c h1 _ _ => sk_si_ne h1, rfl, fun k hk => by rw [sk_si_at, upd, if_neg hk]⟩, by rw [sk_si_at]; rfl, fun j h => absurd h (Nat.not_lt_zero j), fun c h => absurd h (Nat.not_lt_zero c)⟩
  intro M5 i hM5
  exact T.retV rfl dX4_loadAllBut_65 (by decide) (by decide) (loI_SV hM5)
