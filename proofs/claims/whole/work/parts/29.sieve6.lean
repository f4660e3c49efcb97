/-! bits as numbers; what is needed behind a turning -/
theorem l_neededBehind {G : sk_G} {E : sk_E} {d mR sR cells slots : Nat} {M : sk_M} {t s len : Nat} {nd al : Nat → Nat} (hd : 0 < d) (ht : t < 216) (hs6 : s < 64) (hsz : M.1 130 8 = nI len) (hl6 : len ≤ 6) (hal : ∀ i, i < len → M.1 135 (6 * t + i) = nI (al i)) (hnd : ∀ x, x ≤ s → M.1 136 x = nI (nd x) ∧ nd x ≤ 100) (hc : cells ≤ mR) (hs : slots ≤ sR) (hk : TJ G mX4_neededBehind (sk_R d mR sR) E cells slots 54 [some (.ref (G.2.2.1 130)), some (.int (nI t)), some (.int (nI s)), some (.int (nI (nbP nd al s (len)))), some (.int (nI (len)))] [] M) : ∀ n i : Nat, i + n = len → TJ G mX4_neededBehind (sk_R d mR sR) E cells slots 5 [some (.ref (G.2.2.1 130)), some (.int (nI t)), some (.int (nI s)), some (.int (nI (nbP nd al s i))), some (.int (nI i))] [] M := by
  intro n
  induction n with
  | zero =>
    intro i hi
    obtain rfl : i = len := by omega
    refine T.ild_4 (q := 7) dX4_neededBehind_5 rfl ?_
    refine T.ald_0 (q := 8) dX4_neededBehind_7 rfl ?_
    refine g_X4_38 rfl dX4_neededBehind_8 (q := 11) rfl ?_
    rw [hsz]
    refine T.ic_ge (tgt := 54) (q := 14) dX4_neededBehind_11 (by decide) rfl (fun h11 => ?_) (fun h11 => absurd (nI_le (Nat.le_refl _) (by omega)) h11)
    exact hk
  | succ n ih =>
    intro i hi
    refine T.ild_4 (q := 7) dX4_neededBehind_5 rfl ?_
    refine T.ald_0 (q := 8) dX4_neededBehind_7 rfl ?_
    refine g_X4_38 rfl dX4_neededBehind_8 (q := 11) rfl ?_
    rw [hsz]
    refine T.ic_ge (tgt := 54) (q := 14) dX4_neededBehind_11 (by decide) rfl (fun h11 => absurd h11 (nI_ge (by omega) (by omega))) (fun h11 => ?_)
    have hx : al i &&& s < 64 := Nat.lt_of_le_of_lt Nat.and_le_right hs6
    have hb := nbP_le (nd := nd) (al := al) (s := s) (b := 100) (fun x h => (hnd x (by omega)).2) i
    have htb := hasB_tb (s := s) (i := i) (by omega) (by omega)
    refine T.ild_2 (q := 15) dX4_neededBehind_14 rfl ?_
    refine T.ild_4 (q := 17) dX4_neededBehind_15 rfl ?_
    refine T.ishr (q := 18) dX4_neededBehind_17 rfl ?_
    refine T.iconst (q := 19) (1) dX4_neededBehind_18 rfl (by decide) ?_
    refine T.iand (q := 20) dX4_neededBehind_19 rfl ?_
    refine T.iconst (q := 21) (1) dX4_neededBehind_20 rfl (by decide) ?_
    refine T.ic_ne (tgt := 48) (q := 24) dX4_neededBehind_21 (by decide) rfl (fun h21 => ?_) (fun h21 => ?_)
    · have hh := ih (i + 1) (by omega)
      rw [nbP] at hh
      first | rw [if_pos (htb.mp h21)] at hh | rw [if_neg (fun q => h21 (htb.mpr q))] at hh
      refine T.inc_4 (q := 51) (1) dX4_neededBehind_48 rfl (by decide) (by decide) (by first | exact sk_ok_i | exact sk_ok_r | exact sk_ok_n) ?_
      refine T.goto (tgt := 5) dX4_neededBehind_51 (by decide) ?_
      rw [nI_1 i]
      exact hh
    · refine T.ild_3 (q := 25) dX4_neededBehind_24 rfl ?_
      refine T.ald_0 (q := 26) dX4_neededBehind_25 rfl ?_
      refine g_X4_32 rfl dX4_neededBehind_26 (q := 29) rfl ?_
      refine T.ald_0 (q := 30) dX4_neededBehind_29 rfl ?_
      refine g_X4_29 rfl dX4_neededBehind_30 (q := 33) rfl ?_
      refine T.ild_1 (q := 34) dX4_neededBehind_33 rfl ?_
      refine T.bipush (q := 36) (6) dX4_neededBehind_34 rfl (by decide) ?_
      refine T.imul (q := 37) dX4_neededBehind_36 rfl ?_
      refine T.ild_4 (q := 39) dX4_neededBehind_37 rfl ?_
      refine T.iadd (q := 40) dX4_neededBehind_39 rfl ?_
      rw [show nI t * 6 + nI i = nI (6 * t + i) from (by simp (disch := omega) only [sk_lit, nI_add, pk_mul, pk_div, pk_sub, sk_mod, nI_clamp, nI_1]; try (congr 1 <;> omega))]
      refine T.iald (n := 1296) rfl rfl (by decide) dX4_neededBehind_40 (q := 41) rfl (vp_in_nI (by omega) (by decide)) ?_
      rw [nI_clamp (by omega), hal i (by omega)]
      refine T.ild_2 (q := 42) dX4_neededBehind_41 rfl ?_
      refine T.iand (q := 43) dX4_neededBehind_42 rfl ?_
      rw [nI_and]
      refine T.iald (n := 64) rfl rfl (by decide) dX4_neededBehind_43 (q := 44) rfl (vp_in_nI (by omega) (by decide)) ?_
      rw [nI_clamp (by omega), (hnd (al i &&& s) Nat.and_le_right).1]
      refine k_X4_72 rfl dX4_neededBehind_44 (q := 47) rfl (by omega) hc hs (Nat.le_of_ble_eq_true rfl) ?_
      have hb2 := (hnd (al i &&& s) Nat.and_le_right).2
      rw [nImax (by omega) (by omega)]
      refine T.ist_3 (q := 48) dX4_neededBehind_47 rfl (by decide) (by first | exact sk_ok_i | exact sk_ok_r | exact sk_ok_n) ?_
      have hh := ih (i + 1) (by omega)
      rw [nbP] at hh
      first | rw [if_pos (htb.mp h21)] at hh | rw [if_neg (fun q => h21 (htb.mpr q))] at hh
      refine T.inc_4 (q := 51) (1) dX4_neededBehind_48 rfl (by decide) (by decide) (by first | exact sk_ok_i | exact sk_ok_r | exact sk_ok_n) ?_
      refine T.goto (tgt := 5) dX4_neededBehind_51 (by decide) ?_
      rw [nI_1 i]
      exact hh
theorem c_neededBehind {G : sk_G} {d : Nat} {M : sk_M} {t s len : Nat} {nd al : Nat → Nat} (hd : 0 < d) (ht : t < 216) (hs6 : s < 64) (hsz : M.1 130 8 = nI len) (hl6 : len ≤ 6) (hal : ∀ i, i < len → M.1 135 (6 * t + i) = nI (al i)) (hnd : ∀ x, x ≤ s → M.1 136 x = nI (nd x) ∧ nd x ≤ 100) : Ctr G mX4_neededBehind d 0 0 [.ref (G.2.2.1 130), .int (nI t), .int (nI s)] M (rI fun r M' => r = nI (nbP nd al s len) ∧ M' = M) noX := by
  refine Ctr.of 2 (by decide) (Nat.le_of_ble_eq_true rfl) ?_
  refine T.iconst (q := 1) (0) dX4_neededBehind_0 rfl (by decide) ?_
  refine T.ist_3 (q := 2) dX4_neededBehind_1 rfl (by decide) (by first | exact sk_ok_i | exact sk_ok_r | exact sk_ok_n) ?_
  refine T.iconst (q := 3) (0) dX4_neededBehind_2 rfl (by decide) ?_
  refine T.ist_4 (q := 5) dX4_neededBehind_3 rfl (by decide) (by first | exact sk_ok_i | exact sk_ok_r | exact sk_ok_n) ?_
  refine l_neededBehind hd ht hs6 hsz hl6 hal hnd (Nat.le_refl 0) (Nat.le_refl 0) ?_ len 0 (Nat.zero_add _)
  refine T.ild_3 (q := 55) dX4_neededBehind_54 rfl ?_
  exact T.retI rfl dX4_neededBehind_55 (by decide) (by decide) ⟨rfl, rfl⟩
