/-! State: more reads, writes -/
section SKW
variable {G : sk_G} {X : sk_X} {E : sk_E} {D mR sR cells slots pc q : Nat} {xs : List (Option Value)} {M : sk_M}
theorem T.cpI {i c0 c1 : Nat} {n : Int32} {N : Nat} {O : String} (hw : [Cond.methodLink O i arraycopyName, .native arraycopyName, .static arraycopyName, .initialized "java/lang/System"].all sk_wok = true) (hX : X.1.cls = O) (hk0 : sk_kd c0 = 10) (hk1 : sk_kd c1 = 10) (hl0 : c0 < 159) (hl1 : c1 < 159) (hn0 : sk_ln c0 = N) (hn1 : sk_ln c1 = N) (hn : n = nI N) (hN : N < 2 ^ 31) (hD : 0 < D)
    (d : decode X.2.1 pc = .ok (.invokestatic i, 3)) (hq : pc + 3 = q) (kk : TJ G X (sk_R D mR sR) E cells slots q xs [] (sk_ri M c1 (va_cpy (M.1 c0) (M.1 c1) 0 0 N))) : TJ G X (sk_R D mR sR) E cells slots pc xs [.int n, .int 0, .ref (G.2.2.1 c1), .int 0, .ref (G.2.2.1 c0)] M :=
  T.copyI (by rw [hX]; exact hw) hk0 hk1 hl0 hl1 hn0 hn1 hn hN hD (show 0 + _ ≤ 64 * D by have := sk_cpw; omega) d hq kk
theorem T.cpL {i c0 c1 : Nat} {n : Int32} {N : Nat} {O : String} (hw : [Cond.methodLink O i arraycopyName, .native arraycopyName, .static arraycopyName, .initialized "java/lang/System"].all sk_wok = true) (hX : X.1.cls = O) (hk0 : sk_kd c0 = 11) (hk1 : sk_kd c1 = 11) (hl0 : c0 < 159) (hl1 : c1 < 159) (hn0 : sk_ln c0 = N) (hn1 : sk_ln c1 = N) (hn : n = nI N) (hN : N < 2 ^ 31) (hD : 0 < D)
    (d : decode X.2.1 pc = .ok (.invokestatic i, 3)) (hq : pc + 3 = q) (kk : TJ G X (sk_R D mR sR) E cells slots q xs [] (sk_rl M c1 (va_cpy (M.2 c0) (M.2 c1) 0 0 N))) : TJ G X (sk_R D mR sR) E cells slots pc xs [.int n, .int 0, .ref (G.2.2.1 c1), .int 0, .ref (G.2.2.1 c0)] M :=
  T.copyL (by rw [hX]; exact hw) hk0 hk1 hl0 hl1 hn0 hn1 hn hN hD (show 0 + _ ≤ 64 * D by have := sk_cpw; omega) d hq kk
end SKW
theorem l_wheelRange {G : sk_G} {E : sk_E} {d mR sR cells slots : Nat} {M : sk_M} {b w t : Nat} {x1 x2 : Value} (hb : sk_sb b) (hw : w < 3) (ht : t < 6) (hd : 0 < d) (hc : cells ≤ mR) (hs : slots ≤ sR) (hk : TJ G mX5_wheelRange (sk_R d mR sR) E cells slots 74 [some (.ref (G.2.2.1 b)), some x1, some x2, some (.int (nI (36 * w + 6 * t))), some (.int (mnR (M.1 (b + 7)) (36 * w + 6 * t) (5))), some (.int (mxR (M.1 (b + 7)) (36 * w + 6 * t) (5))), some (.int (nI (36 * w + 6 * t + ((5) + 1))))] [] M) : ∀ n i : Nat, i + n = 5 → TJ G mX5_wheelRange (sk_R d mR sR) E cells slots 31 [some (.ref (G.2.2.1 b)), some x1, some x2, some (.int (nI (36 * w + 6 * t))), some (.int (mnR (M.1 (b + 7)) (36 * w + 6 * t) i)), some (.int (mxR (M.1 (b + 7)) (36 * w + 6 * t) i)), some (.int (nI (36 * w + 6 * t + (i + 1))))] [] M := by
  intro n
  induction n with
  | zero =>
    intro i hi
    obtain rfl : i = 5 := by omega
    refine T.ild_6 (q := 33) dX5_wheelRange_31 rfl ?_
    refine T.ild_3 (q := 34) dX5_wheelRange_33 rfl ?_
    refine T.bipush (q := 36) (6) dX5_wheelRange_34 rfl (by decide) ?_
    refine T.iadd (q := 37) dX5_wheelRange_36 rfl ?_
    refine T.ic_ge (tgt := 74) (q := 40) dX5_wheelRange_37 (by decide) rfl (fun h37 => ?_) (fun h37 => absurd (by rw [sk_lit 6, nI_add]; exact nI_le (by omega) (by omega)) h37)
    exact hk
  | succ n ih =>
    intro i hi
    refine T.ild_6 (q := 33) dX5_wheelRange_31 rfl ?_
    refine T.ild_3 (q := 34) dX5_wheelRange_33 rfl ?_
    refine T.bipush (q := 36) (6) dX5_wheelRange_34 rfl (by decide) ?_
    refine T.iadd (q := 37) dX5_wheelRange_36 rfl ?_
    refine T.ic_ge (tgt := 74) (q := 40) dX5_wheelRange_37 (by decide) rfl (fun h37 => absurd h37 (by rw [sk_lit 6, nI_add]; exact nI_ge (by omega) (by omega))) (fun h37 => ?_)
    refine T.ild_4 (q := 42) dX5_wheelRange_40 rfl ?_
    refine T.ald_0 (q := 43) dX5_wheelRange_42 rfl ?_
    refine g_X5_37 hb rfl dX5_wheelRange_43 (q := 46) rfl ?_
    refine T.ild_6 (q := 48) dX5_wheelRange_46 rfl ?_
    refine T.iald (sk_a7 hb).1 (sk_a7 hb).2.1 (sk_a7 hb).2.2 dX5_wheelRange_48 (q := 49) rfl (vp_in_nI (by omega) (by decide)) ?_
    rw [nI_clamp (by omega)]
    refine k_X5_95 rfl dX5_wheelRange_49 (q := 52) rfl (by omega) hc hs (Nat.le_of_ble_eq_true rfl) ?_
    refine T.ist_4 (q := 54) dX5_wheelRange_52 rfl (by decide) (by first | exact sk_ok_i | exact sk_ok_r | exact sk_ok_n) ?_
    refine T.ild_5 (q := 56) dX5_wheelRange_54 rfl ?_
    refine T.ald_0 (q := 57) dX5_wheelRange_56 rfl ?_
    refine g_X5_37 hb rfl dX5_wheelRange_57 (q := 60) rfl ?_
    refine T.ild_6 (q := 62) dX5_wheelRange_60 rfl ?_
    refine T.iald (sk_a7 hb).1 (sk_a7 hb).2.1 (sk_a7 hb).2.2 dX5_wheelRange_62 (q := 63) rfl (vp_in_nI (by omega) (by decide)) ?_
    rw [nI_clamp (by omega)]
    refine k_X5_100 rfl dX5_wheelRange_63 (q := 66) rfl (by omega) hc hs (Nat.le_of_ble_eq_true rfl) ?_
    refine T.ist_5 (q := 68) dX5_wheelRange_66 rfl (by decide) (by first | exact sk_ok_i | exact sk_ok_r | exact sk_ok_n) ?_
    refine T.inc_6 (q := 71) (1) dX5_wheelRange_68 rfl (by decide) (by decide) (by first | exact sk_ok_i | exact sk_ok_r | exact sk_ok_n) ?_
    refine T.goto (tgt := 31) dX5_wheelRange_71 (by decide) ?_
    rw [nI_1]
    exact ih (i + 1) (by omega)
theorem c_wheelRange {G : sk_G} {d : Nat} {M : sk_M} {b w t : Nat} (hd : 0 < d) (hb : sk_sb b) (hw : w < 3) (ht : t < 6) : Ctr G mX5_wheelRange d 0 0 [.ref (G.2.2.1 b), .int (nI w), .int (nI t)] M (rI fun r M' => r = wRng (M.1 (b + 7)) w t ∧ M' = M) noX := by
  refine Ctr.of 4 (by decide) (Nat.le_of_ble_eq_true rfl) ?_
  refine T.ild_1 (q := 1) dX5_wheelRange_0 rfl ?_
  refine T.bipush (q := 3) (36) dX5_wheelRange_1 rfl (by decide) ?_
  refine T.imul (q := 4) dX5_wheelRange_3 rfl ?_
  refine T.ild_2 (q := 5) dX5_wheelRange_4 rfl ?_
  refine T.bipush (q := 7) (6) dX5_wheelRange_5 rfl (by decide) ?_
  refine T.imul (q := 8) dX5_wheelRange_7 rfl ?_
  refine T.iadd (q := 9) dX5_wheelRange_8 rfl ?_
  rw [show nI w * 36 + nI t * 6 = nI (36 * w + 6 * t) from (by simp (disch := omega) only [sk_lit, nI_add, pk_mul, pk_div, pk_sub, sk_mod, nI_clamp, nI_1]; try (congr 1 <;> omega))]
  refine T.ist_3 (q := 10) dX5_wheelRange_9 rfl (by decide) (by first | exact sk_ok_i | exact sk_ok_r | exact sk_ok_n) ?_
  refine T.ald_0 (q := 11) dX5_wheelRange_10 rfl ?_
  refine g_X5_37 hb rfl dX5_wheelRange_11 (q := 14) rfl ?_
  refine T.ild_3 (q := 15) dX5_wheelRange_14 rfl ?_
  refine T.iald (sk_a7 hb).1 (sk_a7 hb).2.1 (sk_a7 hb).2.2 dX5_wheelRange_15 (q := 16) rfl (vp_in_nI (by omega) (by decide)) ?_
  rw [nI_clamp (by omega)]
  refine T.ist_4 (q := 18) dX5_wheelRange_16 rfl (by decide) (by first | exact sk_ok_i | exact sk_ok_r | exact sk_ok_n) ?_
  refine T.ald_0 (q := 19) dX5_wheelRange_18 rfl ?_
  refine g_X5_37 hb rfl dX5_wheelRange_19 (q := 22) rfl ?_
  refine T.ild_3 (q := 23) dX5_wheelRange_22 rfl ?_
  refine T.iald (sk_a7 hb).1 (sk_a7 hb).2.1 (sk_a7 hb).2.2 dX5_wheelRange_23 (q := 24) rfl (vp_in_nI (by omega) (by decide)) ?_
  rw [nI_clamp (by omega)]
  refine T.ist_5 (q := 26) dX5_wheelRange_24 rfl (by decide) (by first | exact sk_ok_i | exact sk_ok_r | exact sk_ok_n) ?_
  refine T.ild_3 (q := 27) dX5_wheelRange_26 rfl ?_
  refine T.iconst (q := 28) (1) dX5_wheelRange_27 rfl (by decide) ?_
  refine T.iadd (q := 29) dX5_wheelRange_28 rfl ?_
  rw [nI_1]
  refine T.ist_6 (q := 31) dX5_wheelRange_29 rfl (by decide) (by first | exact sk_ok_i | exact sk_ok_r | exact sk_ok_n) ?_
  refine l_wheelRange hb hw ht hd (Nat.le_refl 0) (Nat.le_refl 0) ?_ 5 0 rfl
  refine T.ild_5 (q := 76) dX5_wheelRange_74 rfl ?_
  refine T.ild_4 (q := 78) dX5_wheelRange_76 rfl ?_
  refine T.isub (q := 79) dX5_wheelRange_78 rfl ?_
  exact T.retI rfl dX5_wheelRange_79 (by decide) (by decide) ⟨rfl, rfl⟩
theorem c_rangeOf {G : sk_G} {d : Nat} {M : sk_M} {b t : Nat} (hd : 1 < d) (hb : sk_sb b) (ht : t < 216) : Ctr G mX5_rangeOf d 0 0 [.ref (G.2.2.1 b), .int (nI t)] M (rI fun r M' => r = wRng (M.1 (b + 7)) 0 (t / 36) + wRng (M.1 (b + 7)) 1 (t / 6 % 6) + wRng (M.1 (b + 7)) 2 (t % 6) ∧ M' = M) noX := by
  refine Ctr.of 0 (by decide) (Nat.le_of_ble_eq_true rfl) ?_
  refine T.ald_0 (q := 1) dX5_rangeOf_0 rfl ?_
  refine T.iconst (q := 2) (0) dX5_rangeOf_1 rfl (by decide) ?_
  refine T.ild_1 (q := 3) dX5_rangeOf_2 rfl ?_
  refine T.bipush (q := 5) (36) dX5_rangeOf_3 rfl (by decide) ?_
  refine T.idiv (q := 6) dX5_rangeOf_5 rfl (by decide) ?_
  rw [show nI t / 36 = nI (t / 36) from (by simp (disch := omega) only [sk_lit, nI_add, pk_mul, pk_div, pk_sub, sk_mod, nI_clamp, nI_1]; try (congr 1 <;> omega)), show (0 : Int32) = nI 0 from rfl]
  refine k_X5_91 hb rfl dX5_rangeOf_6 (q := 9) rfl (by omega) (by decide) (by decide) (Nat.le_of_ble_eq_true rfl) (c_wheelRange (d := 1) (by decide) hb (by decide) (by omega)) ?_
  rintro r M9 ⟨rfl, hM9⟩
  obtain rfl := hM9.symm
  refine T.ald_0 (q := 10) dX5_rangeOf_9 rfl ?_
  refine T.iconst (q := 11) (1) dX5_rangeOf_10 rfl (by decide) ?_
  refine T.ild_1 (q := 12) dX5_rangeOf_11 rfl ?_
  refine T.bipush (q := 14) (6) dX5_rangeOf_12 rfl (by decide) ?_
  refine T.idiv (q := 15) dX5_rangeOf_14 rfl (by decide) ?_
  refine T.bipush (q := 17) (6) dX5_rangeOf_15 rfl (by decide) ?_
  refine T.irem (q := 18) dX5_rangeOf_17 rfl (by decide) ?_
  rw [show nI t / 6 - nI t / 6 / 6 * 6 = nI (t / 6 % 6) from (by simp (disch := omega) only [sk_lit, nI_add, pk_mul, pk_div, pk_sub, sk_mod, nI_clamp, nI_1]; try (congr 1 <;> omega)), show (1 : Int32) = nI 1 from rfl]
  refine k_X5_91 hb rfl dX5_rangeOf_18 (q := 21) rfl (by omega) (by decide) (by decide) (Nat.le_of_ble_eq_true rfl) (c_wheelRange (d := 1) (by decide) hb (by decide) (by omega)) ?_
  rintro r M9 ⟨rfl, hM9⟩
  obtain rfl := hM9.symm
  refine T.iadd (q := 22) dX5_rangeOf_21 rfl ?_
  refine T.ald_0 (q := 23) dX5_rangeOf_22 rfl ?_
  refine T.iconst (q := 24) (2) dX5_rangeOf_23 rfl (by decide) ?_
  refine T.ild_1 (q := 25) dX5_rangeOf_24 rfl ?_
  refine T.bipush (q := 27) (6) dX5_rangeOf_25 rfl (by decide) ?_
  refine T.irem (q := 28) dX5_rangeOf_27 rfl (by decide) ?_
  rw [show nI t - nI t / 6 * 6 = nI (t % 6) from (by simp (disch := omega) only [sk_lit, nI_add, pk_mul, pk_div, pk_sub, sk_mod, nI_clamp, nI_1]; try (congr 1 <;> omega)), show (2 : Int32) = nI 2 from rfl]
  refine k_X5_91 hb rfl dX5_rangeOf_28 (q := 31) rfl (by omega) (by decide) (by decide) (Nat.le_of_ble_eq_true rfl) (c_wheelRange (d := 1) (by decide) hb (by decide) (by omega)) ?_
  rintro r M9 ⟨rfl, hM9⟩
  obtain rfl := hM9.symm
  refine T.iadd (q := 32) dX5_rangeOf_31 rfl ?_
  exact T.retI rfl dX5_rangeOf_32 (by decide) (by decide) ⟨rfl, rfl⟩
theorem l_leftOfAll1 {G : sk_G} {E : sk_E} {d mR sR cells slots : Nat} {M : sk_M} {b v w np : Nat} {set s3 : Int32} (hb : sk_sb b) (hv : v < 6) (hw : w < 4) (hnp : M.1 b 1 = nI np) (hn6 : np ≤ 6) (hd : 0 < d) (hc : cells ≤ mR) (hs : slots ≤ sR) (hk : TJ G mX5_leftOfAll (sk_R d mR sR) E cells slots 75 [some (.ref (G.2.2.1 b)), some (.int set), some (.int (nI v)), some (.int s3), some (.int (nI w)), some (.long (shP (M.2 (b + 9)) set v w (np))), none, some (.int (nI (np)))] [] M) : ∀ n i : Nat, i + n = np → TJ G mX5_leftOfAll (sk_R d mR sR) E cells slots 31 [some (.ref (G.2.2.1 b)), some (.int set), some (.int (nI v)), some (.int s3), some (.int (nI w)), some (.long (shP (M.2 (b + 9)) set v w i)), none, some (.int (nI i))] [] M := by
  intro n
  induction n with
  | zero =>
    intro i hi
    obtain rfl : i = np := by omega
    refine T.ild_7 (q := 33) dX5_leftOfAll_31 rfl ?_
    refine T.ald_0 (q := 34) dX5_leftOfAll_33 rfl ?_
    refine g_X5_54 hb rfl dX5_leftOfAll_34 (q := 37) rfl ?_
    rw [hnp]
    refine T.ic_ge (tgt := 75) (q := 40) dX5_leftOfAll_37 (by decide) rfl (fun h37 => ?_) (fun h37 => absurd (nI_le (Nat.le_refl _) (by omega)) h37)
    exact hk
  | succ n ih =>
    intro i hi
    refine T.ild_7 (q := 33) dX5_leftOfAll_31 rfl ?_
    refine T.ald_0 (q := 34) dX5_leftOfAll_33 rfl ?_
    refine g_X5_54 hb rfl dX5_leftOfAll_34 (q := 37) rfl ?_
    rw [hnp]
    refine T.ic_ge (tgt := 75) (q := 40) dX5_leftOfAll_37 (by decide) rfl (fun h37 => absurd h37 (nI_ge (by omega) (by omega))) (fun h37 => ?_)
    refine T.ild_1 (q := 41) dX5_leftOfAll_40 rfl ?_
    refine T.ild_7 (q := 43) dX5_leftOfAll_41 rfl ?_
    refine T.ishr (q := 44) dX5_leftOfAll_43 rfl ?_
    refine T.iconst (q := 45) (1) dX5_leftOfAll_44 rfl (by decide) ?_
    refine T.iand (q := 46) dX5_leftOfAll_45 rfl ?_
    refine T.iconst (q := 47) (1) dX5_leftOfAll_46 rfl (by decide) ?_
    refine T.ic_ne (tgt := 69) (q := 50) dX5_leftOfAll_47 (by decide) rfl (fun h47 => ?_) (fun h47 => ?_)
    · refine T.inc_7 (q := 72) (1) dX5_leftOfAll_69 rfl (by decide) (by decide) sk_ok_n ?_
      refine T.goto (tgt := 31) dX5_leftOfAll_72 (by decide) ?_
      rw [nI_1]
      have := ih (i + 1) (by omega)
      simp only [shP, h47, if_true, if_false] at this
      exact this
    · refine T.lld_5 (q := 52) dX5_leftOfAll_50 rfl ?_
      refine T.ald_0 (q := 53) dX5_leftOfAll_52 rfl ?_
      refine g_X5_43 hb rfl dX5_leftOfAll_53 (q := 56) rfl ?_
      refine T.ild_7 (q := 58) dX5_leftOfAll_56 rfl ?_
      refine T.ild_2 (q := 59) dX5_leftOfAll_58 rfl ?_
      refine k_X5_103 rfl dX5_leftOfAll_59 (q := 62) rfl (by omega) hc hs (Nat.le_of_ble_eq_true rfl) (c_wordsOf (d := 0)) ?_
      rintro r M9 ⟨rfl, hM9⟩
      obtain rfl := hM9.symm
      refine T.ild_4 (q := 64) dX5_leftOfAll_62 rfl ?_
      refine T.iadd (q := 65) dX5_leftOfAll_64 rfl ?_
      rw [show nI (4 * (6 * i + v)) + nI w = nI (4 * (6 * i + v) + w) from (by simp (disch := omega) only [sk_lit, nI_add, pk_mul, pk_div, pk_sub, sk_mod, nI_clamp, nI_1]; try (congr 1 <;> omega))]
      refine T.lald (sk_kn hb).1 (sk_kn hb).2.1 (sk_kn hb).2.2 dX5_leftOfAll_65 (q := 66) rfl (vp_in_nI (by omega) (by decide)) ?_
      rw [nI_clamp (by omega)]
      refine T.land (q := 67) dX5_leftOfAll_66 rfl ?_
      refine T.lst_5 (q := 69) dX5_leftOfAll_67 rfl (by decide) (by first | exact sk_ok_i | exact sk_ok_r | exact sk_ok_n) ?_
      refine T.inc_7 (q := 72) (1) dX5_leftOfAll_69 rfl (by decide) (by decide) sk_ok_n ?_
      refine T.goto (tgt := 31) dX5_leftOfAll_72 (by decide) ?_
      rw [nI_1]
      have := ih (i + 1) (by omega)
      simp only [shP, h47, if_true, if_false] at this
      exact this
theorem l_leftOfAll {G : sk_G} {E : sk_E} {d mR sR cells slots : Nat} {M : sk_M} {b v np : Nat} {set : Int32} (hb : sk_sb b) (hv : v < 6) (hnp : M.1 b 1 = nI np) (hn6 : np ≤ 6) (hd : 0 < d) (hc : cells ≤ mR) (hs : slots ≤ sR) (hk : ∀ x5 x6 x7, TJ G mX5_leftOfAll (sk_R d mR sR) E cells slots 89 [some (.ref (G.2.2.1 b)), some (.int set), some (.int (nI v)), some (.int (laP (M.2 (b + 9)) set v np 4)), some (.int (nI 4)), x5, x6, x7] [] M) : ∀ n i : Nat, i + n = 4 → ∀ x5 x6 x7, sk_ok1 x6 → TJ G mX5_leftOfAll (sk_R d mR sR) E cells slots 5 [some (.ref (G.2.2.1 b)), some (.int set), some (.int (nI v)), some (.int (laP (M.2 (b + 9)) set v np i)), some (.int (nI i)), x5, x6, x7] [] M := by
  intro n
  induction n with
  | zero =>
    intro i hi x5 x6 x7 h6
    obtain rfl : i = 4 := by omega
    refine T.ild_4 (q := 7) dX5_leftOfAll_5 rfl ?_
    refine T.iconst (q := 8) (4) dX5_leftOfAll_7 rfl (by decide) ?_
    refine T.ic_ge (tgt := 89) (q := 11) dX5_leftOfAll_8 (by decide) rfl (fun h8 => ?_) (fun h8 => absurd (nI_le (a := 4) (b := 4) (Nat.le_refl _) (by decide)) h8)
    exact hk _ _ _
  | succ n ih =>
    intro i hi x5 x6 x7 h6
    refine T.ild_4 (q := 7) dX5_leftOfAll_5 rfl ?_
    refine T.iconst (q := 8) (4) dX5_leftOfAll_7 rfl (by decide) ?_
    refine T.ic_ge (tgt := 89) (q := 11) dX5_leftOfAll_8 (by decide) rfl (fun h8 => absurd h8 (nI_ge (a := i) (b := 4) (by omega) (by decide))) (fun h8 => ?_)
    have J26 : ∀ z : Int64, z = kMask i → TJ G mX5_leftOfAll (sk_R d mR sR) E cells slots 26 [some (.ref (G.2.2.1 b)), some (.int set), some (.int (nI v)), some (.int (laP (M.2 (b + 9)) set v np i)), some (.int (nI i)), x5, x6, x7] [.long z] M := by
      rintro z rfl
      refine T.lst_5 (q := 28) dX5_leftOfAll_26 rfl (by decide) sk_ok_i ?_
      refine T.iconst (q := 29) (0) dX5_leftOfAll_28 rfl (by decide) ?_
      refine T.ist_7 (q := 31) dX5_leftOfAll_29 rfl (by decide) sk_ok_n ?_
      refine l_leftOfAll1 (w := i) hb hv (by omega) hnp hn6 hd hc hs ?_ np 0 (Nat.zero_add np)
      refine T.ild_3 (q := 76) dX5_leftOfAll_75 rfl ?_
      refine T.lld_5 (q := 78) dX5_leftOfAll_76 rfl ?_
      refine k_X5_106 rfl dX5_leftOfAll_78 (q := 81) rfl (by omega) hc hs (Nat.le_of_ble_eq_true rfl) (c_bc64 (d := 0)) ?_
      rintro r M9 ⟨rfl, hM9⟩
      obtain rfl := hM9.symm
      refine T.iadd (q := 82) dX5_leftOfAll_81 rfl ?_
      refine T.ist_3 (q := 83) dX5_leftOfAll_82 rfl (by decide) (by first | exact sk_ok_i | exact sk_ok_r | exact sk_ok_n) ?_
      refine T.inc_4 (q := 86) (1) dX5_leftOfAll_83 rfl (by decide) (by decide) (by first | exact sk_ok_i | exact sk_ok_r | exact sk_ok_n) ?_
      refine T.goto (tgt := 5) dX5_leftOfAll_86 (by decide) ?_
      rw [nI_1]
      exact ih (i + 1) (by omega) _ _ _ sk_ok_n
    refine T.ild_4 (q := 13) dX5_leftOfAll_11 rfl ?_
    refine T.iconst (q := 14) (3) dX5_leftOfAll_13 rfl (by decide) ?_
    refine T.ic_ne (tgt := 23) (q := 17) dX5_leftOfAll_14 (by decide) rfl (fun h14 => ?_) (fun h14 => ?_)
    · refine T.ldc2 (q := 26) (-1) dX5_leftOfAll_23 rfl w_X5_c49 ?_
      exact J26 _ (by rw [kMask]; first | rw [if_pos (show i = 3 from (nI_eq (by omega) (by decide)).mp h14)] | rw [if_neg (show ¬ i = 3 from fun q => h14 (by rw [q]; rfl))])
    · refine T.ldc2 (q := 20) (16777215) dX5_leftOfAll_17 rfl w_X5_c47 ?_
      refine T.goto (tgt := 26) dX5_leftOfAll_20 (by decide) ?_
      exact J26 _ (by rw [kMask]; first | rw [if_pos (show i = 3 from (nI_eq (by omega) (by decide)).mp h14)] | rw [if_neg (show ¬ i = 3 from fun q => h14 (by rw [q]; rfl))])
theorem c_leftOfAll {G : sk_G} {d : Nat} {M : sk_M} {b v np : Nat} {set : Int32} (hd : 0 < d) (hb : sk_sb b) (hv : v < 6) (hnp : M.1 b 1 = nI np) (hn6 : np ≤ 6) : Ctr G mX5_leftOfAll d 0 0 [.ref (G.2.2.1 b), .int set, .int (nI v)] M (rI fun r M' => r = laP (M.2 (b + 9)) set v np 4 ∧ M' = M) noX := by
  refine Ctr.of 5 (by decide) (Nat.le_of_ble_eq_true rfl) ?_
  refine T.iconst (q := 1) (0) dX5_leftOfAll_0 rfl (by decide) ?_
  refine T.ist_3 (q := 2) dX5_leftOfAll_1 rfl (by decide) (by first | exact sk_ok_i | exact sk_ok_r | exact sk_ok_n) ?_
  refine T.iconst (q := 3) (0) dX5_leftOfAll_2 rfl (by decide) ?_
  refine T.ist_4 (q := 5) dX5_leftOfAll_3 rfl (by decide) (by first | exact sk_ok_i | exact sk_ok_r | exact sk_ok_n) ?_
  refine l_leftOfAll hb hv hnp hn6 hd (Nat.le_refl 0) (Nat.le_refl 0) ?_ 4 0 rfl _ _ _ sk_ok_n
  intro x5 x6 x7
  refine T.ild_3 (q := 90) dX5_leftOfAll_89 rfl ?_
  exact T.retI rfl dX5_leftOfAll_90 (by decide) (by decide) ⟨rfl, rfl⟩
theorem c_canBe {G : sk_G} {d : Nat} {M : sk_M} {b p v c : Nat} (hd : 0 < d) (hb : sk_sb b) (hp : p < 6) (hv : v < 6) (hc : c < 216) : Ctr G mX5_canBe d 0 0 [.ref (G.2.2.1 b), .int (nI p), .int (nI v), .int (nI c)] M (rI fun r M' => r = bI (kbit (M.2 (b + 9)) (4 * (6 * p + v)) c) ∧ M' = M) noX := by
  refine Ctr.of 0 (by decide) (Nat.le_of_ble_eq_true rfl) ?_
  refine T.ald_0 (q := 1) dX5_canBe_0 rfl ?_
  refine g_X5_43 hb rfl dX5_canBe_1 (q := 4) rfl ?_
  refine T.ild_1 (q := 5) dX5_canBe_4 rfl ?_
  refine T.ild_2 (q := 6) dX5_canBe_5 rfl ?_
  refine k_X5_103 rfl dX5_canBe_6 (q := 9) rfl (by omega) (by decide) (by decide) (Nat.le_of_ble_eq_true rfl) (c_wordsOf (d := 0)) ?_
  rintro r M9 ⟨rfl, hM9⟩
  obtain rfl := hM9.symm
  refine T.ild_3 (q := 10) dX5_canBe_9 rfl ?_
  refine T.bipush (q := 12) (64) dX5_canBe_10 rfl (by decide) ?_
  refine T.idiv (q := 13) dX5_canBe_12 rfl (by decide) ?_
  refine T.iadd (q := 14) dX5_canBe_13 rfl ?_
  refine T.lald (sk_kn hb).1 (sk_kn hb).2.1 (sk_kn hb).2.2 dX5_canBe_14 (q := 15) rfl (vin (n := 4 * (6 * p + v) + c / 64) (by simp (disch := omega) only [sk_lit, nI_add, pk_mul, pk_div, pk_sub, sk_mod, nI_clamp, nI_1]; try (congr 1 <;> omega)) (by omega) (by decide)) ?_
  rw [show nI (4 * (6 * p + v)) + nI c / 64 = nI (4 * (6 * p + v) + c / 64) from (by simp (disch := omega) only [sk_lit, nI_add, pk_mul, pk_div, pk_sub, sk_mod, nI_clamp, nI_1]; try (congr 1 <;> omega)), nI_clamp (by omega)]
  refine T.ild_3 (q := 16) dX5_canBe_15 rfl ?_
  refine T.bipush (q := 18) (64) dX5_canBe_16 rfl (by decide) ?_
  refine T.irem (q := 19) dX5_canBe_18 rfl (by decide) ?_
  rw [show nI c - nI c / 64 * 64 = nI (c % 64) from (by simp (disch := omega) only [sk_lit, nI_add, pk_mul, pk_div, pk_sub, sk_mod, nI_clamp, nI_1]; try (congr 1 <;> omega))]
  refine T.lshr (q := 20) dX5_canBe_19 rfl ?_
  refine T.lconst (q := 21) (1) dX5_canBe_20 rfl (by decide) ?_
  refine T.land (q := 22) dX5_canBe_21 rfl ?_
  refine T.lconst (q := 23) (1) dX5_canBe_22 rfl (by decide) ?_
  refine T.lcmp (q := 24) dX5_canBe_23 rfl ?_
  refine T.if_ne (tgt := 31) (q := 27) dX5_canBe_24 (by decide) rfl (fun h24 => ?_) (fun h24 => ?_)
  · refine T.iconst (q := 32) (0) dX5_canBe_31 rfl (by decide) ?_
    exact T.retZ rfl dX5_canBe_32 (by decide) (by decide) rfl ⟨by first | exact (bI_t (p := kbit _ _ _) ((lg_cmp_eq _ _).mp h24)).symm | exact (bI_f (p := kbit _ _ _) (fun q => h24 ((lg_cmp_eq _ _).mpr q))).symm, rfl⟩
  · refine T.iconst (q := 28) (1) dX5_canBe_27 rfl (by decide) ?_
    refine T.goto (tgt := 32) dX5_canBe_28 (by decide) ?_
    exact T.retZ rfl dX5_canBe_32 (by decide) (by decide) rfl ⟨by first | exact (bI_t (p := kbit _ _ _) ((lg_cmp_eq _ _).mp h24)).symm | exact (bI_f (p := kbit _ _ _) (fun q => h24 ((lg_cmp_eq _ _).mpr q))).symm, rfl⟩
