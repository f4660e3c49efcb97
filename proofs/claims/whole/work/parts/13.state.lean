/-! State: reads -/
theorem c_wordsOf {G : sk_G} {d : Nat} {M : sk_M} {p v : Nat} : Ctr G mX5_wordsOf d 0 0 [.int (nI p), .int (nI v)] M (rI fun r M' => r = nI (4 * (6 * p + v)) ∧ M' = M) noX := by
  refine Ctr.of 0 (by decide) (Nat.le_of_ble_eq_true rfl) ?_
  refine T.ild_0 (q := 1) dX5_wordsOf_0 rfl ?_
  refine T.bipush (q := 3) (6) dX5_wordsOf_1 rfl (by decide) ?_
  refine T.imul (q := 4) dX5_wordsOf_3 rfl ?_
  refine T.ild_1 (q := 5) dX5_wordsOf_4 rfl ?_
  refine T.iadd (q := 6) dX5_wordsOf_5 rfl ?_
  refine T.iconst (q := 7) (4) dX5_wordsOf_6 rfl (by decide) ?_
  refine T.imul (q := 8) dX5_wordsOf_7 rfl ?_
  exact T.retI rfl dX5_wordsOf_8 (by decide) (by decide) ⟨by rw [show (6 : Int32) = nI 6 from rfl, show (4 : Int32) = nI 4 from rfl, pk_mul, nI_add, pk_mul]; congr 1; omega, rfl⟩
/-- how many codes a row of four words leaves -/
def leftW (k : Nat → Int64) (at9 : Nat) : Int32 := bc64 (k at9) + bc64 (k (at9 + 1)) + bc64 (k (at9 + 2)) + bc64 (k (at9 + 3))
def leftP (k : Nat → Int64) (at9 : Nat) : Nat → Int32
  | 0 => 0
  | n + 1 => leftP k at9 n + bc64 (k (at9 + n))
theorem l_leftOf {G : sk_G} {d : Nat} {M : sk_M} {b p v : Nat} (hd : 0 < d) (hb : sk_sb b) (hp : p < 6) (hv : v < 6) {x1 x2 : Value} : ∀ n i : Nat, i + n = 4 →
    TJ G mX5_leftOf (sk_R d 0 0) (sk_K G 0 0 (rI fun r M' => r = leftP (M.2 (b + 9)) (4 * (6 * p + v)) 4 ∧ M' = M) noX) 0 0 12 [some (.ref (G.2.2.1 b)), some x1, some x2, some (.int (nI (4 * (6 * p + v)))), some (.int (leftP (M.2 (b + 9)) (4 * (6 * p + v)) i)), some (.int (nI (4 * (6 * p + v) + i)))] [] M := by
  intro n
  induction n with
  | zero =>
    intro i hi
    obtain rfl : i = 4 := by omega

    refine T.ild_5 (q := 14) dX5_leftOf_12 rfl ?_
    refine T.ild_3 (q := 15) dX5_leftOf_14 rfl ?_
    refine T.iconst (q := 16) (4) dX5_leftOf_15 rfl (by decide) ?_
    refine T.iadd (q := 17) dX5_leftOf_16 rfl ?_
    refine T.ic_ge (tgt := 41) (q := 20) dX5_leftOf_17 (by decide) rfl (fun h17 => ?_) (fun h17 => absurd (by rw [show (4 : Int32) = nI 4 from rfl, nI_add]; exact nI_le (by omega) (by omega)) h17)
    refine T.ild_4 (q := 43) dX5_leftOf_41 rfl ?_
    exact T.retI rfl dX5_leftOf_43 (by decide) (by decide) ⟨rfl, rfl⟩
  | succ n ih =>
    intro i hi
    refine T.ild_5 (q := 14) dX5_leftOf_12 rfl ?_
    refine T.ild_3 (q := 15) dX5_leftOf_14 rfl ?_
    refine T.iconst (q := 16) (4) dX5_leftOf_15 rfl (by decide) ?_
    refine T.iadd (q := 17) dX5_leftOf_16 rfl ?_
    refine T.ic_ge (tgt := 41) (q := 20) dX5_leftOf_17 (by decide) rfl (fun h17 => absurd h17 (by rw [show (4 : Int32) = nI 4 from rfl, nI_add]; exact nI_ge (by omega) (by omega))) (fun h17 => ?_)
    refine T.ild_4 (q := 22) dX5_leftOf_20 rfl ?_
    refine T.ald_0 (q := 23) dX5_leftOf_22 rfl ?_
    refine g_X5_43 hb rfl dX5_leftOf_23 (q := 26) rfl ?_
    refine T.ild_5 (q := 28) dX5_leftOf_26 rfl ?_
    refine T.lald (sk_kn hb).1 (sk_kn hb).2.1 (sk_kn hb).2.2 dX5_leftOf_28 (q := 29) rfl (vp_in_nI (by omega) (by omega)) ?_
    refine k_X5_106 rfl dX5_leftOf_29 (q := 32) rfl (by omega) (by decide) (by decide) (Nat.le_of_ble_eq_true rfl) (c_bc64) ?_
    rintro r M9 ⟨rfl, rfl⟩
    rw [nI_clamp (by omega)]
    refine T.iadd (q := 33) dX5_leftOf_32 rfl ?_
    refine T.ist_4 (q := 35) dX5_leftOf_33 rfl (by decide) (by first | exact sk_ok_i | exact sk_ok_r | exact sk_ok_n) ?_
    refine T.inc_5 (q := 38) (1) dX5_leftOf_35 rfl (by decide) (by decide) (by first | exact sk_ok_i | exact sk_ok_r | exact sk_ok_n) ?_
    refine T.goto (tgt := 12) dX5_leftOf_38 (by decide) ?_
    rw [nI_1]
    exact ih (i + 1) (by omega)
theorem c_leftOf {G : sk_G} {d : Nat} {M : sk_M} {b p v : Nat} (hd : 0 < d) (hb : sk_sb b) (hp : p < 6) (hv : v < 6) : Ctr G mX5_leftOf d 0 0 [.ref (G.2.2.1 b), .int (nI p), .int (nI v)] M (rI fun r M' => r = leftP (M.2 (b + 9)) (4 * (6 * p + v)) 4 ∧ M' = M) noX := by
  refine Ctr.of 3 (by decide) (Nat.le_of_ble_eq_true rfl) ?_
  refine T.ild_1 (q := 1) dX5_leftOf_0 rfl ?_
  refine T.ild_2 (q := 2) dX5_leftOf_1 rfl ?_
  refine k_X5_103 rfl dX5_leftOf_2 (q := 5) rfl (by omega) (by decide) (by decide) (Nat.le_of_ble_eq_true rfl) (c_wordsOf) ?_
  rintro r M9 ⟨rfl, rfl⟩
  refine T.ist_3 (q := 6) dX5_leftOf_5 rfl (by decide) (by first | exact sk_ok_i | exact sk_ok_r | exact sk_ok_n) ?_
  refine T.iconst (q := 7) (0) dX5_leftOf_6 rfl (by decide) ?_
  refine T.ist_4 (q := 9) dX5_leftOf_7 rfl (by decide) (by first | exact sk_ok_i | exact sk_ok_r | exact sk_ok_n) ?_
  refine T.ild_3 (q := 10) dX5_leftOf_9 rfl ?_
  refine T.ist_5 (q := 12) dX5_leftOf_10 rfl (by decide) (by first | exact sk_ok_i | exact sk_ok_r | exact sk_ok_n) ?_
  exact l_leftOf hd hb hp hv 4 0 rfl
