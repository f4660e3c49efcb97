/-! bits: longs as numbers, and what bitCount counts -/
theorem wb_tb (n : Nat) : (lN n).toBitVec = BitVec.ofNat 64 n := rfl
theorem wb_inj {a b : Int64} (h : a.toBitVec = b.toBitVec) : a = b := Int64.toBitVec_inj.mp h
theorem wb_tn {n : Nat} (h : n < 2 ^ 64) : (lN n).toBitVec.toNat = n := by rw [wb_tb, BitVec.toNat_ofNat, Nat.mod_eq_of_lt h]
theorem wb_of (x : Int64) : ∃ n, n < 2 ^ 64 ∧ x = lN n := ⟨x.toBitVec.toNat, x.toBitVec.isLt, wb_inj (by rw [wb_tb]; simp)⟩
theorem wb_cu : ∀ k, k < 64 → ((nI k).toInt64.toUInt64 &&& Int64.toUInt64 63) = UInt64.ofNat k := by decide +kernel
theorem wb_shr {n k : Nat} (hn : n < 2 ^ 64) (hk : k < 64) : ((lN n).toUInt64 >>> ((nI k).toInt64.toUInt64 &&& Int64.toUInt64 63)).toInt64 = lN (n / 2 ^ k) := by
  rw [wb_cu k hk]
  apply wb_inj
  apply BitVec.eq_of_toNat_eq
  show ((lN n).toUInt64 >>> UInt64.ofNat k).toNat = (BitVec.ofNat 64 _).toNat
  have h1 : (UInt64.ofNat k).toNat = k := by
    show (BitVec.ofNat 64 k).toNat = k
    rw [BitVec.toNat_ofNat, Nat.mod_eq_of_lt (by omega)]
  have h2 : (lN n).toUInt64.toNat = n := wb_tn hn
  rw [UInt64.toNat_shiftRight, h1, h2, Nat.mod_eq_of_lt hk, Nat.shiftRight_eq_div_pow, BitVec.toNat_ofNat, Nat.mod_eq_of_lt (Nat.lt_of_le_of_lt (Nat.div_le_self _ _) hn)]
theorem wb_and {a b : Nat} (ha : a < 2 ^ 64) (hb : b < 2 ^ 64) : lN a &&& lN b = lN (a &&& b) := by
  apply wb_inj
  rw [Int64.toBitVec_and, wb_tb, wb_tb, wb_tb]
  apply BitVec.eq_of_toNat_eq
  rw [BitVec.toNat_and, BitVec.toNat_ofNat, BitVec.toNat_ofNat, BitVec.toNat_ofNat, Nat.mod_eq_of_lt ha, Nat.mod_eq_of_lt hb, Nat.mod_eq_of_lt (Nat.and_lt_two_pow _ hb)]
theorem us_N {n k : Nat} (hn : n < 2 ^ 64) (hk : k < 64) : us64 (lN n) (nI k) = lN (n / 2 ^ k) := wb_shr hn hk
/-- the set bits among the lowest k -/
def pcN (n : Nat) : Nat → Nat
  | 0 => 0
  | k + 1 => pcN n k + n / 2 ^ k % 2
theorem pcN_le (n : Nat) : ∀ k, pcN n k ≤ k
  | 0 => Nat.le_refl 0
  | k + 1 => by
    have := pcN_le n k
    simp only [pcN]
    omega
theorem pcN_mod (n j : Nat) : ∀ k, k ≤ j → pcN (n % 2 ^ j) k = pcN n k
  | 0, _ => rfl
  | k + 1, h => by
    simp only [pcN]
    rw [pcN_mod n j k (by omega)]
    have e1 := Nat.testBit_eq_decide_div_mod_eq (x := n % 2 ^ j) (i := k)
    have e2 := Nat.testBit_eq_decide_div_mod_eq (x := n) (i := k)
    rw [Nat.testBit_mod_two_pow, decide_eq_true (show k < j by omega), Bool.true_and, e2] at e1
    have e3 : (n / 2 ^ k % 2 = 1) ↔ (n % 2 ^ j / 2 ^ k % 2 = 1) := by simpa using e1
    have a1 := Nat.mod_lt (n / 2 ^ k) (show 0 < 2 by decide)
    have a2 := Nat.mod_lt (n % 2 ^ j / 2 ^ k) (show 0 < 2 by decide)
    omega
theorem pcN_add (n j : Nat) : ∀ k, pcN n (j + k) = pcN n j + pcN (n / 2 ^ j) k
  | 0 => rfl
  | k + 1 => by
    rw [← Nat.add_assoc]
    simp only [pcN]
    rw [pcN_add n j k, Nat.div_div_eq_div_mul, ← Nat.pow_add]
    omega
theorem pcN_small {n j : Nat} (h : n < 2 ^ j) : ∀ k, pcN n (j + k) = pcN n j
  | 0 => rfl
  | k + 1 => by
    rw [← Nat.add_assoc]
    simp only [pcN]
    rw [pcN_small h k, Nat.div_eq_of_lt (Nat.lt_of_lt_of_le h (Nat.pow_le_pow_right (by decide) (by omega)))]
    rfl
/-- a mask of k bytes -/
def mkB (m : Nat) : Nat → Nat
  | 0 => 0
  | k + 1 => 256 * mkB m k + m
theorem and_spl {h l mh ml : Nat} (h1 : l < 256) (h2 : ml < 256) : (256 * h + l) &&& (256 * mh + ml) = 256 * (h &&& mh) + (l &&& ml) := by
  have hl : l &&& ml < 2 ^ 8 := Nat.and_lt_two_pow _ (by omega)
  apply Nat.eq_of_testBit_eq
  intro i
  rw [Nat.testBit_and, show 256 * h + l = 2 ^ 8 * h + l from rfl, show 256 * mh + ml = 2 ^ 8 * mh + ml from rfl, show 256 * (h &&& mh) + (l &&& ml) = 2 ^ 8 * (h &&& mh) + (l &&& ml) from rfl,
    Nat.testBit_two_pow_mul_add h (by omega), Nat.testBit_two_pow_mul_add mh (by omega), Nat.testBit_two_pow_mul_add _ hl]
  by_cases q : i < 8
  · simp only [q, if_true, Nat.testBit_and]
  · simp only [q, if_false, Nat.testBit_and]
def sA (n m : Nat) : Nat := n - (n / 2 &&& m)
def sB (n m : Nat) : Nat := (n &&& m) + (n / 4 &&& m)
def sC (n m : Nat) : Nat := n + n / 16 &&& m
theorem sA_y : ∀ y, y < 128 → (128 + y) &&& 85 = y &&& 85 := by decide +kernel
theorem sB_y : ∀ c, c < 4 → ∀ y, y < 64 → (64 * c + y) &&& 51 = y &&& 51 := by decide +kernel
theorem sC_y : ∀ c, c < 5 → ∀ y, y < 80 → (16 * c + y) &&& 15 = y &&& 15 := by decide +kernel
theorem sA_st {h l m : Nat} (hl : l < 256) : sA (256 * h + l) (256 * m + 85) = 256 * sA h m + sA l 85 := by
  unfold sA
  have e : (256 * h + l) / 2 = 256 * (h / 2) + (128 * (h % 2) + l / 2) := by omega
  rw [e, and_spl (by omega) (by decide)]
  have e2 : (128 * (h % 2) + l / 2) &&& 85 = l / 2 &&& 85 := by
    rcases Nat.mod_two_eq_zero_or_one h with q | q
    · rw [q]; simp
    · rw [q, Nat.mul_one]; exact sA_y _ (by omega)
  rw [e2]
  have a1 : h / 2 &&& m ≤ h / 2 := Nat.and_le_left
  have a2 : l / 2 &&& 85 ≤ l / 2 := Nat.and_le_left
  omega
theorem sB_st {h l m : Nat} (hl : l < 256) : sB (256 * h + l) (256 * m + 51) = 256 * sB h m + sB l 51 := by
  unfold sB
  have e : (256 * h + l) / 4 = 256 * (h / 4) + (64 * (h % 4) + l / 4) := by omega
  rw [e, and_spl (by omega) (by decide), and_spl (by omega) (by decide)]
  rw [sB_y _ (Nat.mod_lt _ (by decide)) _ (by omega)]
  omega
theorem sC_st {h l m : Nat} (hl : l ≤ 68) (hh : h % 16 < 5) : sC (256 * h + l) (256 * m + 15) = 256 * sC h m + sC l 15 := by
  unfold sC
  have e : 256 * h + l + (256 * h + l) / 16 = 256 * (h + h / 16) + (16 * (h % 16) + (l + l / 16)) := by omega
  rw [e, and_spl (by omega) (by decide), sC_y _ hh _ (by omega)]
theorem byte_1 : ∀ l, l < 256 → sA l 85 < 256 ∧ sB (sA l 85) 51 ≤ 68 ∧ sB (sA l 85) 51 % 16 < 5 ∧ sC (sB (sA l 85) 51) 15 = pcN l 8 := by decide +kernel
/-- the three steps, byte by byte -/
theorem abc_st (k : Nat) : ∀ n, n < 256 ^ k → sB (sA n (mkB 85 k)) (mkB 51 k) % 16 < 5 ∧ ∀ l, l < 256 → sC (sB (sA (256 * n + l) (mkB 85 (k + 1))) (mkB 51 (k + 1))) (mkB 15 (k + 1)) = 256 * sC (sB (sA n (mkB 85 k)) (mkB 51 k)) (mkB 15 k) + pcN l 8 := by
  induction k with
  | zero =>
    intro n hn
    have : n = 0 := by simpa using hn
    subst this
    refine ⟨by decide, fun l hl => ?_⟩
    have b := byte_1 l hl
    simp only [mkB, Nat.mul_zero, Nat.zero_add]
    rw [b.2.2.2]
    simp [sA, sB, sC]
  | succ k ih =>
    intro n hn
    have hd : n / 256 < 256 ^ k := by
      rw [Nat.pow_succ] at hn
      omega
    have e : n = 256 * (n / 256) + n % 256 := by omega
    have hl := Nat.mod_lt n (show 0 < 256 by decide)
    obtain ⟨i1, -⟩ := ih _ hd
    have b := byte_1 _ hl
    have key : sB (sA n (mkB 85 (k + 1))) (mkB 51 (k + 1)) = 256 * sB (sA (n / 256) (mkB 85 k)) (mkB 51 k) + sB (sA (n % 256) 85) 51 := by
      conv => lhs; rw [e]
      simp only [mkB]
      rw [sA_st hl, sB_st b.1]
    have g1 : sB (sA n (mkB 85 (k + 1))) (mkB 51 (k + 1)) % 16 < 5 := by
      rw [key]
      have := b.2.2.1
      omega
    refine ⟨g1, fun l hl2 => ?_⟩
    have b2 := byte_1 l hl2
    rw [show mkB 85 (k + 1 + 1) = 256 * mkB 85 (k + 1) + 85 from rfl, show mkB 51 (k + 1 + 1) = 256 * mkB 51 (k + 1) + 51 from rfl, show mkB 15 (k + 1 + 1) = 256 * mkB 15 (k + 1) + 15 from rfl,
      sA_st hl2, sB_st b2.1, sC_st b2.2.1 g1, b2.2.2.2]
theorem abc_at {k n : Nat} (h : n < 256 ^ (k + 1)) : sC (sB (sA n (mkB 85 (k + 1))) (mkB 51 (k + 1))) (mkB 15 (k + 1)) = 256 * sC (sB (sA (n / 256) (mkB 85 k)) (mkB 51 k)) (mkB 15 k) + pcN (n % 256) 8 := by
  have hd : n / 256 < 256 ^ k := by
    rw [Nat.pow_succ] at h
    omega
  have e : n = 256 * (n / 256) + n % 256 := by omega
  have := (abc_st k _ hd).2 _ (Nat.mod_lt n (show 0 < 256 by decide))
  rw [← e] at this
  exact this
theorem abc_0 : sC (sB (sA 0 (mkB 85 0)) (mkB 51 0)) (mkB 15 0) = 0 := by decide
theorem pc_byte {n k : Nat} : pcN n (8 + k) = pcN (n % 256) 8 + pcN (n / 256) k := by
  rw [pcN_add n 8 k, show n % 256 = n % 2 ^ 8 from rfl, pcN_mod n 8 8 (Nat.le_refl _)]
def dgQ (q0 q1 q2 q3 q4 q5 q6 q7 : Nat) : Nat := q0 + 256 * q1 + 65536 * q2 + 16777216 * q3 + 4294967296 * q4 + 1099511627776 * q5 + 281474976710656 * q6 + 72057594037927936 * q7
theorem dg_1 {q0 q1 q2 q3 q4 q5 q6 q7 : Nat} (h0 : q0 ≤ 255) : dgQ q0 q1 q2 q3 q4 q5 q6 q7 / 256 = dgQ q1 q2 q3 q4 q5 q6 q7 0 := by
  unfold dgQ
  omega
theorem dg_2 {q0 q1 q2 q3 q4 q5 q6 q7 : Nat} (h0 : q0 ≤ 255) (h1 : q1 ≤ 255) : dgQ q0 q1 q2 q3 q4 q5 q6 q7 / 65536 = dgQ q2 q3 q4 q5 q6 q7 0 0 := by
  rw [show 65536 = 256 * 256 from rfl, ← Nat.div_div_eq_div_mul, dg_1 h0, dg_1 h1]
theorem dg_4 {q0 q1 q2 q3 q4 q5 q6 q7 : Nat} (h0 : q0 ≤ 255) (h1 : q1 ≤ 255) (h2 : q2 ≤ 255) (h3 : q3 ≤ 255) : dgQ q0 q1 q2 q3 q4 q5 q6 q7 / 4294967296 = dgQ q4 q5 q6 q7 0 0 0 0 := by
  rw [show 4294967296 = 65536 * 65536 from rfl, ← Nat.div_div_eq_div_mul, dg_2 h0 h1, dg_2 h2 h3]
theorem dg_add {p0 p1 p2 p3 p4 p5 p6 p7 q0 q1 q2 q3 q4 q5 q6 q7 : Nat} : dgQ p0 p1 p2 p3 p4 p5 p6 p7 + dgQ q0 q1 q2 q3 q4 q5 q6 q7 = dgQ (p0 + q0) (p1 + q1) (p2 + q2) (p3 + q3) (p4 + q4) (p5 + q5) (p6 + q6) (p7 + q7) := by
  unfold dgQ
  simp only [Nat.mul_add]
  ac_rfl
theorem dg_mod {q0 q1 q2 q3 q4 q5 q6 q7 : Nat} (h0 : q0 ≤ 127) : dgQ q0 q1 q2 q3 q4 q5 q6 q7 % 2 ^ 32 % 2 ^ 7 = q0 := by
  have e : dgQ q0 q1 q2 q3 q4 q5 q6 q7 = q0 + 256 * (q1 + 256 * q2 + 65536 * q3 + 16777216 * q4 + 4294967296 * q5 + 1099511627776 * q6 + 281474976710656 * q7) := by
    unfold dgQ
    omega
  rw [e]
  generalize q1 + 256 * q2 + 65536 * q3 + 16777216 * q4 + 4294967296 * q5 + 1099511627776 * q6 + 281474976710656 * q7 = Y
  omega
/-- eight bytes summed up -/
theorem abc_8 {n : Nat} (hn : n < 2 ^ 64) : ∃ p0 p1 p2 p3 p4 p5 p6 p7 : Nat, p0 ≤ 8 ∧ p1 ≤ 8 ∧ p2 ≤ 8 ∧ p3 ≤ 8 ∧ p4 ≤ 8 ∧ p5 ≤ 8 ∧ p6 ≤ 8 ∧ p7 ≤ 8 ∧ pcN n 64 = p0 + p1 + p2 + p3 + p4 + p5 + p6 + p7 ∧
    sC (sB (sA n 6148914691236517205) 3689348814741910323) 1085102592571150095 = dgQ p0 p1 p2 p3 p4 p5 p6 p7 := by
  have h8 : n < 256 ^ (7 + 1) := by omega
  have t := abc_at (k := 7) h8
  rw [show mkB 85 (7 + 1) = 6148914691236517205 by decide, show mkB 51 (7 + 1) = 3689348814741910323 by decide, show mkB 15 (7 + 1) = 1085102592571150095 by decide,
    abc_at (k := 6) (by omega), abc_at (k := 5) (by omega), abc_at (k := 4) (by omega), abc_at (k := 3) (by omega), abc_at (k := 2) (by omega), abc_at (k := 1) (by omega), abc_at (k := 0) (by omega)] at t
  have z : n / 256 / 256 / 256 / 256 / 256 / 256 / 256 / 256 = 0 := by omega
  rw [z, abc_0] at t
  refine ⟨_, _, _, _, _, _, _, _, pcN_le (n % 256) 8, pcN_le (n / 256 % 256) 8, pcN_le (n / 256 / 256 % 256) 8, pcN_le (n / 256 / 256 / 256 % 256) 8, pcN_le (n / 256 / 256 / 256 / 256 % 256) 8, pcN_le (n / 256 / 256 / 256 / 256 / 256 % 256) 8, pcN_le (n / 256 / 256 / 256 / 256 / 256 / 256 % 256) 8, pcN_le (n / 256 / 256 / 256 / 256 / 256 / 256 / 256 % 256) 8, ?_, ?_⟩
  · rw [show 64 = 8 + (8 + (8 + (8 + (8 + (8 + (8 + (8 + 0))))))) from rfl, pc_byte, pc_byte, pc_byte, pc_byte, pc_byte, pc_byte, pc_byte, pc_byte]
    simp only [pcN]
    omega
  · rw [t]
    unfold dgQ
    omega
theorem litL (n : Nat) : (OfNat.ofNat n : Int64) = lN n := rfl
/-- bitCount of a long counts its bits -/
theorem us_8 {n : Nat} (hn : n < 2 ^ 64) : us64 (lN n) 8 = lN (n / 256) := us_N (k := 8) hn (by decide)
theorem us_16 {n : Nat} (hn : n < 2 ^ 64) : us64 (lN n) 16 = lN (n / 65536) := us_N (k := 16) hn (by decide)
theorem us_32 {n : Nat} (hn : n < 2 ^ 64) : us64 (lN n) 32 = lN (n / 4294967296) := us_N (k := 32) hn (by decide)
theorem dg_lt {q0 q1 q2 q3 q4 q5 q6 q7 : Nat} (h0 : q0 ≤ 32) (h1 : q1 ≤ 32) (h2 : q2 ≤ 32) (h3 : q3 ≤ 32) (h4 : q4 ≤ 32) (h5 : q5 ≤ 32) (h6 : q6 ≤ 32) (h7 : q7 ≤ 32) : dgQ q0 q1 q2 q3 q4 q5 q6 q7 < 2 ^ 64 := by
  unfold dgQ
  omega
theorem dg_all {p0 p1 p2 p3 p4 p5 p6 p7 s : Nat} (a0 : p0 ≤ 8) (a1 : p1 ≤ 8) (a2 : p2 ≤ 8) (a3 : p3 ≤ 8) (a4 : p4 ≤ 8) (a5 : p5 ≤ 8) (a6 : p6 ≤ 8) (a7 : p7 ≤ 8) (hs : s = p0 + p1 + p2 + p3 + p4 + p5 + p6 + p7) :
    ((lN (dgQ p0 p1 p2 p3 p4 p5 p6 p7) + us64 (lN (dgQ p0 p1 p2 p3 p4 p5 p6 p7)) 8 + us64 (lN (dgQ p0 p1 p2 p3 p4 p5 p6 p7) + us64 (lN (dgQ p0 p1 p2 p3 p4 p5 p6 p7)) 8) 16 + us64 (lN (dgQ p0 p1 p2 p3 p4 p5 p6 p7) + us64 (lN (dgQ p0 p1 p2 p3 p4 p5 p6 p7)) 8 + us64 (lN (dgQ p0 p1 p2 p3 p4 p5 p6 p7) + us64 (lN (dgQ p0 p1 p2 p3 p4 p5 p6 p7)) 8) 16) 32).toInt32 &&& 127) = nI s := by
  rw [us_8 (dg_lt (by omega) (by omega) (by omega) (by omega) (by omega) (by omega) (by omega) (by omega)), dg_1 (by omega), lN_add, dg_add]
  rw [us_16 (dg_lt (by omega) (by omega) (by omega) (by omega) (by omega) (by omega) (by omega) (by omega)), dg_2 (by omega) (by omega), lN_add, dg_add]
  rw [us_32 (dg_lt (by omega) (by omega) (by omega) (by omega) (by omega) (by omega) (by omega) (by omega)), dg_4 (by omega) (by omega) (by omega) (by omega), lN_add, dg_add, lN_i, pk_and _ 7 (by decide), hs]
  congr 1
  show dgQ _ _ _ _ _ _ _ _ % 2 ^ 32 % 2 ^ 7 = _
  rw [dg_mod (by omega)]
  omega
theorem bc64_N {n : Nat} (hn : n < 2 ^ 64) : bc64 (lN n) = nI (pcN n 64) := by
  obtain ⟨p0, p1, p2, p3, p4, p5, p6, p7, a0, a1, a2, a3, a4, a5, a6, a7, hs, hc⟩ := abc_8 hn
  unfold bc64
  have k1 : us64 (lN n) 1 = lN (n / 2) := us_N (k := 1) hn (by decide)
  have l1 : n / 2 &&& 6148914691236517205 ≤ n / 2 := Nat.and_le_left
  have e1 : lN n - (us64 (lN n) 1 &&& 6148914691236517205) = lN (sA n 6148914691236517205) := by
    rw [k1, litL 6148914691236517205, wb_and (by omega) (by decide), lN_sub (by omega)]
    rfl
  have la : sA n 6148914691236517205 < 2 ^ 64 := by unfold sA; omega
  simp only [e1]
  generalize sA n 6148914691236517205 = a at la hc ⊢
  have k2 : us64 (lN a) 2 = lN (a / 4) := us_N (k := 2) la (by decide)
  have e2 : (lN a &&& 3689348814741910323) + (us64 (lN a) 2 &&& 3689348814741910323) = lN (sB a 3689348814741910323) := by
    rw [k2, litL 3689348814741910323, wb_and la (by decide), wb_and (by omega) (by decide), lN_add]
    rfl
  simp only [e2]
  have lb : sB a 3689348814741910323 < 2 ^ 63 := by
    have q1 : a &&& 3689348814741910323 ≤ 3689348814741910323 := Nat.and_le_right
    have q2 : a / 4 &&& 3689348814741910323 ≤ 3689348814741910323 := Nat.and_le_right
    unfold sB
    omega
  generalize sB a 3689348814741910323 = b at lb hc ⊢
  have k3 : us64 (lN b) 4 = lN (b / 16) := us_N (k := 4) (by omega) (by decide)
  have e3 : (lN b + us64 (lN b) 4) &&& 1085102592571150095 = lN (sC b 1085102592571150095) := by
    rw [k3, lN_add, litL 1085102592571150095, wb_and (by omega) (by decide)]
    rfl
  simp only [e3, hc]
  rw [dg_all a0 a1 a2 a3 a4 a5 a6 a7 hs]
/-- the bit of a word -/
def lb (x : Int64) (i : Nat) : Bool := x.toBitVec.getLsbD i
theorem l_l : ∀ k, k < 64 → (((nI k).toInt64 &&& 63).toBitVec.smod 64).toNat = k := by decide +kernel
theorem ls_bit (x : Int64) {k : Nat} (hk : k < 64) : (x >>> ((nI k).toInt64 &&& 63)) &&& 1 = 1 ↔ lb x k = true := by
  have e : (x >>> ((nI k).toInt64 &&& 63)).toBitVec = x.toBitVec.sshiftRight k := by
    rw [Int64.toBitVec_shiftRight]
    show x.toBitVec.sshiftRight (((nI k).toInt64 &&& 63).toBitVec.smod 64).toNat = _
    rw [l_l k hk]
  unfold lb
  rw [← Int64.toBitVec_inj, Int64.toBitVec_and, e]
  show x.toBitVec.sshiftRight k &&& 1#64 = 1#64 ↔ _
  constructor
  · intro h
    have t : (x.toBitVec.sshiftRight k &&& 1#64).getLsbD 0 = (1#64).getLsbD 0 := by rw [h]
    rw [BitVec.getLsbD_and, BitVec.getLsbD_sshiftRight] at t
    simpa [hk] using t
  · intro h
    apply BitVec.eq_of_getLsbD_eq
    intro i hi
    rw [BitVec.getLsbD_and, BitVec.getLsbD_sshiftRight]
    cases i with
    | zero => simp [hk, h]
    | succ i => simp
theorem lb_big {x : Int64} {i : Nat} (h : 64 ≤ i) : lb x i = false := BitVec.getLsbD_of_ge _ _ h
theorem lb_ext {x y : Int64} (h : ∀ i, i < 64 → lb x i = lb y i) : x = y := wb_inj (BitVec.eq_of_getLsbD_eq (fun i hi => h i hi))
theorem lb_and (x y : Int64) (i : Nat) : lb (x &&& y) i = (lb x i && lb y i) := by unfold lb; rw [Int64.toBitVec_and, BitVec.getLsbD_and]
theorem lb_or (x y : Int64) (i : Nat) : lb (x ||| y) i = (lb x i || lb y i) := by unfold lb; rw [Int64.toBitVec_or, BitVec.getLsbD_or]
theorem lb_xor (x y : Int64) (i : Nat) : lb (x ^^^ y) i = (lb x i ^^ lb y i) := by unfold lb; rw [Int64.toBitVec_xor, BitVec.getLsbD_xor]
theorem lb_m1 : ∀ i, i < 64 → lb (-1) i = true := by decide +kernel
theorem lb_0 (i : Nat) : lb 0 i = false := BitVec.getLsbD_zero
theorem lb_24 : ∀ i, i < 64 → lb 16777215 i = decide (i < 24) := by decide +kernel
theorem lb_one {k : Nat} (hk : k < 64) (i : Nat) : lb ((1 : Int64) <<< ((nI k).toInt64 &&& 63)) i = decide (i = k) := by
  have e : ((1 : Int64) <<< ((nI k).toInt64 &&& 63)).toBitVec = 1#64 <<< k := by
    rw [Int64.toBitVec_shiftLeft]
    show (1 : Int64).toBitVec <<< (((nI k).toInt64 &&& 63).toBitVec.smod 64).toNat = _
    rw [l_l k hk]
    rfl
  unfold lb
  rw [e, BitVec.getLsbD_shiftLeft]
  by_cases h : i = k
  · subst h; simp [hk]
  · by_cases h2 : i < 64
    · by_cases h3 : i < k
      · simp [h, h3]
      · have h4 : i - k ≠ 0 := by omega
        simp [h, h3, h4]
    · have h4 : i - k ≠ 0 := by omega
      simp [h, h2, h4]
theorem lb_N {n i : Nat} (hi : i < 64) : lb (lN n) i = n.testBit i := by
  unfold lb
  rw [wb_tb, BitVec.getLsbD_ofNat]
  simp [hi]
/-- how many of the first n -/
def ctB (p : Nat → Bool) : Nat → Nat
  | 0 => 0
  | n + 1 => ctB p n + (if p n then 1 else 0)
theorem ctB_le (p : Nat → Bool) : ∀ n, ctB p n ≤ n
  | 0 => Nat.le_refl 0
  | n + 1 => by
    have := ctB_le p n
    simp only [ctB]
    split <;> omega
theorem ctB_cg {p q : Nat → Bool} : ∀ n, (∀ k, k < n → p k = q k) → ctB p n = ctB q n
  | 0, _ => rfl
  | n + 1, h => by
    simp only [ctB]
    rw [ctB_cg n (fun k hk => h k (by omega)), h n (by omega)]
theorem ctB_add (p : Nat → Bool) (m : Nat) : ∀ n, ctB p (m + n) = ctB p m + ctB (fun k => p (m + k)) n
  | 0 => rfl
  | n + 1 => by
    rw [← Nat.add_assoc]
    simp only [ctB]
    rw [ctB_add p m n]
    omega
theorem ctB_no {p : Nat → Bool} : ∀ n, (∀ k, k < n → p k = false) → ctB p n = 0
  | 0, _ => rfl
  | n + 1, h => by
    simp only [ctB]
    rw [ctB_no n (fun k hk => h k (by omega)), h n (by omega)]
    rfl
theorem pcN_ct {n : Nat} : ∀ k, k ≤ 64 → pcN n k = ctB (lb (lN n)) k
  | 0, _ => rfl
  | k + 1, h => by
    simp only [pcN, ctB]
    rw [pcN_ct k (by omega), lb_N (by omega), Nat.testBit_eq_decide_div_mod_eq]
    have := Nat.mod_lt (n / 2 ^ k) (show 0 < 2 by decide)
    by_cases q : n / 2 ^ k % 2 = 1
    · simp [q]
    · have : n / 2 ^ k % 2 = 0 := by omega
      simp [this]
theorem bc64_ct (x : Int64) : bc64 x = nI (ctB (lb x) 64) := by
  obtain ⟨n, hn, rfl⟩ := wb_of x
  rw [bc64_N hn, pcN_ct 64 (Nat.le_refl _)]
/-- whether a code can be, as a Bool -/
def kb (K : Nat → Int64) (a c : Nat) : Bool := lb (K (a + c / 64)) (c % 64)
theorem kbit_iff {K : Nat → Int64} {a c : Nat} : kbit K a c ↔ kb K a c = true := ls_bit _ (Nat.mod_lt _ (by decide))
theorem kb_word {K : Nat → Int64} {a w i : Nat} (hi : i < 64) : kb K a (64 * w + i) = lb (K (a + w)) i := by
  unfold kb
  rw [show (64 * w + i) / 64 = w by omega, show (64 * w + i) % 64 = i by omega]
theorem leftP_ct {K : Nat → Int64} {a : Nat} : ∀ n, leftP K a n = nI (ctB (kb K a) (64 * n))
  | 0 => rfl
  | n + 1 => by
    simp only [leftP]
    rw [leftP_ct n, bc64_ct, nI_add, show 64 * (n + 1) = 64 * n + 64 by omega, ctB_add]
    congr 2
    exact ctB_cg 64 (fun k hk => (kb_word hk).symm)
/-- no code beyond 215 -/
def msk (K : Nat → Int64) (a : Nat) : Prop := K (a + 3) &&& 16777215 = K (a + 3)
theorem msk_no {K : Nat → Int64} {a c : Nat} (h : msk K a) (h1 : 216 ≤ c) (h2 : c < 256) : kb K a c = false := by
  have e : c = 64 * 3 + (c - 192) := by omega
  rw [e, kb_word (by omega), ← h, lb_and, lb_24 _ (by omega), decide_eq_false (by omega), Bool.and_false]
theorem left_216 {K : Nat → Int64} {a : Nat} (h : msk K a) : leftP K a 4 = nI (ctB (kb K a) 216) := by
  rw [leftP_ct 4, show 64 * 4 = 216 + 40 from rfl, ctB_add, ctB_no 40 (fun k hk => msk_no h (by omega) (by omega)), Nat.add_zero]
theorem enl_ct {S : Nat → Prop} {p : Nat → Bool} (h : ∀ c, S c ↔ p c = true) : ∀ n, (enl S n).length = ctB p n
  | 0 => rfl
  | n + 1 => by
    by_cases q : S n
    · rw [enl_t q, List.length_append, enl_ct h n]
      simp [ctB, (h n).mp q]
    · rw [enl_f q, enl_ct h n]
      have : p n = false := by
        cases e : p n
        · rfl
        · exact absurd ((h n).mpr e) q
      simp [ctB, this]
theorem left_enl {K : Nat → Int64} {a : Nat} (h : msk K a) : leftP K a 4 = nI (enl (kbit K a) 216).length := by
  rw [left_216 h, enl_ct (fun c => kbit_iff) 216]
theorem left_le {K : Nat → Int64} {a : Nat} (h : msk K a) : ∃ n, n ≤ 216 ∧ leftP K a 4 = nI n := ⟨_, ctB_le _ 216, left_216 h⟩
