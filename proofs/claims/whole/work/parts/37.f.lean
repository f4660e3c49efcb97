/-! bits of ints that are small numbers -/
theorem sLet_i {α : Type} {v : α} {k : α → Prop} (h : k v) : sLet v k := h
theorem one_N : ∀ v, v < 31 → (1 : Int32) <<< (nI v &&& 31) = nI (2 ^ v) := by decide +kernel
theorem nI_or (a b : Nat) : nI a ||| nI b = nI (a ||| b) := by
  apply Int32.toBitVec_inj.mp
  rw [Int32.toBitVec_or]
  show BitVec.ofNat 32 a ||| BitVec.ofNat 32 b = BitVec.ofNat 32 (a ||| b)
  apply BitVec.eq_of_getLsbD_eq
  intro i hi
  simp [BitVec.getLsbD_ofNat, Nat.testBit_or, hi]
theorem nI_xor (a b : Nat) : nI a ^^^ nI b = nI (a ^^^ b) := by
  apply Int32.toBitVec_inj.mp
  rw [Int32.toBitVec_xor]
  show BitVec.ofNat 32 a ^^^ BitVec.ofNat 32 b = BitVec.ofNat 32 (a ^^^ b)
  apply BitVec.eq_of_getLsbD_eq
  intro i hi
  simp [BitVec.getLsbD_ofNat, Nat.testBit_xor, hi]
theorem m1_N : (-1 : Int32) = nI 4294967295 := by decide +kernel
theorem tb_m1 (i : Nat) : (4294967295 : Nat).testBit i = decide (i < 32) := Nat.testBit_two_pow_sub_one 32 i
/-- the number whose bit v is cleared -/
def clr (n v : Nat) : Nat := n &&& (2 ^ v ^^^ 4294967295)
theorem clr_N {n v : Nat} (hv : v < 31) : nI n &&& (((1 : Int32) <<< (nI v &&& 31)) ^^^ (-1)) = nI (clr n v) := by
  rw [one_N v hv, m1_N, nI_xor, nI_and]
  rfl
theorem clr_lt {n v k : Nat} (h : n < 2 ^ k) : clr n v < 2 ^ k := Nat.lt_of_le_of_lt Nat.and_le_left h
theorem clr_tb {n v i k : Nat} (h : n < 2 ^ k) (hk : k ≤ 32) : (clr n v).testBit i = (n.testBit i && decide (i ≠ v)) := by
  unfold clr
  rw [Nat.testBit_and, Nat.testBit_xor, tb_m1, Nat.testBit_two_pow]
  by_cases hi : i < k
  · have : i < 32 := by omega
    by_cases q : v = i
    · subst q; simp [this]
    · have q2 : ¬ i = v := fun e => q e.symm
      simp [this, q, q2]
  · rw [Nat.testBit_lt_two_pow (Nat.lt_of_lt_of_le h (Nat.pow_le_pow_right (by decide) (by omega)))]
    rfl
theorem set_N {n v : Nat} (hv : v < 31) : nI n ||| ((1 : Int32) <<< (nI v &&& 31)) = nI (n ||| 2 ^ v) := by
  rw [one_N v hv, nI_or]
theorem set_lt {n v k : Nat} (h : n < 2 ^ k) (hv : v < k) : n ||| 2 ^ v < 2 ^ k := Nat.or_lt_two_pow h (Nat.pow_lt_pow_right (by decide) hv)
theorem set_tb {n v i : Nat} : (n ||| 2 ^ v).testBit i = (n.testBit i || decide (i = v)) := by
  rw [Nat.testBit_or, Nat.testBit_two_pow]
  by_cases q : v = i
  · subst q; simp
  · have q2 : ¬ i = v := fun e => q e.symm
    simp [q, q2]
theorem has_tb {n v : Nat} (hn : n < 2 ^ 31) (hv : v < 31) : (nI n >>> (nI v &&& 31)) &&& 1 = 1 ↔ n.testBit v = true := hasB_tb hn hv
theorem gd_all : ∀ g, g < 128 → ∀ w, w < 7 → (nI g ||| ((1 : Int32) <<< (nI w &&& 31)) = ((nI g &&& (((1 : Int32) <<< (nI w &&& 31)) ^^^ (-1))) ||| ((1 : Int32) <<< (nI w &&& 31)))) ∧ (nI g ||| ((1 : Int32) <<< (nI w &&& 31)) = nI g ↔ g.testBit w = true) ∧ (nI g &&& (((1 : Int32) <<< (nI w &&& 31)) ^^^ (-1)) = nI g ↔ g.testBit w = false) := by decide +kernel
/-- what is remembered, and the rest as it was -/
theorem remN {M M1 N : sk_M} {x : Int64} (m1 : ∀ c, 140 ≤ c → M1.1 c = M.1 c) (m2 : ∀ c, 140 ≤ c → M1.2 c = M.2 c) (f : remF (sk_si (sk_sl M1 158 0 x) 140 0 0) N) : N.1 141 = M.1 141 ∧ N.2 146 = M.2 146 ∧ N.1 140 0 = 0 ∧ N.2 158 0 = x ∧ (∀ c, c < 140 → N.1 c = M1.1 c) ∧ (∀ c, c < 140 → N.2 c = M1.2 c) := by
  refine ⟨?_, ?_, ?_, ?_, fun c hc => ?_, fun c hc => ?_⟩
  · rw [f.1 141 (by omega) (by omega), si_c (by omega)]
    exact m1 141 (by omega)
  · rw [f.2.2 146 (by omega)]
    show (sk_sl M1 158 0 x).2 146 = _
    rw [sl_c (by omega)]
    exact m2 146 (by omega)
  · rw [f.2.1 0 (by omega)]
    exact th_0
  · rw [f.2.2 158 (by omega)]
    show (sk_sl M1 158 0 x).2 158 0 = _
    rw [rd_sl, if_pos ⟨rfl, rfl⟩]
  · rw [f.1 c (by omega) (by omega), si_c (by omega)]
    rfl
  · rw [f.2.2 c (by omega)]
    show (sk_sl M1 158 0 x).2 c = _
    rw [sl_c (by omega)]
