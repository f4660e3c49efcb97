/-! how many turnings are needed at worst -/
theorem bN_or {P : Nat → Prop} {n : Nat} : bitsN P n + 2 ^ n = bitsN P n ||| 2 ^ n := by
  have h := Nat.two_pow_add_eq_or_of_lt (bitsN_lt P n) 1
  rw [Nat.mul_one] at h
  rw [Nat.add_comm, h, Nat.or_comm]
theorem bitsP_bN {P : Nat → Prop} : ∀ n, n ≤ 31 → bitsP P n = nI (bitsN P n)
  | 0, _ => rfl
  | n + 1, h => by
    by_cases z : P n
    · rw [← bitsP_t z, bitsP_bN n (by omega), set_N (by omega), bitsN_t z, bN_or]
    · rw [← bitsP_f z, bitsP_bN n (by omega), bitsN_f z]
theorem bitsN_tb {P : Nat → Prop} {j : Nat} : ∀ n, (bitsN P n).testBit j = true ↔ j < n ∧ P j
  | 0 => by simp [bitsN]
  | n + 1 => by
    have ih := bitsN_tb (P := P) (j := j) n
    by_cases z : P n
    · rw [bitsN_t z, bN_or, set_tb, Bool.or_eq_true, ih, decide_eq_true_iff]
      constructor
      · rintro (y | y)
        · exact ⟨by omega, y.2⟩
        · exact ⟨by omega, by rw [y]; exact z⟩
      · rintro ⟨y1, y2⟩
        by_cases w : j = n
        · exact Or.inr w
        · exact Or.inl ⟨by omega, y2⟩
    · rw [bitsN_f z, ih]
      constructor
      · exact fun y => ⟨by omega, y.2⟩
      · rintro ⟨y1, y2⟩
        have : j ≠ n := fun w => z (by rw [← w]; exact y2)
        exact ⟨by omega, y2⟩
theorem pcn_sub : ∀ a, a < 64 → ∀ b, b < 64 → a &&& b = a → a ≠ b → pcn a < pcn b := by decide +kernel
theorem pcn_two : ∀ b, b < 64 → 2 ≤ pcn b → ∃ i, i < 6 ∧ ∃ j, j < 6 ∧ i ≠ j ∧ b.testBit i = true ∧ b.testBit j = true := by decide +kernel
theorem pcn_one : ∀ b, b < 64 → 1 ≤ b → (∃ i, i < 6 ∧ b.testBit i = true) ∧ 1 ≤ pcn b ∧ pcn b ≤ 6 := by decide +kernel
/-- the codes by their places, and who sounds like whom -/
def alH (m : Nat) (lk : Nat → Nat) (al : Nat → Nat → Nat) : Prop := (∀ t i, i < m → lk i ≠ t → (al t i).testBit i = true) ∧ (∀ t i j, i < m → (al t i).testBit j = true → lk j ≠ t) ∧ ∀ t i, i < m → lk i = t → al t i = 0
def rB (lk : Nat → Nat) (al : Nat → Nat → Nat) (R : Nat → Nat) (set t : Nat) : Nat → Nat
  | 0 => 0
  | i + 1 => if set.testBit i = true ∧ lk i ≠ t then max (rB lk al R set t i) (if al t i &&& set = set then 1000000 else R (al t i &&& set)) else rB lk al R set t i
def mnT (lk : Nat → Nat) (al : Nat → Nat → Nat) (K : Nat) (R : Nat → Nat) (set : Nat) : Nat → Nat
  | 0 => 1000000
  | t + 1 => min (mnT lk al K R set t) (1 + rB lk al R set t K)
def Rn (lk : Nat → Nat) (al : Nat → Nat → Nat) (K T : Nat) : Nat → Nat → Nat
  | 0 => fun _ => 0
  | n + 1 => fun x => if x = n then mnT lk al K (Rn lk al K T n) n T else Rn lk al K T n x
theorem Rn_lt {lk : Nat → Nat} {al : Nat → Nat → Nat} {K T n x : Nat} (h : x < n) : Rn lk al K T (n + 1) x = Rn lk al K T n x := by
  simp only [Rn]
  rw [if_neg (by omega)]
theorem Rn_at {lk : Nat → Nat} {al : Nat → Nat → Nat} {K T n : Nat} : Rn lk al K T (n + 1) n = mnT lk al K (Rn lk al K T n) n T := by
  simp only [Rn, if_true]
theorem mnT_le {lk : Nat → Nat} {al : Nat → Nat → Nat} {K : Nat} {R : Nat → Nat} {set t : Nat} : ∀ T, t < T → mnT lk al K R set T ≤ 1 + rB lk al R set t K
  | 0, h => by omega
  | T + 1, h => by
    simp only [mnT]
    by_cases z : t = T
    · rw [z]; omega
    · have := mnT_le (lk := lk) (al := al) (K := K) (R := R) (set := set) T (show t < T by omega)
      omega
theorem mnT_ge {lk : Nat → Nat} {al : Nat → Nat → Nat} {K : Nat} {R : Nat → Nat} {set c : Nat} (hc : c ≤ 1000000) : ∀ T, (∀ t, t < T → c ≤ 1 + rB lk al R set t K) → c ≤ mnT lk al K R set T
  | 0, _ => hc
  | T + 1, h => by
    have h1 := mnT_ge (lk := lk) (al := al) (K := K) (R := R) (set := set) hc T (fun t ht => h t (by omega))
    have h2 := h T (by omega)
    simp only [mnT]
    omega
theorem mnT_far {lk : Nat → Nat} {al : Nat → Nat → Nat} {K : Nat} {R : Nat → Nat} {set : Nat} : ∀ T, mnT lk al K R set T ≤ 1000000
  | 0 => Nat.le_refl _
  | T + 1 => by
    have := mnT_far (lk := lk) (al := al) (K := K) (R := R) (set := set) T
    simp only [mnT]
    omega
theorem rB_ge {lk : Nat → Nat} {al : Nat → Nat → Nat} {R : Nat → Nat} {set t k : Nat} (hk : set.testBit k = true) (hl : lk k ≠ t) : ∀ K, k < K → (if al t k &&& set = set then 1000000 else R (al t k &&& set)) ≤ rB lk al R set t K
  | 0, h => by omega
  | K + 1, h => by
    simp only [rB]
    by_cases z : k = K
    · subst z
      rw [if_pos (show set.testBit k = true ∧ lk k ≠ t from ⟨hk, hl⟩)]
      exact Nat.le_max_right _ _
    · have := rB_ge (al := al) (R := R) hk hl K (by omega)
      by_cases y : set.testBit K = true ∧ lk K ≠ t
      · rw [if_pos y]
        exact Nat.le_trans this (Nat.le_max_left _ _)
      · rw [if_neg y]; exact this
theorem rB_le {lk : Nat → Nat} {al : Nat → Nat → Nat} {R : Nat → Nat} {set t b : Nat} : ∀ K, (∀ k, k < K → set.testBit k = true → lk k ≠ t → (if al t k &&& set = set then 1000000 else R (al t k &&& set)) ≤ b) → rB lk al R set t K ≤ b
  | 0, _ => Nat.zero_le b
  | K + 1, h => by
    have ih := rB_le (lk := lk) (al := al) (R := R) (set := set) (t := t) (b := b) K (fun k hk => h k (by omega))
    simp only [rB]
    by_cases y : set.testBit K = true ∧ lk K ≠ t
    · rw [if_pos y]
      exact Nat.max_le.mpr ⟨ih, h K (by omega) y.1 y.2⟩
    · rw [if_neg y]; exact ih
theorem tb_lt {n k m : Nat} (hn : n < 2 ^ m) (h : n.testBit k = true) : k < m := by
  refine Classical.byContradiction fun z => ?_
  have : n < 2 ^ k := Nat.lt_of_lt_of_le hn (Nat.pow_le_pow_right (by decide) (by omega))
  rw [Nat.testBit_lt_two_pow this] at h
  exact absurd h (by decide)
theorem rB_K {lk : Nat → Nat} {al : Nat → Nat → Nat} {R : Nat → Nat} {set t m : Nat} (hs : set < 2 ^ m) : ∀ k, rB lk al R set t (m + k) = rB lk al R set t m
  | 0 => rfl
  | k + 1 => by
    rw [← Nat.add_assoc]
    simp only [rB]
    rw [if_neg (fun z => absurd (tb_lt hs z.1) (by omega)), rB_K hs k]
theorem part_in {m : Nat} {lk : Nat → Nat} {al : Nat → Nat → Nat} (h : alH m lk al) {set t i : Nat} (hs : set < 2 ^ m) (hi : set.testBit i = true) (hl : lk i ≠ t) : 1 ≤ al t i &&& set ∧ al t i &&& set ≤ set := by
  refine ⟨?_, Nat.and_le_right⟩
  have : (al t i &&& set).testBit i = true := by rw [Nat.testBit_and, h.1 t i (tb_lt hs hi) hl, hi]; rfl
  refine Classical.byContradiction fun z => ?_
  rw [show al t i &&& set = 0 by omega, Nat.zero_testBit] at this
  exact absurd this (by decide)
def RG (R : Nat → Nat) (n : Nat) : Prop := ∀ x, 1 ≤ x → x < n → 1 ≤ R x ∧ R x ≤ pcn x ∧ (2 ≤ pcn x → 2 ≤ R x)
theorem p64 {m n : Nat} (hm : m ≤ 6) (hn : n < 2 ^ m) : n < 64 := Nat.lt_of_lt_of_le hn (Nat.pow_le_pow_right (by decide) hm)
/-- what is known of a set once it is of those below -/
theorem RG_V {m K T n : Nat} {lk : Nat → Nat} {al : Nat → Nat → Nat} {R : Nat → Nat} (hm : m ≤ 6) (hK : K = 6) (hT : T = 216) (h : alH m lk al) (h2 : ∀ i, i < m → lk i < 216) (h3 : ∀ i j, i < m → j < m → lk i = lk j → i = j) (hR : RG R n) (h1 : 1 ≤ n) (hn : n < 2 ^ m) : 1 ≤ mnT lk al K R n T ∧ mnT lk al K R n T ≤ pcn n ∧ (2 ≤ pcn n → 2 ≤ mnT lk al K R n T) := by
  have n64 := p64 hm hn
  obtain ⟨⟨k, k6, hk⟩, p1, p6⟩ := pcn_one n n64 h1
  have km := tb_lt hn hk
  refine ⟨mnT_ge (by omega) T (fun t _ => by omega), ?_, fun hp => mnT_ge (by omega) T (fun t _ => ?_)⟩
  · have a := mnT_le (lk := lk) (al := al) (K := K) (R := R) (set := n) (t := lk k) T (by have := h2 k km; omega)
    have b : rB lk al R n (lk k) K ≤ pcn n - 1 := by
      refine rB_le K (fun i _ hi hl => ?_)
      have im := tb_lt hn hi
      have hk2 : (al (lk k) i &&& n).testBit k = false := by
        cases z : (al (lk k) i &&& n).testBit k
        · rfl
        · rw [Nat.testBit_and, Bool.and_eq_true] at z
          exact absurd rfl (h.2.1 (lk k) i k im z.1)
      have ne : al (lk k) i &&& n ≠ n := fun z => by rw [z, hk] at hk2; exact absurd hk2 (by decide)
      rw [if_neg ne]
      obtain ⟨q1, q2⟩ := part_in h hn hi hl
      have q3 := (hR _ q1 (by omega)).2.1
      have q4 := pcn_sub (al (lk k) i &&& n) (by omega) n n64 (by rw [Nat.and_assoc, Nat.and_self]) ne
      omega
    omega
  · obtain ⟨i, i6, j, j6, ij, hi, hj⟩ := pcn_two n n64 hp
    have pick : ∀ x, n.testBit x = true → lk x ≠ t → 2 ≤ 1 + rB lk al R n t K := fun x hx hl => by
      have a := rB_ge (al := al) (R := R) hx hl K (by have := tb_lt hn hx; omega)
      obtain ⟨q1, q2⟩ := part_in h hn hx hl
      by_cases z : al t x &&& n = n
      · rw [if_pos z] at a; omega
      · rw [if_neg z] at a
        have q3 := (hR _ q1 (by omega)).1
        omega
    by_cases z : lk i = t
    · exact pick j hj (fun y => ij (h3 i j (tb_lt hn hi) (tb_lt hn hj) (z.trans y.symm)))
    · exact pick i hi z
theorem RG_n {m K T : Nat} {lk : Nat → Nat} {al : Nat → Nat → Nat} (hm : m ≤ 6) (hK : K = 6) (hT : T = 216) (h : alH m lk al) (h2 : ∀ i, i < m → lk i < 216) (h3 : ∀ i j, i < m → j < m → lk i = lk j → i = j) : ∀ n, n ≤ 2 ^ m → RG (Rn lk al K T n) n
  | 0, _ => fun x _ hx => absurd hx (by omega)
  | n + 1, hn => fun x h1 hx => by
    have ih := RG_n (K := K) (T := T) hm hK hT h h2 h3 n (by omega)
    by_cases z : x = n
    · subst z
      rw [Rn_at]
      exact RG_V hm hK hT h h2 h3 ih h1 (by omega)
    · rw [Rn_lt (by omega)]
      exact ih x h1 (by omega)
/-- the class's count behind a turning, and the reference's -/
theorem nb_rB {m K n t cur : Nat} {lk : Nat → Nat} {al : Nat → Nat → Nat} {R nd : Nat → Nat} (hm : m ≤ 6) (hK : K = 6) (h : alH m lk al) (hn : n < 2 ^ m) (d0 : nd 0 = 0) (dn : nd n = cur) (dx : ∀ x, 1 ≤ x → x < n → nd x = R x) : (cur ≤ nbP nd (al t) n m ∧ 1000000 ≤ rB lk al R n t K) ∨ nbP nd (al t) n m = rB lk al R n t K := by
  have e : K = m + (6 - m) := by omega
  rw [e, rB_K hn]
  have key : ∀ i, i ≤ m → (cur ≤ nbP nd (al t) n i ∧ 1000000 ≤ rB lk al R n t i) ∨ nbP nd (al t) n i = rB lk al R n t i := by
    intro i
    induction i with
    | zero => exact fun _ => Or.inr rfl
    | succ i ih =>
      intro hi
      have ih := ih (by omega)
      simp only [nbP, rB]
      by_cases hb : n.testBit i = true
      · rw [if_pos hb]
        by_cases hl : lk i = t
        · rw [if_neg (fun z => z.2 hl), h.2.2 t i (by omega) hl, Nat.zero_and, d0, Nat.max_eq_left (Nat.zero_le _)]
          exact ih
        · rw [if_pos ⟨hb, hl⟩]
          obtain ⟨q1, q2⟩ := part_in h hn hb hl
          by_cases z : al t i &&& n = n
          · rw [if_pos z, z, dn]
            exact Or.inl ⟨Nat.le_max_right _ _, Nat.le_max_right _ _⟩
          · rw [if_neg z, dx _ q1 (by omega)]
            rcases ih with ih | ih
            · exact Or.inl ⟨Nat.le_trans ih.1 (Nat.le_max_left _ _), Nat.le_trans ih.2 (Nat.le_max_left _ _)⟩
            · rw [ih]; exact Or.inr rfl
      · rw [if_neg hb, if_neg (fun z => hb z.1)]
        exact ih
  exact key m (Nat.le_refl _)
/-- the places of a list, who sounds alike -/
noncomputable def alN (f : Nat → Int32) (l : List Nat) (t i : Nat) : Nat := bitsN (alP f t l i) l.length
theorem alN_H {f : Nat → Int32} {l : List Nat} : alH l.length (fun i => l.getD i 0) (alN f l) := by
  refine ⟨fun t i hi hl => ?_, fun t i j hi hj => ?_, fun t i hi hl => ?_⟩
  · exact (bitsN_tb _).mpr ⟨hi, hl, hl, rfl⟩
  · exact ((bitsN_tb _).mp hj).2.2.1
  · apply Nat.eq_of_testBit_eq
    intro j
    rw [Nat.zero_testBit]
    cases z : (alN f l t i).testBit j
    · rfl
    · exact absurd hl ((bitsN_tb _).mp z).2.1
theorem enl_inj {S : Nat → Prop} {n i j : Nat} (hi : i < (enl S n).length) (hj : j < (enl S n).length) (e : (enl S n).getD i 0 = (enl S n).getD j 0) : i = j := by
  obtain ⟨c, _, _, h1, h2⟩ := enl_kth n hi
  obtain ⟨c', _, _, h3, h4⟩ := enl_kth n hj
  rw [h2, h4] at e
  rw [← h1, ← h3, e]
