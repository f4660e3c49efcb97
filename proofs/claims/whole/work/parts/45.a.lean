/-! the fewest contracts to break: breaks -/
def wt (X : Nat) : Nat → Nat
  | 0 => 0
  | k + 1 => wt X k + (if X.testBit k = true then 4096 + 2 ^ k else 0)
theorem bc_64 : ∀ a, a < 64 → ∀ b, b < 64 → bc32 (nI (64 * a + b)) = nI (pcN (64 * a + b) 12) ∧ wt (64 * a + b) 12 = 4096 * pcN (64 * a + b) 12 + (64 * a + b) ∧ pcN (64 * a + b) 12 ≤ 12 := by decide +kernel
theorem bc_12 (i : Nat) (hi : i < 4096) : bc32 (nI i) = nI (pcN i 12) ∧ wt i 12 = 4096 * pcN i 12 + i ∧ pcN i 12 ≤ 12 := by
  have h := bc_64 (i / 64) (by omega) (i % 64) (by omega)
  rwa [show 64 * (i / 64) + i % 64 = i by omega] at h
def ntz (i : Nat) : Nat := (f_J6_numberOfTrailingZeros_0f7a4 (nI i)).toNatClampNeg
theorem ntz_64 : ∀ a, a < 64 → ∀ b, b < 64 → 64 * a + b ≠ 0 → f_J6_numberOfTrailingZeros_0f7a4 (nI (64 * a + b)) = nI (ntz (64 * a + b)) ∧ ntz (64 * a + b) < 12 ∧ (64 * a + b).testBit (ntz (64 * a + b)) = true := by decide +kernel
theorem ntz_12 (i : Nat) (hi : i < 4096) (h0 : i ≠ 0) : f_J6_numberOfTrailingZeros_0f7a4 (nI i) = nI (ntz i) ∧ ntz i < 12 ∧ i.testBit (ntz i) = true := by
  have h := ntz_64 (i / 64) (by omega) (i % 64) (by omega)
  rw [show 64 * (i / 64) + i % 64 = i by omega] at h
  exact h h0
theorem wt_inj {X Y : Nat} (hX : X < 4096) (hY : Y < 4096) (h : wt X 12 = wt Y 12) : X = Y := by
  rw [(bc_12 X hX).2.1, (bc_12 Y hY).2.1] at h
  omega
theorem wt_sN {X : Nat} : ∀ n, wt X n = sN (fun c => if X.testBit c = true then 4096 + 2 ^ c else 0) n
  | 0 => rfl
  | n + 1 => by simp only [wt, sN]; rw [wt_sN n]
theorem sN_le {f g : Nat → Nat} : ∀ n, (∀ i, i < n → f i ≤ g i) → sN f n ≤ sN g n
  | 0, _ => Nat.le_refl 0
  | n + 1, h => by
    have := sN_le n (fun i hi => h i (by omega))
    have := h n (by omega)
    simp only [sN]
    omega
theorem sN_one {r x : Nat} : ∀ n, r < n → sN (fun j => if r = j then x else 0) n = x
  | 0, h => by omega
  | n + 1, h => by
    simp only [sN]
    by_cases z : r = n
    · subst z
      rw [if_pos rfl]
      have : sN (fun j => if r = j then x else 0) r = 0 := by
        rw [sN_cg (g := fun _ => 0) r (fun i hi => if_neg (by omega)), sN_0]
      omega
    · rw [if_neg z, sN_one n (by omega)]; rfl
/-- a sum by its groups -/
theorem sN_grp {h rep : Nat → Nat} {n : Nat} (hr : ∀ e, e < n → rep e < n) : sN h n = sN (fun r => sN (fun e => if rep e = r then h e else 0) n) n := by
  rw [← sN_swap (fun e r => if rep e = r then h e else 0) n n]
  exact sN_cg n (fun e he => (sN_one n (hr e he)).symm)
def grp (g : Nat → Int32 × Int32) (o : Nat → Prop) (c d : Nat) : Prop := g c = g d ∧ ¬ (o c ↔ o d)
def own (g : Nat → Int32 × Int32) (o : Nat → Prop) (c d : Nat) : Prop := g c = g d ∧ (o c ↔ o d)
noncomputable def nq (g : Nat → Int32 × Int32) (o : Nat → Prop) (n c : Nat) : Nat := bitsN (grp g o c) n
noncomputable def no9 (g : Nat → Int32 × Int32) (o : Nat → Prop) (n c : Nat) : Nat := bitsN (own g o c) n
theorem bitsN_cg {P P' : Nat → Prop} : ∀ n, (∀ j, j < n → (P j ↔ P' j)) → bitsN P n = bitsN P' n
  | 0, _ => rfl
  | n + 1, h => by
    have ih := bitsN_cg n (fun j hj => h j (by omega))
    by_cases z : P n
    · rw [bitsN_t z, bitsN_t ((h n (by omega)).mp z), ih]
    · rw [bitsN_f z, bitsN_f (fun y => z ((h n (by omega)).mpr y)), ih]
theorem iff3 {a b c : Prop} (h1 : ¬ (a ↔ b)) : (¬ (b ↔ c)) ↔ (a ↔ c) := by
  by_cases x : a <;> by_cases y : b <;> by_cases z : c <;> simp_all
theorem nq_of {g : Nat → Int32 × Int32} {o : Nat → Prop} {n c d : Nat} (h : grp g o c d) : nq g o n d = no9 g o n c ∧ no9 g o n d = nq g o n c := by
  refine ⟨bitsN_cg n (fun e _ => ?_), bitsN_cg n (fun e _ => ?_)⟩
  · unfold grp own
    rw [← h.1, iff3 h.2]
  · unfold grp own
    rw [← h.1]
    refine and_congr_right (fun _ => ?_)
    have h2 : ¬ (o d ↔ o c) := fun z => h.2 z.symm
    exact (iff3 h2).symm
theorem nq_own {g : Nat → Int32 × Int32} {o : Nat → Prop} {n c d : Nat} (h : own g o c d) : nq g o n d = nq g o n c ∧ no9 g o n d = no9 g o n c := by
  refine ⟨bitsN_cg n (fun e _ => ?_), bitsN_cg n (fun e _ => ?_)⟩
  · unfold grp
    rw [← h.1, h.2]
  · unfold own
    rw [← h.1, h.2]
theorem lt_12 {P : Nat → Prop} {n : Nat} (hn : n ≤ 12) : bitsN P n < 4096 := Nat.lt_of_lt_of_le (bitsN_lt P n) (Nat.pow_le_pow_right (n := 2) (by decide) hn)
theorem bN_ne {P : Nat → Prop} {n c : Nat} (hc : c < n) (h : P c) : bitsN P n ≠ 0 := fun z => by
  have := (bitsN_tb (P := P) (j := c) n).mpr ⟨hc, h⟩
  rw [z, Nat.zero_testBit] at this
  exact absurd this (by decide)
def brkS (g : Nat → Int32 × Int32) (o : Nat → Prop) (n e : Nat) : Prop := nq g o n e ≠ 0 ∧ wt (no9 g o n e) 12 ≤ wt (nq g o n e) 12
def peace (g : Nat → Int32 × Int32) (o : Nat → Prop) (n X : Nat) : Prop := ∀ c, c < n → X.testBit c = true ∨ ∀ d, d < n → grp g o c d → X.testBit d = true
theorem peace_B {g : Nat → Int32 × Int32} {o : Nat → Prop} {n : Nat} : peace g o n (bitsN (brkS g o n) n) := by
  intro c hc
  by_cases z : brkS g o n c
  · exact Or.inl ((bitsN_tb n).mpr ⟨hc, z⟩)
  · refine Or.inr (fun d hd q => (bitsN_tb n).mpr ⟨hd, ?_⟩)
    obtain ⟨e1, e2⟩ := nq_of (n := n) q
    have c1 : no9 g o n c ≠ 0 := bN_ne hc ⟨rfl, Iff.rfl⟩
    have c2 : nq g o n c ≠ 0 := bN_ne hd q
    refine ⟨by rw [e1]; exact c1, ?_⟩
    rw [e1, e2]
    refine Classical.byContradiction fun y => z ⟨c2, ?_⟩
    omega
noncomputable def rep (g : Nat → Int32 × Int32) (e : Nat) : Nat := sc (fun j => ¬ g j = g e) e 0
theorem rep_ok {g : Nat → Int32 × Int32} {e : Nat} : rep g e ≤ e ∧ g (rep g e) = g e := by
  have h1 := (sc_le (p := fun j => ¬ g j = g e) (n := e) e 0 (by omega)).2
  refine ⟨h1, ?_⟩
  by_cases z : rep g e < e
  · exact Classical.not_not.mp (sc_stop (p := fun j => ¬ g j = g e) (n := e) e 0 (by omega) z)
  · have : rep g e = e := by
      have : rep g e ≤ e := h1
      omega
    rw [this]
theorem rep_eq {g : Nat → Int32 × Int32} {e e' : Nat} : rep g e = rep g e' ↔ g e = g e' := by
  constructor
  · intro h
    rw [← (rep_ok (g := g) (e := e)).2, h, (rep_ok (g := g) (e := e')).2]
  · intro h
    have le : ∀ a b, g a = g b → rep g a ≤ rep g b := fun a b hab => Classical.byContradiction fun z => by
      have h1 := sc_all (p := fun j => ¬ g j = g a) (n := a) a 0 (by omega) (rep g b) (Nat.zero_le _) (by show rep g b < rep g a; omega)
      exact h1 ((rep_ok (g := g) (e := b)).2.trans hab.symm)
    exact Nat.le_antisymm (le e e' h) (le e' e h.symm)
theorem wt_n {P : Nat → Prop} {n : Nat} (hn : n ≤ 12) : wt (bitsN P n) 12 = sN (fun c => if (bitsN P n).testBit c = true then 4096 + 2 ^ c else 0) n := by
  have up : ∀ k, sN (fun c => if (bitsN P n).testBit c = true then 4096 + 2 ^ c else 0) (n + k) = sN (fun c => if (bitsN P n).testBit c = true then 4096 + 2 ^ c else 0) n := by
    intro k
    induction k with
    | zero => rfl
    | succ k ih =>
      rw [← Nat.add_assoc]
      simp only [sN]
      rw [ih, if_neg (fun z => absurd ((bitsN_tb n).mp z).1 (by omega))]
      rfl
  rw [wt_sN, show 12 = n + (12 - n) by omega]
  exact up _
/-- no peace is lighter -/
theorem peace_min {g : Nat → Int32 × Int32} {o : Nat → Prop} {n X : Nat} (hn : n ≤ 12) (hp : peace g o n X) : wt (bitsN (brkS g o n) n) 12 ≤ wt X 12 := by
  have hX : sN (fun c => if X.testBit c = true then 4096 + 2 ^ c else 0) n ≤ wt X 12 := by
    rw [wt_sN]
    have up : ∀ k, sN (fun c => if X.testBit c = true then 4096 + 2 ^ c else 0) n ≤ sN (fun c => if X.testBit c = true then 4096 + 2 ^ c else 0) (n + k) := by
      intro k
      induction k with
      | zero => exact Nat.le_refl _
      | succ k ih =>
        rw [← Nat.add_assoc]
        simp only [sN]
        omega
    have := up (12 - n)
    rwa [show n + (12 - n) = 12 by omega] at this
  refine Nat.le_trans ?_ hX
  rw [wt_n hn]
  have hr : ∀ e, e < n → rep g e < n := fun e he => Nat.lt_of_le_of_lt rep_ok.1 he
  rw [sN_grp hr, sN_grp (h := fun c => if X.testBit c = true then 4096 + 2 ^ c else 0) hr]
  refine sN_le n (fun r _ => ?_)
  by_cases z : ∃ e, e < n ∧ rep g e = r ∧ brkS g o n e
  · obtain ⟨e0, he0, hr0, b1, b2⟩ := z
    have x1 : no9 g o n e0 < 4096 := lt_12 hn
    have x2 : nq g o n e0 < 4096 := lt_12 hn
    have dif : no9 g o n e0 ≠ nq g o n e0 := fun y => by
      have h1 : (no9 g o n e0).testBit e0 = true := (bitsN_tb n).mpr ⟨he0, rfl, Iff.rfl⟩
      rw [y] at h1
      exact ((bitsN_tb n).mp h1).2.2 Iff.rfl
    have lt : wt (no9 g o n e0) 12 < wt (nq g o n e0) 12 := by
      have : wt (no9 g o n e0) 12 ≠ wt (nq g o n e0) 12 := fun y => dif (wt_inj x1 x2 y)
      omega
    -- the left sum is the lighter side
    have side : ∀ P : Nat → Prop, (∀ e, e < n → P e → rep g e = r) → wt (bitsN P n) 12 = sN (fun e => if rep g e = r then (if (bitsN P n).testBit e = true then 4096 + 2 ^ e else 0) else 0) n := fun P hP => by
      rw [wt_n hn]
      refine sN_cg n (fun e he => ?_)
      by_cases y : rep g e = r
      · rw [if_pos y]
      · rw [if_neg y, if_neg (fun w => y (hP e he ((bitsN_tb n).mp w).2))]
    have inO : ∀ e, e < n → own g o e0 e → rep g e = r := fun e _ q => by rw [← hr0]; exact rep_eq.mpr q.1.symm
    have inQ : ∀ e, e < n → grp g o e0 e → rep g e = r := fun e _ q => by rw [← hr0]; exact rep_eq.mpr q.1.symm
    have lhs : sN (fun e => if rep g e = r then (if (bitsN (brkS g o n) n).testBit e = true then 4096 + 2 ^ e else 0) else 0) n = wt (no9 g o n e0) 12 := by
      rw [show no9 g o n e0 = bitsN (own g o e0) n from rfl, side (own g o e0) inO]
      refine sN_cg n (fun e he => ?_)
      by_cases y : rep g e = r
      · rw [if_pos y, if_pos y]
        have ge : g e0 = g e := rep_eq.mp (hr0.trans y.symm)
        have iffB : (bitsN (brkS g o n) n).testBit e = true ↔ (bitsN (own g o e0) n).testBit e = true := by
          rw [bitsN_tb, bitsN_tb]
          refine and_congr_right (fun _ => ?_)
          by_cases w : (o e0 ↔ o e)
          · obtain ⟨q1, q2⟩ := nq_own (n := n) (show own g o e0 e from ⟨ge, w⟩)
            refine ⟨fun _ => ⟨ge, w⟩, fun _ => ?_⟩
            unfold brkS
            rw [q1, q2]
            exact ⟨b1, b2⟩
          · obtain ⟨q1, q2⟩ := nq_of (n := n) (show grp g o e0 e from ⟨ge, w⟩)
            refine ⟨fun v => ?_, fun v => absurd v.2 w⟩
            have v2 := v.2
            rw [q1, q2] at v2
            omega
        by_cases w : (bitsN (own g o e0) n).testBit e = true
        · rw [if_pos w, if_pos (iffB.mpr w)]
        · rw [if_neg w, if_neg (fun v => w (iffB.mp v))]
      · rw [if_neg y, if_neg y]
    rw [lhs]
    have cover : ∀ P : Nat → Prop, (∀ e, e < n → P e → rep g e = r) → (∀ e, e < n → P e → X.testBit e = true) → wt (bitsN P n) 12 ≤ sN (fun e => if rep g e = r then (if X.testBit e = true then 4096 + 2 ^ e else 0) else 0) n := fun P h1 h2 => by
      rw [side P h1]
      refine sN_le n (fun e he => ?_)
      by_cases y : rep g e = r
      · rw [if_pos y, if_pos y]
        by_cases w : (bitsN P n).testBit e = true
        · rw [if_pos w, if_pos (h2 e he ((bitsN_tb n).mp w).2)]
          exact Nat.le_refl _
        · rw [if_neg w]
          exact Nat.zero_le _
      · rw [if_neg y, if_neg y]
        exact Nat.le_refl _
    by_cases y : ∀ e, e < n → own g o e0 e → X.testBit e = true
    · exact cover (own g o e0) inO y
    · obtain ⟨c, hc⟩ := Classical.not_forall.mp y
      obtain ⟨hc1, hc⟩ := Classical.not_imp.mp hc
      obtain ⟨hc2, hc3⟩ := Classical.not_imp.mp hc
      have hall := (hp c hc1).resolve_left hc3
      have := cover (grp g o e0) inQ (fun e he q => hall e he ⟨hc2.1.symm.trans q.1, fun w => q.2 (hc2.2.trans w)⟩)
      exact Nat.le_trans (Nat.le_of_lt lt) this
  · refine sN_le n (fun e he => ?_)
    by_cases y : rep g e = r
    · rw [if_pos y, if_neg (fun w => z ⟨e, he, y, ((bitsN_tb n).mp w).2⟩)]
      exact Nat.zero_le _
    · rw [if_neg y, if_neg y]
      exact Nat.le_refl _
