def sLet {α : Type} (v : α) (k : α → Prop) : Prop := k v
def sLeT {α β : Type} (v : α) (k : α → β) : β := k v
def lp {σ : Type} (B : (σ → Prop) → σ → Prop) : Nat → σ → Prop
  | 0, _ => False
  | n + 1, s => B (lp B n) s
def sk_F : Nat := 20000
theorem lp_sound {σ : Type} {B : (σ → Prop) → σ → Prop} {P : σ → Prop} (H : ∀ c : σ → Prop, (∀ s, c s → P s) → ∀ s, B c s → P s) : ∀ (F : Nat) (s : σ), lp B F s → P s := by
  intro F
  induction F with
  | zero => intro s h; exact h.elim
  | succ n ih => intro s h; exact H (lp B n) ih s h
/-- a loop of n rounds -/
theorem lp_run {σ : Type} {B : (σ → Prop) → σ → Prop} {out : Prop} (s : Nat → σ) : ∀ (n F j : Nat), (∀ i, i < n → ∀ c, B c (s (j + i)) = c (s (j + i + 1))) → (∀ c, B c (s (j + n)) = out) → n < F → lp B F (s j) = out := by
  intro n
  induction n with
  | zero =>
    intro F j _ hx hF
    cases F with
    | zero => omega
    | succ F => exact hx _
  | succ n ih =>
    intro F j hs hx hF
    cases F with
    | zero => omega
    | succ F =>
      have h0 := hs 0 (by omega) (lp B F)
      rw [Nat.add_zero] at h0
      show B (lp B F) (s j) = out
      rw [h0]
      refine ih F (j + 1) (fun i hi c => ?_) (fun c => ?_) (by omega)
      · have := hs (i + 1) (by omega) c
        rw [show j + 1 + i = j + (i + 1) by omega]
        exact this
      · rw [show j + 1 + n = j + (n + 1) by omega]
        exact hx c
theorem lp_cnt {σ : Type} {B : (σ → Prop) → σ → Prop} {out : Prop} {F : Nat} (s : Nat → σ) (n : Nat) (hs : ∀ i, i < n → ∀ c, B c (s i) = c (s (i + 1))) (hx : ∀ c, B c (s n) = out) (hF : n < F) : lp B F (s 0) = out :=
  lp_run s n F 0 (fun i hi c => by rw [Nat.zero_add]; exact hs i hi c) (fun c => by rw [Nat.zero_add]; exact hx c) hF
/-- a loop by a measure -/
theorem lp_wf {σ : Type} {B : (σ → Prop) → σ → Prop} {I : σ → Prop} (m : σ → Nat) (H : ∀ (s : σ) (c : σ → Prop), I s → (∀ s', I s' → m s' < m s → c s') → B c s) : ∀ (F : Nat) (s : σ), I s → m s < F → lp B F s := by
  intro F
  induction F with
  | zero => intro s _ h; omega
  | succ F ih => intro s hI h; exact H s (lp B F) hI (fun s' h' hm => ih s' h' (by omega))
theorem s_t {p : Prop} [Decidable p] {A B : Prop} (hp : p) (h : if p then A else B) : A := by rwa [if_pos hp] at h
theorem s_f {p : Prop} [Decidable p] {A B : Prop} (hp : ¬ p) (h : if p then A else B) : B := by rwa [if_neg hp] at h
theorem s_tP {α : Type} {P : α → Prop} {p : Prop} [Decidable p] {a b : α} (hp : p) (h : P (if p then a else b)) : P a := by rwa [if_pos hp] at h
theorem s_fP {α : Type} {P : α → Prop} {p : Prop} [Decidable p] {a b : α} (hp : ¬ p) (h : P (if p then a else b)) : P b := by rwa [if_neg hp] at h
theorem s_tk {α : Type} {k : α → Prop} {p : Prop} [Decidable p] {a b : α} (hp : p) (h : k (if p then a else b)) : k a := by rwa [if_pos hp] at h
theorem s_fk {α : Type} {k : α → Prop} {p : Prop} [Decidable p] {a b : α} (hp : ¬ p) (h : k (if p then a else b)) : k b := by rwa [if_neg hp] at h
theorem s_dia {τ : Type} {v : τ} {k : τ → Prop} {goal : Prop} (P : τ → Prop) (h : sLet v k) (hJ : ∀ s, k s → P s) (hB : ∀ k9 : τ → Prop, (∀ s, k9 s → P s) → k9 v → goal) : goal := hB k hJ h
theorem s_diaT {τ β : Type} {v : τ} {k : τ → β} {goal : Prop} {R : β → Prop} (P : τ → Prop) (h : R (sLeT v k)) (hJ : ∀ s, R (k s) → P s) (hB : ∀ k9 : τ → Prop, (∀ s, k9 s → P s) → k9 v → goal) : goal := hB (fun s => R (k s)) hJ h
theorem s_join {τ : Type} {rest : τ → Prop} {body : (τ → Prop) → Prop} {goal : Prop} (P : τ → Prop) (h : sLet rest body) (hJ : ∀ s, rest s → P s) (hB : ∀ j : τ → Prop, (∀ s, j s → P s) → body j → goal) : goal := hB rest hJ h
theorem nz01 {v : Int32} (h : v = 0 ∨ v = 1) : narrow .boolean (.int v) = .int v := by rcases h with rfl | rfl <;> rfl
def mnI (x y : Int32) : Int32 := if y < x then y else x
def mxI (x y : Int32) : Int32 := if x < y then y else x
def abI (x : Int32) : Int32 := if 0 ≤ x then x else 0 - x
def rmI (x y : Int32) : Int32 := x - x / y * y
theorem sw_0_6 {x : Int32} (e0 : ¬ x = 0) (e1 : ¬ x = 1) (e2 : ¬ x = 2) (e3 : ¬ x = 3) (e4 : ¬ x = 4) (e5 : ¬ x = 5) (e6 : ¬ x = 6) : x.toInt < 0 ∨ 6 < x.toInt := by
  have q0 : ¬ x.toInt = 0 := fun q => e0 (Int32.toInt_inj.mp q)
  have q1 : ¬ x.toInt = 1 := fun q => e1 (Int32.toInt_inj.mp q)
  have q2 : ¬ x.toInt = 2 := fun q => e2 (Int32.toInt_inj.mp q)
  have q3 : ¬ x.toInt = 3 := fun q => e3 (Int32.toInt_inj.mp q)
  have q4 : ¬ x.toInt = 4 := fun q => e4 (Int32.toInt_inj.mp q)
  have q5 : ¬ x.toInt = 5 := fun q => e5 (Int32.toInt_inj.mp q)
  have q6 : ¬ x.toInt = 6 := fun q => e6 (Int32.toInt_inj.mp q)
  omega
theorem sw_0_4 {x : Int32} (e0 : ¬ x = 0) (e1 : ¬ x = 1) (e2 : ¬ x = 2) (e3 : ¬ x = 3) (e4 : ¬ x = 4) : x.toInt < 0 ∨ 4 < x.toInt := by
  have q0 : ¬ x.toInt = 0 := fun q => e0 (Int32.toInt_inj.mp q)
  have q1 : ¬ x.toInt = 1 := fun q => e1 (Int32.toInt_inj.mp q)
  have q2 : ¬ x.toInt = 2 := fun q => e2 (Int32.toInt_inj.mp q)
  have q3 : ¬ x.toInt = 3 := fun q => e3 (Int32.toInt_inj.mp q)
  have q4 : ¬ x.toInt = 4 := fun q => e4 (Int32.toInt_inj.mp q)
  omega
theorem sw_0_12 {x : Int32} (e0 : ¬ x = 0) (e1 : ¬ x = 1) (e2 : ¬ x = 2) (e3 : ¬ x = 3) (e4 : ¬ x = 4) (e5 : ¬ x = 5) (e6 : ¬ x = 6) (e7 : ¬ x = 7) (e8 : ¬ x = 8) (e9 : ¬ x = 9) (e10 : ¬ x = 10) (e11 : ¬ x = 11) (e12 : ¬ x = 12) : x.toInt < 0 ∨ 12 < x.toInt := by
  have q0 : ¬ x.toInt = 0 := fun q => e0 (Int32.toInt_inj.mp q)
  have q1 : ¬ x.toInt = 1 := fun q => e1 (Int32.toInt_inj.mp q)
  have q2 : ¬ x.toInt = 2 := fun q => e2 (Int32.toInt_inj.mp q)
  have q3 : ¬ x.toInt = 3 := fun q => e3 (Int32.toInt_inj.mp q)
  have q4 : ¬ x.toInt = 4 := fun q => e4 (Int32.toInt_inj.mp q)
  have q5 : ¬ x.toInt = 5 := fun q => e5 (Int32.toInt_inj.mp q)
  have q6 : ¬ x.toInt = 6 := fun q => e6 (Int32.toInt_inj.mp q)
  have q7 : ¬ x.toInt = 7 := fun q => e7 (Int32.toInt_inj.mp q)
  have q8 : ¬ x.toInt = 8 := fun q => e8 (Int32.toInt_inj.mp q)
  have q9 : ¬ x.toInt = 9 := fun q => e9 (Int32.toInt_inj.mp q)
  have q10 : ¬ x.toInt = 10 := fun q => e10 (Int32.toInt_inj.mp q)
  have q11 : ¬ x.toInt = 11 := fun q => e11 (Int32.toInt_inj.mp q)
  have q12 : ¬ x.toInt = 12 := fun q => e12 (Int32.toInt_inj.mp q)
  omega
theorem sw_0_5 {x : Int32} (e0 : ¬ x = 0) (e1 : ¬ x = 1) (e2 : ¬ x = 2) (e3 : ¬ x = 3) (e4 : ¬ x = 4) (e5 : ¬ x = 5) : x.toInt < 0 ∨ 5 < x.toInt := by
  have q0 : ¬ x.toInt = 0 := fun q => e0 (Int32.toInt_inj.mp q)
  have q1 : ¬ x.toInt = 1 := fun q => e1 (Int32.toInt_inj.mp q)
  have q2 : ¬ x.toInt = 2 := fun q => e2 (Int32.toInt_inj.mp q)
  have q3 : ¬ x.toInt = 3 := fun q => e3 (Int32.toInt_inj.mp q)
  have q4 : ¬ x.toInt = 4 := fun q => e4 (Int32.toInt_inj.mp q)
  have q5 : ¬ x.toInt = 5 := fun q => e5 (Int32.toInt_inj.mp q)
  omega
theorem sw_4_6 {x : Int32} (e4 : ¬ x = 4) (e5 : ¬ x = 5) (e6 : ¬ x = 6) : x.toInt < 4 ∨ 6 < x.toInt := by
  have q4 : ¬ x.toInt = 4 := fun q => e4 (Int32.toInt_inj.mp q)
  have q5 : ¬ x.toInt = 5 := fun q => e5 (Int32.toInt_inj.mp q)
  have q6 : ¬ x.toInt = 6 := fun q => e6 (Int32.toInt_inj.mp q)
  omega
theorem sw_4_12 {x : Int32} (e4 : ¬ x = 4) (e5 : ¬ x = 5) (e6 : ¬ x = 6) (e7 : ¬ x = 7) (e8 : ¬ x = 8) (e9 : ¬ x = 9) (e10 : ¬ x = 10) (e11 : ¬ x = 11) (e12 : ¬ x = 12) : x.toInt < 4 ∨ 12 < x.toInt := by
  have q4 : ¬ x.toInt = 4 := fun q => e4 (Int32.toInt_inj.mp q)
  have q5 : ¬ x.toInt = 5 := fun q => e5 (Int32.toInt_inj.mp q)
  have q6 : ¬ x.toInt = 6 := fun q => e6 (Int32.toInt_inj.mp q)
  have q7 : ¬ x.toInt = 7 := fun q => e7 (Int32.toInt_inj.mp q)
  have q8 : ¬ x.toInt = 8 := fun q => e8 (Int32.toInt_inj.mp q)
  have q9 : ¬ x.toInt = 9 := fun q => e9 (Int32.toInt_inj.mp q)
  have q10 : ¬ x.toInt = 10 := fun q => e10 (Int32.toInt_inj.mp q)
  have q11 : ¬ x.toInt = 11 := fun q => e11 (Int32.toInt_inj.mp q)
  have q12 : ¬ x.toInt = 12 := fun q => e12 (Int32.toInt_inj.mp q)
  omega
theorem vin_ex {x : Int32} {n : Nat} (h : vp_in x n) : ∃ j : Nat, j < n ∧ j < 2 ^ 31 ∧ x = nI j := by
  have h0 : ¬ x < 0 := fun q => h (Or.inl q)
  obtain ⟨j, hj, rfl⟩ := nI_of h0
  refine ⟨j, ?_, hj, rfl⟩
  have h1 : ¬ n ≤ (nI j).toNatClampNeg := fun q => h (Or.inr q)
  rw [nI_clamp hj] at h1
  omega
def w_X5_leftOf (b : Nat) (p : Int32) (v : Int32) (M : sk_M) (Q : Int32 → Prop) : Prop := vp_in p 6 ∧ vp_in v 6 ∧ Q (leftP (M.2 (b + 9)) (4 * (6 * p.toNatClampNeg + v.toNatClampNeg)) 4)
def w_X5_soundOf (b : Nat) (t : Int32) (c : Int32) (M : sk_M) (Q : Int32 → Prop) : Prop := vp_in t 216 ∧ vp_in c 216 ∧ Q (sndC (M.1 (b + 7)) t.toNatClampNeg c.toNatClampNeg)
def w_X5_isGuarded (b : Nat) (v : Int32) (M : sk_M) (Q : Int32 → Prop) : Prop := vp_in v 6 ∧ vp_in (M.1 b 5) 10000 ∧ Q (bI (isG M b (M.1 b 5).toNatClampNeg v.toNatClampNeg))
def w_X5_shareOf (b : Nat) (p : Int32) (v : Int32) (M : sk_M) (Q : Int32 → Prop) : Prop := vp_in p 6 ∧ vp_in v 6 ∧ Q ((if leftP (M.2 (b + 9)) (4 * (6 * p.toNatClampNeg + v.toNatClampNeg)) 4 = 0 then 0 else M.1 (b + 3) v.toNatClampNeg / leftP (M.2 (b + 9)) (4 * (6 * p.toNatClampNeg + v.toNatClampNeg)) 4))
def w_X5_isOpenContract (b : Nat) (c : Int32) (M : sk_M) (Q : Int32 → Prop) : Prop := vp_in c 12 ∧ Q (bI (isO M b c.toNatClampNeg))
def w_X5_rowCell (b : Nat) (a : Int32) (k : Int32) (M : sk_M) (Q : Int32 → Prop) : Prop := vp_in a 80 ∧ vp_in k 6 ∧ vp_in (M.1 b 11) 80 ∧ Q (M.1 (b + 8) (((M.1 b 11).toNatClampNeg + 79 - a.toNatClampNeg) % 80 * 6 + k.toNatClampNeg))
def w_X5_wheelRange (b : Nat) (w : Int32) (t : Int32) (M : sk_M) (Q : Int32 → Prop) : Prop := vp_in w 3 ∧ vp_in t 6 ∧ Q (wRng (M.1 (b + 7)) w.toNatClampNeg t.toNatClampNeg)
def w_X5_rangeOf (b : Nat) (t : Int32) (M : sk_M) (Q : Int32 → Prop) : Prop := vp_in t 216 ∧ Q (wRng (M.1 (b + 7)) 0 (t.toNatClampNeg / 36) + wRng (M.1 (b + 7)) 1 (t.toNatClampNeg / 6 % 6) + wRng (M.1 (b + 7)) 2 (t.toNatClampNeg % 6))
def w_X5_leftOfAll (b : Nat) (set : Int32) (v : Int32) (M : sk_M) (Q : Int32 → Prop) : Prop := vp_in v 6 ∧ vp_in (M.1 b 1) 7 ∧ Q (laP (M.2 (b + 9)) set v.toNatClampNeg (M.1 b 1).toNatClampNeg 4)
def w_X5_knowNothing (b : Nat) (p : Int32) (v : Int32) (M : sk_M) (Q : sk_M → Prop) : Prop := vp_in p 6 ∧ vp_in v 6 ∧ Q (fk M (b + 9) (4 * (6 * p.toNatClampNeg + v.toNatClampNeg)) 4)
def w_X5_learnFrom (b : Nat) (t : Int32) (f : Int32) (v : Int32) (M : sk_M) (Q : sk_M → Prop) : Prop := vp_in t 6 ∧ vp_in f 6 ∧ vp_in v 6 ∧ Q (lf M (b + 9) (4 * (6 * t.toNatClampNeg + v.toNatClampNeg)) (4 * (6 * f.toNatClampNeg + v.toNatClampNeg)) 4)
def w_X5_tellAnew (b : Nat) (v : Int32) (c : Int32) (M : sk_M) (Q : sk_M → Prop) : Prop := vp_in v 6 ∧ vp_in (M.1 b 1) 7 ∧ Q (knA (tA M b v.toNatClampNeg c) (b + 9) v.toNatClampNeg (M.1 b 1).toNatClampNeg)
def w_X5_guardedToday (b : Nat)  (M : sk_M) (Q : Int32 → Prop) : Prop := vp_in (M.1 b 0) 7 ∧ vp_in (M.1 b 5) 10000 ∧ Q (bitsP (isG M b (M.1 b 5).toNatClampNeg) (M.1 b 0).toNatClampNeg)
def w_X5_worthOfAll (b : Nat)  (M : sk_M) (Q : Int32 → Prop) : Prop := vp_in (M.1 b 0) 7 ∧ Q (sumI (M.1 (b + 3)) (M.1 b 0).toNatClampNeg)
def w_X5_quarrelsOf (b : Nat) (c : Int32) (M : sk_M) (Q : Int32 → Prop) : Prop := vp_in c 12 ∧ vp_in (M.1 b 2) 13 ∧ Q (bitsP (qrl M b c.toNatClampNeg) (M.1 b 2).toNatClampNeg)
def w_X5_isBroken (b : Nat) (c : Int32) (M : sk_M) (Q : Int32 → Prop) : Prop := vp_in c 12 ∧ vp_in (M.1 b 11) 80 ∧ vp_in (M.1 b 10) 81 ∧ Q (bI (brk M b (M.1 b 11).toNatClampNeg (M.1 b 10).toNatClampNeg c.toNatClampNeg))
def w_X5_write (b : Nat) (p : Int32) (v : Int32) (c : Int32) (x : Int32) (M : sk_M) (Q : sk_M → Prop) : Prop := vp_in p 6 ∧ vp_in v 6 ∧ vp_in (M.1 b 11) 80 ∧ vp_in (M.1 b 10) 81 ∧ Q (wrM M b (M.1 b 11).toNatClampNeg (M.1 b 10).toNatClampNeg (M.1 b 5) (nI p.toNatClampNeg) (nI v.toNatClampNeg) c x (bI (c = M.1 (b + 1) v.toNatClampNeg)))
def w_X5_know (b : Nat) (p : Int32) (v : Int32) (M : sk_M) (Q : sk_M → Prop) : Prop := vp_in p 6 ∧ vp_in v 6 ∧ vp_in (M.1 130 8) 217 ∧ (∀ i, i < (M.1 130 8).toNatClampNeg → vp_in (M.1 131 i) 216) ∧ Q (orB (z4 M (b + 9) (4 * (6 * p.toNatClampNeg + v.toNatClampNeg)) 4) (b + 9) (4 * (6 * p.toNatClampNeg + v.toNatClampNeg)) (fun i => (M.1 131 i).toNatClampNeg) (M.1 130 8).toNatClampNeg)
def w_X5_obey (b : Nat) (c1 : Nat) (ln : Int32) (M : sk_M) (Q : sk_M → Prop) : Prop := vp_in (M.1 b 1) 7 ∧ vp_in (M.1 b 0) 7 ∧ c1 = 127 ∧ Q (knC (obA M b ln) (b + 9) (M.1 b 0).toNatClampNeg (M.1 b 1).toNatClampNeg)
def w_X5_copyFrom (b : Nat) (b1 : Nat)  (M : sk_M) (Q : sk_M → Prop) : Prop := Q (cpS M b b1)
def w_X2_work (b1 : Nat) (s0 : Int32) (n : Int32) (M : sk_M) (Q : sk_M → Prop) : Prop := vp_in n 61 ∧ vp_in (M.1 b1 0) 7 ∧ ∀ M9, lkI M M9 (lkN (M.1 b1 6) (M.1 b1 0).toNatClampNeg (s0, M.1 (b1 + 1), 0, 0) n.toNatClampNeg) → Q M9
def w_X2_hasTold  (v : Int32) (M : sk_M) (Q : Int32 → Prop) : Prop := vp_in v 6 ∧ Q (bI ((M.1 138 3 >>> (nI v.toNatClampNeg &&& 31)) &&& 1 = 1))
def w_X2_changedFrom (b1 : Nat)  (M : sk_M) (Q : Int32 → Prop) : Prop := vp_in (M.1 b1 0) 7 ∧ Q (bitsP (fun j => ¬ M.1 139 j = M.1 (b1 + 1) j) (M.1 b1 0).toNatClampNeg)
def w_X3_clear   (M : sk_M) (Q : sk_M → Prop) : Prop := Q (sk_si M 123 1 0)
def w_X3_keep (b1 : Nat)  (M : sk_M) (Q : sk_M → Prop) : Prop := vp_in (M.1 123 2) 10 ∧ vp_in (M.1 123 1) 11 ∧ Q (sk_si (sk_si (cpS M (20 + 10 * (M.1 123 2).toNatClampNeg) b1) 123 2 (nI (((M.1 123 2).toNatClampNeg + 1) % 10))) 123 1 (nI (min 10 ((M.1 123 1).toNatClampNeg + 1))))
def w_X3_giveBack (b1 : Nat)  (M : sk_M) (Q : Int32 → sk_M → Prop) : Prop := vp_in (M.1 123 2) 10 ∧ vp_in (M.1 123 1) 11 ∧ (if (M.1 123 1).toNatClampNeg = 0 then Q 0 M else Q 1 (cpS (sk_si (sk_si M 123 2 (nI (((M.1 123 2).toNatClampNeg + 9) % 10))) 123 1 (nI ((M.1 123 1).toNatClampNeg - 1))) b1 (20 + 10 * (((M.1 123 2).toNatClampNeg + 9) % 10))))
def w_X4_face  (t : Int32) (M : sk_M) (Q : sk_M → Prop) : Prop := vp_in t 216 ∧ ∀ M9, fcI M M9 t.toNatClampNeg → Q M9
def w_X4_slotOf  (c : Int32) (M : sk_M) (Q : Int32 → Prop) : Prop := vp_in c 216 ∧ ∃ t9, faced M t9 ∧ Q (slt (M.1 (0 + 7)) t9 c.toNatClampNeg)
def w_X4_startTally   (M : sk_M) (Q : sk_M → Prop) : Prop := TB M ∧ ∀ M9, (tlI M M9 ∧ ∃ fl, TA M9 fl (fun _ => 0)) → Q M9
def w_X4_countOne  (s : Int32) (M : sk_M) (Q : Int32 → sk_M → Prop) : Prop := vp_in s 7129 ∧ (∃ fl n, TA M fl n ∧ n s.toNatClampNeg < 216 ∧ ∀ M9, (tlI M M9 ∧ TA M9 fl (fun j => if j = s.toNatClampNeg then n s.toNatClampNeg + 1 else n j)) → Q (nI (n s.toNatClampNeg + 1)) M9)
def w_X4_load  (p : Int32) (v : Int32) (M : sk_M) (Q : sk_M → Prop) : Prop := vp_in p 6 ∧ vp_in v 6 ∧ ∀ M9, (svF M M9 ∧ SV M9 (enl (kbit (M.2 (0 + 9)) (4 * (6 * p.toNatClampNeg + v.toNatClampNeg))) 216)) → Q M9
def w_X4_loadAllBut  (t : Int32) (M : sk_M) (Q : sk_M → Prop) : Prop := vp_in t 216 ∧ ∀ M9, (svF M M9 ∧ SV M9 (enl (fun c => c ≠ t.toNatClampNeg) 216)) → Q M9
def w_X4_hear  (t : Int32) (u : Int32) (M : sk_M) (Q : sk_M → Prop) : Prop := vp_in t 216 ∧ vp_in u 216 ∧ ∃ l, SV M l ∧ ∀ M9, (hrF M M9 ∧ SV M9 (fP (stP (M.1 (0 + 7)) t.toNatClampNeg u.toNatClampNeg) l)) → Q M9
def w_X4_sidesOf  (w : Int32) (M : sk_M) (Q : Int32 → Prop) : Prop := vp_in w 3 ∧ ∃ l, SV M l ∧ Q (l.foldl (sdS (dvs w.toNatClampNeg)) 0)
def w_X4_partsBy  (t : Int32) (M : sk_M) (Q : Int32 → sk_M → Prop) : Prop := vp_in t 216 ∧ (∃ l, clB (M.1 (0 + 7)) ∧ SV M l ∧ TB M ∧ ∀ M9, (swF M M9 ∧ TB M9) → Q (nI (trF (M.1 (0 + 7)) t.toNatClampNeg l).2.1) M9)
def w_X4_greatestPart  (t : Int32) (lim : Int32) (M : sk_M) (Q : Int32 → sk_M → Prop) : Prop := vp_in t 216 ∧ vp_in lim 1000 ∧ (∃ l, clB (M.1 (0 + 7)) ∧ SV M l ∧ TB M ∧ ∀ r M9, ((∃ k, r = nI k ∧ k ≤ (trF (M.1 (0 + 7)) t.toNatClampNeg l).2.2 ∧ (k < lim.toNatClampNeg → k = (trF (M.1 (0 + 7)) t.toNatClampNeg l).2.2)) ∧ swF M M9 ∧ TB M9) → Q r M9)
def w_X4_compare  (t : Int32) (M : sk_M) (Q : sk_M → Prop) : Prop := vp_in t 216 ∧ ∃ l, (SV M l ∧ l.length ≤ 6) ∧ ∀ M9, cmF M M9 t.toNatClampNeg l → Q M9
def w_X4_neededBehind  (t : Int32) (s : Int32) (M : sk_M) (Q : Int32 → Prop) : Prop := vp_in t 216 ∧ vp_in s 64 ∧ vp_in (M.1 130 8) 7 ∧ ∃ al nd, ((∀ i, i < (M.1 130 8).toNatClampNeg → M.1 135 (6 * t.toNatClampNeg + i) = nI (al i)) ∧ (∀ x, x ≤ s.toNatClampNeg → M.1 136 x = nI (nd x) ∧ nd x ≤ 100)) ∧ Q (nI (nbP nd al s.toNatClampNeg (M.1 130 8).toNatClampNeg))
def w_X6_step   (M : sk_M) (Q : sk_M → Prop) : Prop := ∃ y n i, (TP M y n ∧ M.1 121 4 = nI i ∧ i ≤ n) ∧ ∀ M9, stpI M M9 y n i → Q M9
def w_X6_isSign  (c : Int32) (M : sk_M) (Q : Int32 → Prop) : Prop := vp_in c 1000 ∧ ∃ y n i, TS M y n i ∧ Q (bI (tkK y n i = 3 ∧ y (tkA y n i) = c.toNatClampNeg))
def w_X6_is (j : Nat)  (M : sk_M) (Q : Int32 → Prop) : Prop := ∃ y n i, TS M y n i ∧ Q (bI (isWd y n i j))
def w_X6_pass (j : Nat)  (M : sk_M) (Q : Int32 → sk_M → Prop) : Prop := (∃ y n i, TS M y n i ∧ ((isWd y n i j) → ∀ M9, stpI M M9 y n (tkE y n i) → Q 1 M9) ∧ (¬ (isWd y n i j) → Q 0 (rfM M)))
def w_X6_passSign  (c : Int32) (M : sk_M) (Q : Int32 → sk_M → Prop) : Prop := vp_in c 1000 ∧ (∃ y n i, TS M y n i ∧ ((tkK y n i = 3 ∧ y (tkA y n i) = c.toNatClampNeg) → ∀ M9, stpI M M9 y n (tkE y n i) → Q 1 M9) ∧ (¬ (tkK y n i = 3 ∧ y (tkA y n i) = c.toNatClampNeg) → Q 0 (rfM M)))
def w_X6_rewind   (M : sk_M) (Q : sk_M → Prop) : Prop := ∃ y n, TP M y n ∧ ∀ M9, stpI (sk_si (sk_si M 121 5 (-1)) 121 4 0) M9 y n 0 → Q M9
def w_X6_numberUpTo  (mo : Int32) (M : sk_M) (Q : Int32 → sk_M → Prop) : Prop := (∃ y n i, TS M y n i ∧ ((isNu y n i ∧ nI (nuV y n i) ≤ mo) → ∀ M9, stpI M M9 y n (tkE y n i) → Q (nI (nuV y n i)) M9) ∧ (¬ (isNu y n i ∧ nI (nuV y n i) ≤ mo) → Q (-1) (rfM M)))
def w_X6_figures   (M : sk_M) (Q : Int32 → sk_M → Prop) : Prop := (∃ y n i, TS M y n i ∧ (isFg y n i → ∀ M9, stpI M M9 y n (tkE y n i) → Q (nI (fgV y n i)) M9) ∧ (¬ isFg y n i → Q (-1) (rfM M)))
