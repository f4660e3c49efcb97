/-! continuation style: words and rules -/
def sLet {α : Type} (v : α) (k : α → Prop) : Prop := k v
def sLeT {α β : Type} (v : α) (k : α → β) : β := k v
def lp {σ : Type} (B : (σ → Prop) → σ → Prop) : Nat → σ → Prop
  | 0, _ => False
  | n + 1, s => B (lp B n) s
def sk_F : Nat := 20000
theorem lp_sound {σ : Type} {B : (σ → Prop) → σ → Prop} {P : σ → Prop} (H : ∀ c : σ → Prop, (∀ s, c s → P s) → ∀ s, B c s → P s) : ∀ (F : Nat) (s : σ), lp B F s → P s := by
  intro F
  induction F with
  | zero => intro s h; exact h.elim
  | succ n ih => intro s h; exact H (lp B n) ih s h
/-- a loop of n rounds -/
theorem lp_run {σ : Type} {B : (σ → Prop) → σ → Prop} {out : Prop} (s : Nat → σ) : ∀ (n F j : Nat), (∀ i, i < n → ∀ c, B c (s (j + i)) = c (s (j + i + 1))) → (∀ c, B c (s (j + n)) = out) → n < F → lp B F (s j) = out := by
  intro n
  induction n with
  | zero =>
    intro F j _ hx hF
    cases F with
    | zero => omega
    | succ F => exact hx _
  | succ n ih =>
    intro F j hs hx hF
    cases F with
    | zero => omega
    | succ F =>
      have h0 := hs 0 (by omega) (lp B F)
      rw [Nat.add_zero] at h0
      show B (lp B F) (s j) = out
      rw [h0]
      refine ih F (j + 1) (fun i hi c => ?_) (fun c => ?_) (by omega)
      · have := hs (i + 1) (by omega) c
        rw [show j + 1 + i = j + (i + 1) by omega]
        exact this
      · rw [show j + 1 + n = j + (n + 1) by omega]
        exact hx c
theorem lp_cnt {σ : Type} {B : (σ → Prop) → σ → Prop} {out : Prop} {F : Nat} (s : Nat → σ) (n : Nat) (hs : ∀ i, i < n → ∀ c, B c (s i) = c (s (i + 1))) (hx : ∀ c, B c (s n) = out) (hF : n < F) : lp B F (s 0) = out :=
  lp_run s n F 0 (fun i hi c => by rw [Nat.zero_add]; exact hs i hi c) (fun c => by rw [Nat.zero_add]; exact hx c) hF
/-- a loop by a measure -/
theorem lp_wf {σ : Type} {B : (σ → Prop) → σ → Prop} {I : σ → Prop} (m : σ → Nat) (H : ∀ (s : σ) (c : σ → Prop), I s → (∀ s', I s' → m s' < m s → c s') → B c s) : ∀ (F : Nat) (s : σ), I s → m s < F → lp B F s := by
  intro F
  induction F with
  | zero => intro s _ h; omega
  | succ F ih => intro s hI h; exact H s (lp B F) hI (fun s' h' hm => ih s' h' (by omega))
theorem s_t {p : Prop} [Decidable p] {A B : Prop} (hp : p) (h : if p then A else B) : A := by rwa [if_pos hp] at h
theorem s_f {p : Prop} [Decidable p] {A B : Prop} (hp : ¬ p) (h : if p then A else B) : B := by rwa [if_neg hp] at h
theorem s_tP {α : Type} {P : α → Prop} {p : Prop} [Decidable p] {a b : α} (hp : p) (h : P (if p then a else b)) : P a := by rwa [if_pos hp] at h
theorem s_fP {α : Type} {P : α → Prop} {p : Prop} [Decidable p] {a b : α} (hp : ¬ p) (h : P (if p then a else b)) : P b := by rwa [if_neg hp] at h
theorem s_tk {α : Type} {k : α → Prop} {p : Prop} [Decidable p] {a b : α} (hp : p) (h : k (if p then a else b)) : k a := by rwa [if_pos hp] at h
theorem s_fk {α : Type} {k : α → Prop} {p : Prop} [Decidable p] {a b : α} (hp : ¬ p) (h : k (if p then a else b)) : k b := by rwa [if_neg hp] at h
theorem s_dia {τ : Type} {v : τ} {k : τ → Prop} {goal : Prop} (P : τ → Prop) (h : sLet v k) (hJ : ∀ s, k s → P s) (hB : ∀ k9 : τ → Prop, (∀ s, k9 s → P s) → k9 v → goal) : goal := hB k hJ h
theorem s_diaT {τ β : Type} {v : τ} {k : τ → β} {goal : Prop} {R : β → Prop} (P : τ → Prop) (h : R (sLeT v k)) (hJ : ∀ s, R (k s) → P s) (hB : ∀ k9 : τ → Prop, (∀ s, k9 s → P s) → k9 v → goal) : goal := hB (fun s => R (k s)) hJ h
theorem s_join {τ : Type} {rest : τ → Prop} {body : (τ → Prop) → Prop} {goal : Prop} (P : τ → Prop) (h : sLet rest body) (hJ : ∀ s, rest s → P s) (hB : ∀ j : τ → Prop, (∀ s, j s → P s) → body j → goal) : goal := hB rest hJ h
theorem nz01 {v : Int32} (h : v = 0 ∨ v = 1) : narrow .boolean (.int v) = .int v := by rcases h with rfl | rfl <;> rfl
def mnI (x y : Int32) : Int32 := if y < x then y else x
def mxI (x y : Int32) : Int32 := if x < y then y else x
def abI (x : Int32) : Int32 := if 0 ≤ x then x else 0 - x
def rmI (x y : Int32) : Int32 := x - x / y * y
section SCP
variable {G : sk_G} {X : sk_X} {R : Room} {E : sk_E} {cells slots pc q : Nat} {xs : List (Option Value)} {st : List Value} {M : sk_M}
theorem S.mem {v : sk_M} {K : sk_M → Prop} (h : sLet v K) (kk : ∀ M', K M' → TJ G X R E cells slots pc xs st M') : TJ G X R E cells slots pc xs st v := kk v h
theorem S.i0 {r : List (Option Value)} {x : Int32} {K : Int32 → Prop} (h : sLet x K) (kk : ∀ y, K y → TJ G X R E cells slots pc (some (.int y) :: r) st M) : TJ G X R E cells slots pc (some (.int x) :: r) st M := kk x h
theorem S.i0T {r : List (Option Value)} {x : Int32} {β : Type} {P : β → Prop} {K : Int32 → β} (h : P (sLeT x K)) (kk : ∀ y, P (K y) → TJ G X R E cells slots pc (some (.int y) :: r) st M) : TJ G X R E cells slots pc (some (.int x) :: r) st M := kk x h
theorem S.l0 {r : List (Option Value)} {x : Int64} {K : Int64 → Prop} (h : sLet x K) (kk : ∀ y, K y → TJ G X R E cells slots pc (some (.long y) :: r) st M) : TJ G X R E cells slots pc (some (.long x) :: r) st M := kk x h
theorem S.l0T {r : List (Option Value)} {x : Int64} {β : Type} {P : β → Prop} {K : Int64 → β} (h : P (sLeT x K)) (kk : ∀ y, P (K y) → TJ G X R E cells slots pc (some (.long y) :: r) st M) : TJ G X R E cells slots pc (some (.long x) :: r) st M := kk x h
theorem S.i1 {a0 : Option Value} {r : List (Option Value)} {x : Int32} {K : Int32 → Prop} (h : sLet x K) (kk : ∀ y, K y → TJ G X R E cells slots pc (a0 :: some (.int y) :: r) st M) : TJ G X R E cells slots pc (a0 :: some (.int x) :: r) st M := kk x h
theorem S.i1T {a0 : Option Value} {r : List (Option Value)} {x : Int32} {β : Type} {P : β → Prop} {K : Int32 → β} (h : P (sLeT x K)) (kk : ∀ y, P (K y) → TJ G X R E cells slots pc (a0 :: some (.int y) :: r) st M) : TJ G X R E cells slots pc (a0 :: some (.int x) :: r) st M := kk x h
theorem S.l1 {a0 : Option Value} {r : List (Option Value)} {x : Int64} {K : Int64 → Prop} (h : sLet x K) (kk : ∀ y, K y → TJ G X R E cells slots pc (a0 :: some (.long y) :: r) st M) : TJ G X R E cells slots pc (a0 :: some (.long x) :: r) st M := kk x h
theorem S.l1T {a0 : Option Value} {r : List (Option Value)} {x : Int64} {β : Type} {P : β → Prop} {K : Int64 → β} (h : P (sLeT x K)) (kk : ∀ y, P (K y) → TJ G X R E cells slots pc (a0 :: some (.long y) :: r) st M) : TJ G X R E cells slots pc (a0 :: some (.long x) :: r) st M := kk x h
theorem S.i2 {a0 a1 : Option Value} {r : List (Option Value)} {x : Int32} {K : Int32 → Prop} (h : sLet x K) (kk : ∀ y, K y → TJ G X R E cells slots pc (a0 :: a1 :: some (.int y) :: r) st M) : TJ G X R E cells slots pc (a0 :: a1 :: some (.int x) :: r) st M := kk x h
theorem S.i2T {a0 a1 : Option Value} {r : List (Option Value)} {x : Int32} {β : Type} {P : β → Prop} {K : Int32 → β} (h : P (sLeT x K)) (kk : ∀ y, P (K y) → TJ G X R E cells slots pc (a0 :: a1 :: some (.int y) :: r) st M) : TJ G X R E cells slots pc (a0 :: a1 :: some (.int x) :: r) st M := kk x h
theorem S.l2 {a0 a1 : Option Value} {r : List (Option Value)} {x : Int64} {K : Int64 → Prop} (h : sLet x K) (kk : ∀ y, K y → TJ G X R E cells slots pc (a0 :: a1 :: some (.long y) :: r) st M) : TJ G X R E cells slots pc (a0 :: a1 :: some (.long x) :: r) st M := kk x h
theorem S.l2T {a0 a1 : Option Value} {r : List (Option Value)} {x : Int64} {β : Type} {P : β → Prop} {K : Int64 → β} (h : P (sLeT x K)) (kk : ∀ y, P (K y) → TJ G X R E cells slots pc (a0 :: a1 :: some (.long y) :: r) st M) : TJ G X R E cells slots pc (a0 :: a1 :: some (.long x) :: r) st M := kk x h
theorem S.i3 {a0 a1 a2 : Option Value} {r : List (Option Value)} {x : Int32} {K : Int32 → Prop} (h : sLet x K) (kk : ∀ y, K y → TJ G X R E cells slots pc (a0 :: a1 :: a2 :: some (.int y) :: r) st M) : TJ G X R E cells slots pc (a0 :: a1 :: a2 :: some (.int x) :: r) st M := kk x h
theorem S.i3T {a0 a1 a2 : Option Value} {r : List (Option Value)} {x : Int32} {β : Type} {P : β → Prop} {K : Int32 → β} (h : P (sLeT x K)) (kk : ∀ y, P (K y) → TJ G X R E cells slots pc (a0 :: a1 :: a2 :: some (.int y) :: r) st M) : TJ G X R E cells slots pc (a0 :: a1 :: a2 :: some (.int x) :: r) st M := kk x h
theorem S.l3 {a0 a1 a2 : Option Value} {r : List (Option Value)} {x : Int64} {K : Int64 → Prop} (h : sLet x K) (kk : ∀ y, K y → TJ G X R E cells slots pc (a0 :: a1 :: a2 :: some (.long y) :: r) st M) : TJ G X R E cells slots pc (a0 :: a1 :: a2 :: some (.long x) :: r) st M := kk x h
theorem S.l3T {a0 a1 a2 : Option Value} {r : List (Option Value)} {x : Int64} {β : Type} {P : β → Prop} {K : Int64 → β} (h : P (sLeT x K)) (kk : ∀ y, P (K y) → TJ G X R E cells slots pc (a0 :: a1 :: a2 :: some (.long y) :: r) st M) : TJ G X R E cells slots pc (a0 :: a1 :: a2 :: some (.long x) :: r) st M := kk x h
theorem S.i4 {a0 a1 a2 a3 : Option Value} {r : List (Option Value)} {x : Int32} {K : Int32 → Prop} (h : sLet x K) (kk : ∀ y, K y → TJ G X R E cells slots pc (a0 :: a1 :: a2 :: a3 :: some (.int y) :: r) st M) : TJ G X R E cells slots pc (a0 :: a1 :: a2 :: a3 :: some (.int x) :: r) st M := kk x h
theorem S.i4T {a0 a1 a2 a3 : Option Value} {r : List (Option Value)} {x : Int32} {β : Type} {P : β → Prop} {K : Int32 → β} (h : P (sLeT x K)) (kk : ∀ y, P (K y) → TJ G X R E cells slots pc (a0 :: a1 :: a2 :: a3 :: some (.int y) :: r) st M) : TJ G X R E cells slots pc (a0 :: a1 :: a2 :: a3 :: some (.int x) :: r) st M := kk x h
theorem S.l4 {a0 a1 a2 a3 : Option Value} {r : List (Option Value)} {x : Int64} {K : Int64 → Prop} (h : sLet x K) (kk : ∀ y, K y → TJ G X R E cells slots pc (a0 :: a1 :: a2 :: a3 :: some (.long y) :: r) st M) : TJ G X R E cells slots pc (a0 :: a1 :: a2 :: a3 :: some (.long x) :: r) st M := kk x h
theorem S.l4T {a0 a1 a2 a3 : Option Value} {r : List (Option Value)} {x : Int64} {β : Type} {P : β → Prop} {K : Int64 → β} (h : P (sLeT x K)) (kk : ∀ y, P (K y) → TJ G X R E cells slots pc (a0 :: a1 :: a2 :: a3 :: some (.long y) :: r) st M) : TJ G X R E cells slots pc (a0 :: a1 :: a2 :: a3 :: some (.long x) :: r) st M := kk x h
theorem S.i5 {a0 a1 a2 a3 a4 : Option Value} {r : List (Option Value)} {x : Int32} {K : Int32 → Prop} (h : sLet x K) (kk : ∀ y, K y → TJ G X R E cells slots pc (a0 :: a1 :: a2 :: a3 :: a4 :: some (.int y) :: r) st M) : TJ G X R E cells slots pc (a0 :: a1 :: a2 :: a3 :: a4 :: some (.int x) :: r) st M := kk x h
theorem S.i5T {a0 a1 a2 a3 a4 : Option Value} {r : List (Option Value)} {x : Int32} {β : Type} {P : β → Prop} {K : Int32 → β} (h : P (sLeT x K)) (kk : ∀ y, P (K y) → TJ G X R E cells slots pc (a0 :: a1 :: a2 :: a3 :: a4 :: some (.int y) :: r) st M) : TJ G X R E cells slots pc (a0 :: a1 :: a2 :: a3 :: a4 :: some (.int x) :: r) st M := kk x h
theorem S.l5 {a0 a1 a2 a3 a4 : Option Value} {r : List (Option Value)} {x : Int64} {K : Int64 → Prop} (h : sLet x K) (kk : ∀ y, K y → TJ G X R E cells slots pc (a0 :: a1 :: a2 :: a3 :: a4 :: some (.long y) :: r) st M) : TJ G X R E cells slots pc (a0 :: a1 :: a2 :: a3 :: a4 :: some (.long x) :: r) st M := kk x h
theorem S.l5T {a0 a1 a2 a3 a4 : Option Value} {r : List (Option Value)} {x : Int64} {β : Type} {P : β → Prop} {K : Int64 → β} (h : P (sLeT x K)) (kk : ∀ y, P (K y) → TJ G X R E cells slots pc (a0 :: a1 :: a2 :: a3 :: a4 :: some (.long y) :: r) st M) : TJ G X R E cells slots pc (a0 :: a1 :: a2 :: a3 :: a4 :: some (.long x) :: r) st M := kk x h
theorem S.i6 {a0 a1 a2 a3 a4 a5 : Option Value} {r : List (Option Value)} {x : Int32} {K : Int32 → Prop} (h : sLet x K) (kk : ∀ y, K y → TJ G X R E cells slots pc (a0 :: a1 :: a2 :: a3 :: a4 :: a5 :: some (.int y) :: r) st M) : TJ G X R E cells slots pc (a0 :: a1 :: a2 :: a3 :: a4 :: a5 :: some (.int x) :: r) st M := kk x h
theorem S.i6T {a0 a1 a2 a3 a4 a5 : Option Value} {r : List (Option Value)} {x : Int32} {β : Type} {P : β → Prop} {K : Int32 → β} (h : P (sLeT x K)) (kk : ∀ y, P (K y) → TJ G X R E cells slots pc (a0 :: a1 :: a2 :: a3 :: a4 :: a5 :: some (.int y) :: r) st M) : TJ G X R E cells slots pc (a0 :: a1 :: a2 :: a3 :: a4 :: a5 :: some (.int x) :: r) st M := kk x h
theorem S.l6 {a0 a1 a2 a3 a4 a5 : Option Value} {r : List (Option Value)} {x : Int64} {K : Int64 → Prop} (h : sLet x K) (kk : ∀ y, K y → TJ G X R E cells slots pc (a0 :: a1 :: a2 :: a3 :: a4 :: a5 :: some (.long y) :: r) st M) : TJ G X R E cells slots pc (a0 :: a1 :: a2 :: a3 :: a4 :: a5 :: some (.long x) :: r) st M := kk x h
theorem S.l6T {a0 a1 a2 a3 a4 a5 : Option Value} {r : List (Option Value)} {x : Int64} {β : Type} {P : β → Prop} {K : Int64 → β} (h : P (sLeT x K)) (kk : ∀ y, P (K y) → TJ G X R E cells slots pc (a0 :: a1 :: a2 :: a3 :: a4 :: a5 :: some (.long y) :: r) st M) : TJ G X R E cells slots pc (a0 :: a1 :: a2 :: a3 :: a4 :: a5 :: some (.long x) :: r) st M := kk x h
theorem S.i7 {a0 a1 a2 a3 a4 a5 a6 : Option Value} {r : List (Option Value)} {x : Int32} {K : Int32 → Prop} (h : sLet x K) (kk : ∀ y, K y → TJ G X R E cells slots pc (a0 :: a1 :: a2 :: a3 :: a4 :: a5 :: a6 :: some (.int y) :: r) st M) : TJ G X R E cells slots pc (a0 :: a1 :: a2 :: a3 :: a4 :: a5 :: a6 :: some (.int x) :: r) st M := kk x h
theorem S.i7T {a0 a1 a2 a3 a4 a5 a6 : Option Value} {r : List (Option Value)} {x : Int32} {β : Type} {P : β → Prop} {K : Int32 → β} (h : P (sLeT x K)) (kk : ∀ y, P (K y) → TJ G X R E cells slots pc (a0 :: a1 :: a2 :: a3 :: a4 :: a5 :: a6 :: some (.int y) :: r) st M) : TJ G X R E cells slots pc (a0 :: a1 :: a2 :: a3 :: a4 :: a5 :: a6 :: some (.int x) :: r) st M := kk x h
theorem S.l7 {a0 a1 a2 a3 a4 a5 a6 : Option Value} {r : List (Option Value)} {x : Int64} {K : Int64 → Prop} (h : sLet x K) (kk : ∀ y, K y → TJ G X R E cells slots pc (a0 :: a1 :: a2 :: a3 :: a4 :: a5 :: a6 :: some (.long y) :: r) st M) : TJ G X R E cells slots pc (a0 :: a1 :: a2 :: a3 :: a4 :: a5 :: a6 :: some (.long x) :: r) st M := kk x h
theorem S.l7T {a0 a1 a2 a3 a4 a5 a6 : Option Value} {r : List (Option Value)} {x : Int64} {β : Type} {P : β → Prop} {K : Int64 → β} (h : P (sLeT x K)) (kk : ∀ y, P (K y) → TJ G X R E cells slots pc (a0 :: a1 :: a2 :: a3 :: a4 :: a5 :: a6 :: some (.long y) :: r) st M) : TJ G X R E cells slots pc (a0 :: a1 :: a2 :: a3 :: a4 :: a5 :: a6 :: some (.long x) :: r) st M := kk x h
theorem S.i8 {a0 a1 a2 a3 a4 a5 a6 a7 : Option Value} {r : List (Option Value)} {x : Int32} {K : Int32 → Prop} (h : sLet x K) (kk : ∀ y, K y → TJ G X R E cells slots pc (a0 :: a1 :: a2 :: a3 :: a4 :: a5 :: a6 :: a7 :: some (.int y) :: r) st M) : TJ G X R E cells slots pc (a0 :: a1 :: a2 :: a3 :: a4 :: a5 :: a6 :: a7 :: some (.int x) :: r) st M := kk x h
theorem S.l8 {a0 a1 a2 a3 a4 a5 a6 a7 : Option Value} {r : List (Option Value)} {x : Int64} {K : Int64 → Prop} (h : sLet x K) (kk : ∀ y, K y → TJ G X R E cells slots pc (a0 :: a1 :: a2 :: a3 :: a4 :: a5 :: a6 :: a7 :: some (.long y) :: r) st M) : TJ G X R E cells slots pc (a0 :: a1 :: a2 :: a3 :: a4 :: a5 :: a6 :: a7 :: some (.long x) :: r) st M := kk x h
theorem S.i9 {a0 a1 a2 a3 a4 a5 a6 a7 a8 : Option Value} {r : List (Option Value)} {x : Int32} {K : Int32 → Prop} (h : sLet x K) (kk : ∀ y, K y → TJ G X R E cells slots pc (a0 :: a1 :: a2 :: a3 :: a4 :: a5 :: a6 :: a7 :: a8 :: some (.int y) :: r) st M) : TJ G X R E cells slots pc (a0 :: a1 :: a2 :: a3 :: a4 :: a5 :: a6 :: a7 :: a8 :: some (.int x) :: r) st M := kk x h
theorem S.l9 {a0 a1 a2 a3 a4 a5 a6 a7 a8 : Option Value} {r : List (Option Value)} {x : Int64} {K : Int64 → Prop} (h : sLet x K) (kk : ∀ y, K y → TJ G X R E cells slots pc (a0 :: a1 :: a2 :: a3 :: a4 :: a5 :: a6 :: a7 :: a8 :: some (.long y) :: r) st M) : TJ G X R E cells slots pc (a0 :: a1 :: a2 :: a3 :: a4 :: a5 :: a6 :: a7 :: a8 :: some (.long x) :: r) st M := kk x h
theorem S.i10 {a0 a1 a2 a3 a4 a5 a6 a7 a8 a9 : Option Value} {r : List (Option Value)} {x : Int32} {K : Int32 → Prop} (h : sLet x K) (kk : ∀ y, K y → TJ G X R E cells slots pc (a0 :: a1 :: a2 :: a3 :: a4 :: a5 :: a6 :: a7 :: a8 :: a9 :: some (.int y) :: r) st M) : TJ G X R E cells slots pc (a0 :: a1 :: a2 :: a3 :: a4 :: a5 :: a6 :: a7 :: a8 :: a9 :: some (.int x) :: r) st M := kk x h
theorem S.l10 {a0 a1 a2 a3 a4 a5 a6 a7 a8 a9 : Option Value} {r : List (Option Value)} {x : Int64} {K : Int64 → Prop} (h : sLet x K) (kk : ∀ y, K y → TJ G X R E cells slots pc (a0 :: a1 :: a2 :: a3 :: a4 :: a5 :: a6 :: a7 :: a8 :: a9 :: some (.long y) :: r) st M) : TJ G X R E cells slots pc (a0 :: a1 :: a2 :: a3 :: a4 :: a5 :: a6 :: a7 :: a8 :: a9 :: some (.long x) :: r) st M := kk x h
theorem S.i11 {a0 a1 a2 a3 a4 a5 a6 a7 a8 a9 a10 : Option Value} {r : List (Option Value)} {x : Int32} {K : Int32 → Prop} (h : sLet x K) (kk : ∀ y, K y → TJ G X R E cells slots pc (a0 :: a1 :: a2 :: a3 :: a4 :: a5 :: a6 :: a7 :: a8 :: a9 :: a10 :: some (.int y) :: r) st M) : TJ G X R E cells slots pc (a0 :: a1 :: a2 :: a3 :: a4 :: a5 :: a6 :: a7 :: a8 :: a9 :: a10 :: some (.int x) :: r) st M := kk x h
theorem S.l11 {a0 a1 a2 a3 a4 a5 a6 a7 a8 a9 a10 : Option Value} {r : List (Option Value)} {x : Int64} {K : Int64 → Prop} (h : sLet x K) (kk : ∀ y, K y → TJ G X R E cells slots pc (a0 :: a1 :: a2 :: a3 :: a4 :: a5 :: a6 :: a7 :: a8 :: a9 :: a10 :: some (.long y) :: r) st M) : TJ G X R E cells slots pc (a0 :: a1 :: a2 :: a3 :: a4 :: a5 :: a6 :: a7 :: a8 :: a9 :: a10 :: some (.long x) :: r) st M := kk x h
theorem S.i12 {a0 a1 a2 a3 a4 a5 a6 a7 a8 a9 a10 a11 : Option Value} {r : List (Option Value)} {x : Int32} {K : Int32 → Prop} (h : sLet x K) (kk : ∀ y, K y → TJ G X R E cells slots pc (a0 :: a1 :: a2 :: a3 :: a4 :: a5 :: a6 :: a7 :: a8 :: a9 :: a10 :: a11 :: some (.int y) :: r) st M) : TJ G X R E cells slots pc (a0 :: a1 :: a2 :: a3 :: a4 :: a5 :: a6 :: a7 :: a8 :: a9 :: a10 :: a11 :: some (.int x) :: r) st M := kk x h
theorem S.l12 {a0 a1 a2 a3 a4 a5 a6 a7 a8 a9 a10 a11 : Option Value} {r : List (Option Value)} {x : Int64} {K : Int64 → Prop} (h : sLet x K) (kk : ∀ y, K y → TJ G X R E cells slots pc (a0 :: a1 :: a2 :: a3 :: a4 :: a5 :: a6 :: a7 :: a8 :: a9 :: a10 :: a11 :: some (.long y) :: r) st M) : TJ G X R E cells slots pc (a0 :: a1 :: a2 :: a3 :: a4 :: a5 :: a6 :: a7 :: a8 :: a9 :: a10 :: a11 :: some (.long x) :: r) st M := kk x h
theorem S.i13 {a0 a1 a2 a3 a4 a5 a6 a7 a8 a9 a10 a11 a12 : Option Value} {r : List (Option Value)} {x : Int32} {K : Int32 → Prop} (h : sLet x K) (kk : ∀ y, K y → TJ G X R E cells slots pc (a0 :: a1 :: a2 :: a3 :: a4 :: a5 :: a6 :: a7 :: a8 :: a9 :: a10 :: a11 :: a12 :: some (.int y) :: r) st M) : TJ G X R E cells slots pc (a0 :: a1 :: a2 :: a3 :: a4 :: a5 :: a6 :: a7 :: a8 :: a9 :: a10 :: a11 :: a12 :: some (.int x) :: r) st M := kk x h
theorem S.l13 {a0 a1 a2 a3 a4 a5 a6 a7 a8 a9 a10 a11 a12 : Option Value} {r : List (Option Value)} {x : Int64} {K : Int64 → Prop} (h : sLet x K) (kk : ∀ y, K y → TJ G X R E cells slots pc (a0 :: a1 :: a2 :: a3 :: a4 :: a5 :: a6 :: a7 :: a8 :: a9 :: a10 :: a11 :: a12 :: some (.long y) :: r) st M) : TJ G X R E cells slots pc (a0 :: a1 :: a2 :: a3 :: a4 :: a5 :: a6 :: a7 :: a8 :: a9 :: a10 :: a11 :: a12 :: some (.long x) :: r) st M := kk x h
theorem S.i14 {a0 a1 a2 a3 a4 a5 a6 a7 a8 a9 a10 a11 a12 a13 : Option Value} {r : List (Option Value)} {x : Int32} {K : Int32 → Prop} (h : sLet x K) (kk : ∀ y, K y → TJ G X R E cells slots pc (a0 :: a1 :: a2 :: a3 :: a4 :: a5 :: a6 :: a7 :: a8 :: a9 :: a10 :: a11 :: a12 :: a13 :: some (.int y) :: r) st M) : TJ G X R E cells slots pc (a0 :: a1 :: a2 :: a3 :: a4 :: a5 :: a6 :: a7 :: a8 :: a9 :: a10 :: a11 :: a12 :: a13 :: some (.int x) :: r) st M := kk x h
theorem S.l14 {a0 a1 a2 a3 a4 a5 a6 a7 a8 a9 a10 a11 a12 a13 : Option Value} {r : List (Option Value)} {x : Int64} {K : Int64 → Prop} (h : sLet x K) (kk : ∀ y, K y → TJ G X R E cells slots pc (a0 :: a1 :: a2 :: a3 :: a4 :: a5 :: a6 :: a7 :: a8 :: a9 :: a10 :: a11 :: a12 :: a13 :: some (.long y) :: r) st M) : TJ G X R E cells slots pc (a0 :: a1 :: a2 :: a3 :: a4 :: a5 :: a6 :: a7 :: a8 :: a9 :: a10 :: a11 :: a12 :: a13 :: some (.long x) :: r) st M := kk x h
theorem S.i15 {a0 a1 a2 a3 a4 a5 a6 a7 a8 a9 a10 a11 a12 a13 a14 : Option Value} {r : List (Option Value)} {x : Int32} {K : Int32 → Prop} (h : sLet x K) (kk : ∀ y, K y → TJ G X R E cells slots pc (a0 :: a1 :: a2 :: a3 :: a4 :: a5 :: a6 :: a7 :: a8 :: a9 :: a10 :: a11 :: a12 :: a13 :: a14 :: some (.int y) :: r) st M) : TJ G X R E cells slots pc (a0 :: a1 :: a2 :: a3 :: a4 :: a5 :: a6 :: a7 :: a8 :: a9 :: a10 :: a11 :: a12 :: a13 :: a14 :: some (.int x) :: r) st M := kk x h
theorem S.l15 {a0 a1 a2 a3 a4 a5 a6 a7 a8 a9 a10 a11 a12 a13 a14 : Option Value} {r : List (Option Value)} {x : Int64} {K : Int64 → Prop} (h : sLet x K) (kk : ∀ y, K y → TJ G X R E cells slots pc (a0 :: a1 :: a2 :: a3 :: a4 :: a5 :: a6 :: a7 :: a8 :: a9 :: a10 :: a11 :: a12 :: a13 :: a14 :: some (.long y) :: r) st M) : TJ G X R E cells slots pc (a0 :: a1 :: a2 :: a3 :: a4 :: a5 :: a6 :: a7 :: a8 :: a9 :: a10 :: a11 :: a12 :: a13 :: a14 :: some (.long x) :: r) st M := kk x h
theorem T.ialdk {c n k9 : Nat} {i : Int32} (hkd : sk_kd c = 10) (hln : sk_ln c = n) (hlt : c < 159) (d : decode X.2.1 pc = .ok (.iaload, 1)) (hq : pc + 1 = q) (hi : i.toNatClampNeg = k9 ∧ ¬ (i < 0 ∨ n ≤ i.toNatClampNeg)) (kk : TJ G X R E cells slots q xs (.int (M.1 c k9) :: st) M) : TJ G X R E cells slots pc xs (.int i :: .ref (G.2.2.1 c) :: st) M := T.iald hkd hln hlt d hq hi.2 (by rw [hi.1]; exact kk)
theorem T.zaldk {c n k9 : Nat} {i : Int32} (hkd : sk_kd c = 12) (hln : sk_ln c = n) (hlt : c < 159) (d : decode X.2.1 pc = .ok (.baload, 1)) (hq : pc + 1 = q) (hi : i.toNatClampNeg = k9 ∧ ¬ (i < 0 ∨ n ≤ i.toNatClampNeg)) (kk : TJ G X R E cells slots q xs (.int (M.1 c k9) :: st) M) : TJ G X R E cells slots pc xs (.int i :: .ref (G.2.2.1 c) :: st) M := T.zald hkd hln hlt d hq hi.2 (by rw [hi.1]; exact kk)
theorem T.baldk {c n k9 : Nat} {i : Int32} (hkd : sk_kd c = 13) (hln : sk_ln c = n) (hlt : c < 159) (d : decode X.2.1 pc = .ok (.baload, 1)) (hq : pc + 1 = q) (hi : i.toNatClampNeg = k9 ∧ ¬ (i < 0 ∨ n ≤ i.toNatClampNeg)) (kk : TJ G X R E cells slots q xs (.int (M.1 c k9) :: st) M) : TJ G X R E cells slots pc xs (.int i :: .ref (G.2.2.1 c) :: st) M := T.bald hkd hln hlt d hq hi.2 (by rw [hi.1]; exact kk)
theorem T.laldk {c n k9 : Nat} {i : Int32} (hkd : sk_kd c = 11) (hln : sk_ln c = n) (hlt : c < 159) (d : decode X.2.1 pc = .ok (.laload, 1)) (hq : pc + 1 = q) (hi : i.toNatClampNeg = k9 ∧ ¬ (i < 0 ∨ n ≤ i.toNatClampNeg)) (kk : TJ G X R E cells slots q xs (.long (M.2 c k9) :: st) M) : TJ G X R E cells slots pc xs (.int i :: .ref (G.2.2.1 c) :: st) M := T.lald hkd hln hlt d hq hi.2 (by rw [hi.1]; exact kk)
theorem T.iastk {c n k9 : Nat} {i : Int32} {v : Int32} (hkd : sk_kd c = 10) (hln : sk_ln c = n) (hlt : c < 159) (d : decode X.2.1 pc = .ok (.iastore, 1)) (hq : pc + 1 = q) (hi : i.toNatClampNeg = k9 ∧ ¬ (i < 0 ∨ n ≤ i.toNatClampNeg)) (kk : TJ G X R E cells slots q xs st (sk_si M c k9 v)) : TJ G X R E cells slots pc xs (.int v :: .int i :: .ref (G.2.2.1 c) :: st) M := T.iast hkd hln hlt d hq hi.2 (by rw [hi.1]; exact kk)
theorem T.zastk {c n k9 : Nat} {i : Int32} {v : Int32} (hkd : sk_kd c = 12) (hln : sk_ln c = n) (hlt : c < 159) (d : decode X.2.1 pc = .ok (.bastore, 1)) (hq : pc + 1 = q) (hi : i.toNatClampNeg = k9 ∧ ¬ (i < 0 ∨ n ≤ i.toNatClampNeg)) (kk : TJ G X R E cells slots q xs st (sk_si M c k9 (vp_nar .boolean v))) : TJ G X R E cells slots pc xs (.int v :: .int i :: .ref (G.2.2.1 c) :: st) M := T.zast hkd hln hlt d hq hi.2 (by rw [hi.1]; exact kk)
theorem T.bastk {c n k9 : Nat} {i : Int32} {v : Int32} (hkd : sk_kd c = 13) (hln : sk_ln c = n) (hlt : c < 159) (d : decode X.2.1 pc = .ok (.bastore, 1)) (hq : pc + 1 = q) (hi : i.toNatClampNeg = k9 ∧ ¬ (i < 0 ∨ n ≤ i.toNatClampNeg)) (kk : TJ G X R E cells slots q xs st (sk_si M c k9 (vp_nar .byte v))) : TJ G X R E cells slots pc xs (.int v :: .int i :: .ref (G.2.2.1 c) :: st) M := T.bast hkd hln hlt d hq hi.2 (by rw [hi.1]; exact kk)
theorem T.lastk {c n k9 : Nat} {i : Int32} {v : Int64} (hkd : sk_kd c = 11) (hln : sk_ln c = n) (hlt : c < 159) (d : decode X.2.1 pc = .ok (.lastore, 1)) (hq : pc + 1 = q) (hi : i.toNatClampNeg = k9 ∧ ¬ (i < 0 ∨ n ≤ i.toNatClampNeg)) (kk : TJ G X R E cells slots q xs st (sk_sl M c k9 v)) : TJ G X R E cells slots pc xs (.long v :: .int i :: .ref (G.2.2.1 c) :: st) M := T.last hkd hln hlt d hq hi.2 (by rw [hi.1]; exact kk)
theorem T.ldcSW {i : Nat} (tx : String) (j : Nat) (d : decode X.2.1 pc = .ok (.ldc_w i, 3)) (hq : pc + 3 = q) (hw : (X.1.cls, i, tx, j) ∈ sk_St) (k : TJ G X R E cells slots q xs (.ref (G.2.2.2.2.1 j) :: st) M) : TJ G X R E cells slots pc xs st M := by
  subst hq
  intro p e s m args below meth c H locs hcx hP hS ls hl T hT X9
  have hZ := hcx.2.2.2.2.2.2.2.2.2.2.2.2.2.2.1 _ hw
  obtain ⟨t, a1, b1⟩ := k p e s m args below meth c H locs hcx hP hS ls hl T hT X9
  exact ⟨t, X9.ldcStringW hcx.1 hcx.2.2.2.2.1 (text := tx) (a := G.2.2.2.2.1 j) hZ.1 hZ.2 (g := F0 m pc ls st) rfl (by rw [hcx.2.1]; exact d) t a1, b1⟩
end SCP
theorem sw_0_6 {x : Int32} (e0 : ¬ x = 0) (e1 : ¬ x = 1) (e2 : ¬ x = 2) (e3 : ¬ x = 3) (e4 : ¬ x = 4) (e5 : ¬ x = 5) (e6 : ¬ x = 6) : x.toInt < 0 ∨ 6 < x.toInt := by
  have q0 : ¬ x.toInt = 0 := fun q => e0 (Int32.toInt_inj.mp q)
  have q1 : ¬ x.toInt = 1 := fun q => e1 (Int32.toInt_inj.mp q)
  have q2 : ¬ x.toInt = 2 := fun q => e2 (Int32.toInt_inj.mp q)
  have q3 : ¬ x.toInt = 3 := fun q => e3 (Int32.toInt_inj.mp q)
  have q4 : ¬ x.toInt = 4 := fun q => e4 (Int32.toInt_inj.mp q)
  have q5 : ¬ x.toInt = 5 := fun q => e5 (Int32.toInt_inj.mp q)
  have q6 : ¬ x.toInt = 6 := fun q => e6 (Int32.toInt_inj.mp q)
  omega
theorem sw_0_4 {x : Int32} (e0 : ¬ x = 0) (e1 : ¬ x = 1) (e2 : ¬ x = 2) (e3 : ¬ x = 3) (e4 : ¬ x = 4) : x.toInt < 0 ∨ 4 < x.toInt := by
  have q0 : ¬ x.toInt = 0 := fun q => e0 (Int32.toInt_inj.mp q)
  have q1 : ¬ x.toInt = 1 := fun q => e1 (Int32.toInt_inj.mp q)
  have q2 : ¬ x.toInt = 2 := fun q => e2 (Int32.toInt_inj.mp q)
  have q3 : ¬ x.toInt = 3 := fun q => e3 (Int32.toInt_inj.mp q)
  have q4 : ¬ x.toInt = 4 := fun q => e4 (Int32.toInt_inj.mp q)
  omega
theorem sw_0_12 {x : Int32} (e0 : ¬ x = 0) (e1 : ¬ x = 1) (e2 : ¬ x = 2) (e3 : ¬ x = 3) (e4 : ¬ x = 4) (e5 : ¬ x = 5) (e6 : ¬ x = 6) (e7 : ¬ x = 7) (e8 : ¬ x = 8) (e9 : ¬ x = 9) (e10 : ¬ x = 10) (e11 : ¬ x = 11) (e12 : ¬ x = 12) : x.toInt < 0 ∨ 12 < x.toInt := by
  have q0 : ¬ x.toInt = 0 := fun q => e0 (Int32.toInt_inj.mp q)
  have q1 : ¬ x.toInt = 1 := fun q => e1 (Int32.toInt_inj.mp q)
  have q2 : ¬ x.toInt = 2 := fun q => e2 (Int32.toInt_inj.mp q)
  have q3 : ¬ x.toInt = 3 := fun q => e3 (Int32.toInt_inj.mp q)
  have q4 : ¬ x.toInt = 4 := fun q => e4 (Int32.toInt_inj.mp q)
  have q5 : ¬ x.toInt = 5 := fun q => e5 (Int32.toInt_inj.mp q)
  have q6 : ¬ x.toInt = 6 := fun q => e6 (Int32.toInt_inj.mp q)
  have q7 : ¬ x.toInt = 7 := fun q => e7 (Int32.toInt_inj.mp q)
  have q8 : ¬ x.toInt = 8 := fun q => e8 (Int32.toInt_inj.mp q)
  have q9 : ¬ x.toInt = 9 := fun q => e9 (Int32.toInt_inj.mp q)
  have q10 : ¬ x.toInt = 10 := fun q => e10 (Int32.toInt_inj.mp q)
  have q11 : ¬ x.toInt = 11 := fun q => e11 (Int32.toInt_inj.mp q)
  have q12 : ¬ x.toInt = 12 := fun q => e12 (Int32.toInt_inj.mp q)
  omega
theorem sw_0_5 {x : Int32} (e0 : ¬ x = 0) (e1 : ¬ x = 1) (e2 : ¬ x = 2) (e3 : ¬ x = 3) (e4 : ¬ x = 4) (e5 : ¬ x = 5) : x.toInt < 0 ∨ 5 < x.toInt := by
  have q0 : ¬ x.toInt = 0 := fun q => e0 (Int32.toInt_inj.mp q)
  have q1 : ¬ x.toInt = 1 := fun q => e1 (Int32.toInt_inj.mp q)
  have q2 : ¬ x.toInt = 2 := fun q => e2 (Int32.toInt_inj.mp q)
  have q3 : ¬ x.toInt = 3 := fun q => e3 (Int32.toInt_inj.mp q)
  have q4 : ¬ x.toInt = 4 := fun q => e4 (Int32.toInt_inj.mp q)
  have q5 : ¬ x.toInt = 5 := fun q => e5 (Int32.toInt_inj.mp q)
  omega
theorem sw_4_6 {x : Int32} (e4 : ¬ x = 4) (e5 : ¬ x = 5) (e6 : ¬ x = 6) : x.toInt < 4 ∨ 6 < x.toInt := by
  have q4 : ¬ x.toInt = 4 := fun q => e4 (Int32.toInt_inj.mp q)
  have q5 : ¬ x.toInt = 5 := fun q => e5 (Int32.toInt_inj.mp q)
  have q6 : ¬ x.toInt = 6 := fun q => e6 (Int32.toInt_inj.mp q)
  omega
theorem sw_4_12 {x : Int32} (e4 : ¬ x = 4) (e5 : ¬ x = 5) (e6 : ¬ x = 6) (e7 : ¬ x = 7) (e8 : ¬ x = 8) (e9 : ¬ x = 9) (e10 : ¬ x = 10) (e11 : ¬ x = 11) (e12 : ¬ x = 12) : x.toInt < 4 ∨ 12 < x.toInt := by
  have q4 : ¬ x.toInt = 4 := fun q => e4 (Int32.toInt_inj.mp q)
  have q5 : ¬ x.toInt = 5 := fun q => e5 (Int32.toInt_inj.mp q)
  have q6 : ¬ x.toInt = 6 := fun q => e6 (Int32.toInt_inj.mp q)
  have q7 : ¬ x.toInt = 7 := fun q => e7 (Int32.toInt_inj.mp q)
  have q8 : ¬ x.toInt = 8 := fun q => e8 (Int32.toInt_inj.mp q)
  have q9 : ¬ x.toInt = 9 := fun q => e9 (Int32.toInt_inj.mp q)
  have q10 : ¬ x.toInt = 10 := fun q => e10 (Int32.toInt_inj.mp q)
  have q11 : ¬ x.toInt = 11 := fun q => e11 (Int32.toInt_inj.mp q)
  have q12 : ¬ x.toInt = 12 := fun q => e12 (Int32.toInt_inj.mp q)
  omega
theorem Ctr.mono {G : sk_G} {X : sk_X} {d mc ms : Nat} {args : List Value} {M : sk_M} {po po' : Option Value → sk_M → Prop} {xp xp' : String → sk_M → Prop} (h : Ctr G X d mc ms args M po xp) (hp : ∀ v M', po v M' → po' v M') (hx : ∀ e M', xp e M' → xp' e M') : Ctr G X d mc ms args M po' xp' := by
  intro sz
  refine MetFree.mono (h sz) (fun _ _ h => h) (fun _ _ _ _ _ h => h) ?_
  intro a s o t _ hq
  rcases hq with ⟨⟨⟨v, M', h1, h2, h3⟩, h4⟩, h5⟩ | ⟨q, h1, h2⟩
  · exact Or.inl ⟨⟨⟨v, M', h1, hp v M' h2, h3⟩, h4⟩, h5⟩
  · obtain ⟨E, ce, L, ⟨⟨M', h3, h4⟩, h5⟩, h6⟩ := h2
    exact Or.inr ⟨q, h1, E, ce, L, ⟨⟨M', hx E M' h3, h4⟩, h5⟩, h6⟩
theorem Ctr.monoI {G : sk_G} {X : sk_X} {d mc ms : Nat} {args : List Value} {M : sk_M} {f g : Int32 → sk_M → Prop} (h : Ctr G X d mc ms args M (rI f) noX) (hp : ∀ r M', f r M' → g r M') : Ctr G X d mc ms args M (rI g) noX := h.mono (fun v M' ⟨r, e, q⟩ => ⟨r, e, hp r M' q⟩) (fun _ _ h => h)
theorem Ctr.monoL {G : sk_G} {X : sk_X} {d mc ms : Nat} {args : List Value} {M : sk_M} {f g : Int64 → sk_M → Prop} (h : Ctr G X d mc ms args M (rL f) noX) (hp : ∀ r M', f r M' → g r M') : Ctr G X d mc ms args M (rL g) noX := h.mono (fun v M' ⟨r, e, q⟩ => ⟨r, e, hp r M' q⟩) (fun _ _ h => h)
theorem Ctr.monoV {G : sk_G} {X : sk_X} {d mc ms : Nat} {args : List Value} {M : sk_M} {f g : sk_M → Prop} (h : Ctr G X d mc ms args M (rV f) noX) (hp : ∀ M', f M' → g M') : Ctr G X d mc ms args M (rV g) noX := h.mono (fun v M' ⟨e, q⟩ => ⟨e, hp M' q⟩) (fun _ _ h => h)
theorem vin_ex {x : Int32} {n : Nat} (h : vp_in x n) : ∃ j : Nat, j < n ∧ j < 2 ^ 31 ∧ x = nI j := by
  have h0 : ¬ x < 0 := fun q => h (Or.inl q)
  obtain ⟨j, hj, rfl⟩ := nI_of h0
  refine ⟨j, ?_, hj, rfl⟩
  have h1 : ¬ n ≤ (nI j).toNatClampNeg := fun q => h (Or.inr q)
  rw [nI_clamp hj] at h1
  omega
theorem t_bc32 {G : sk_G} {M : sk_M} {x : Int32} {P : Int32 → Prop} (h : P (bc32 x)) : Ctr G mJ6_bitCount_0f7a4 0 0 0 [.int x] M (rI fun r9 M9 => P r9 ∧ M9 = M) noX := c_bc32.monoI (fun r M' => by rintro ⟨rfl, rfl⟩; exact ⟨h, rfl⟩)
theorem t_bc64 {G : sk_G} {M : sk_M} {x : Int64} {P : Int32 → Prop} (h : P (bc64 x)) : Ctr G mJ13_bitCount_95d88 0 0 0 [.long x] M (rI fun r9 M9 => P r9 ∧ M9 = M) noX := c_bc64.monoI (fun r M' => by rintro ⟨rfl, rfl⟩; exact ⟨h, rfl⟩)
theorem t_charAt {G : sk_G} {M : sk_M} {j : Nat} {x : Int32} (hj : j < sk_SN) (h : vp_in x (wdL j)) : Ctr G mJ0_charAt_5068e 3 0 0 [.ref (G.2.2.2.2.1 j), .int x] M (rI fun r M' => r = nI (wdN j x.toNatClampNeg) ∧ M' = M) noX := by
  obtain ⟨k, hk, hk2, rfl⟩ := vin_ex h
  rw [nI_clamp hk2]
  exact c_charAt (by decide) hj hk
