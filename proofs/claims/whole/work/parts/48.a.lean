/-! the reference reads the text of the bank -/
def bkR (M0 M : sk_M) (nv0 np0 : Nat) (B : BS) : Prop := (∀ c, c ≠ 140 → c ≠ 141 → M.1 c = M0.1 c) ∧ (∀ c, c ≠ 146 → M.2 c = M0.2 c) ∧ (∀ k, k ≠ 15 → k ≠ 17 → M.1 140 k = M0.1 140 k) ∧ (M.1 141 0 = nI B.1.1 ∧ M.1 141 1 = nI B.1.2.1 ∧ M.1 141 2 = nI B.1.2.2.1 ∧ M.1 141 6 = nI B.1.2.2.2) ∧ (∀ v, v < B.1.1 → M.1 141 (10 + 4 * v) = nI (B.2.1 v).1 ∧ M.1 141 (11 + 4 * v) = nI (B.2.1 v).2.2 ∧ M.1 141 (12 + 4 * v) = nI (B.2.1 v).2.1 ∧ M.1 141 (13 + 4 * v) = if v < nv0 then M0.1 141 (13 + 4 * v) else 0) ∧ (∀ c, c < B.1.2.2.1 → M.1 141 (35 + 4 * c) = (B.2.2 c).1 ∧ M.1 141 (36 + 4 * c) = (B.2.2 c).2.1 ∧ M.1 141 (37 + 4 * c) = (B.2.2 c).2.2 ∧ M.1 141 (34 + 4 * c) = bI (¬ (B.2.2 c).2.2 = -1)) ∧ (∀ k, k = 3 ∨ k = 4 ∨ k = 5 ∨ k = 7 ∨ k = 8 ∨ k = 9 ∨ 82 ≤ k → M.1 141 k = M0.1 141 k) ∧ ∀ p, p < B.1.2.1 → ∀ v, v < B.1.1 → ∀ k, k < 4 → M.2 146 (4 * (6 * p + v) + k) = if p < np0 ∧ v < nv0 then M0.2 146 (4 * (6 * p + v) + k) else kMask k
/-- wrong at a; what was before can be brought back -/
def bkZ (M0 M : sk_M) (a : Nat) : Prop := (∀ c, c ≠ 140 → c ≠ 141 → M.1 c = M0.1 c) ∧ (∀ c, c ≠ 146 → M.2 c = M0.2 c) ∧ (∀ k, k ≠ 15 → k ≠ 17 → M.1 140 k = M0.1 140 k) ∧ M.1 140 17 = nI a
theorem bkR.rt {M0 M M' : sk_M} {nv0 np0 : Nat} {B : BS} (h : bkR M0 M nv0 np0 B) (g : rtF M M') : bkR M0 M' nv0 np0 B := by
  obtain ⟨a1, a2, a3, a4, a5, a6, a7, a8⟩ := h
  have e := g.1 141 (by decide)
  refine ⟨fun c h1 h2 => (g.1 c h1).trans (a1 c h1 h2), fun c hc => by rw [g.2.1]; exact a2 c hc, fun k h1 h2 => (g.2.2 k h1 h2).trans (a3 k h1 h2), ?_, ?_, ?_, ?_, ?_⟩
  · rw [e]; exact a4
  · rw [e]; exact a5
  · rw [e]; exact a6
  · rw [e]; exact a7
  · rw [g.2.1]; exact a8
theorem bkR.Z {M0 M M' : sk_M} {nv0 np0 a : Nat} {B : BS} (h : bkR M0 M nv0 np0 B) (g : rtF M M') (e : M'.1 140 17 = nI a) : bkZ M0 M' a := ⟨fun c h1 h2 => (g.1 c h1).trans (h.1 c h1 h2), fun c hc => by rw [g.2.1]; exact h.2.1 c hc, fun k h1 h2 => (g.2.2 k h1 h2).trans (h.2.2.1 k h1 h2), e⟩
/-- but for the vault v and the place M' is M -/
def vwF (M M' : sk_M) (v : Nat) : Prop := (∀ c, c ≠ 140 → c ≠ 141 → M'.1 c = M.1 c) ∧ M'.2 = M.2 ∧ (∀ k, k ≠ 15 → k ≠ 17 → M'.1 140 k = M.1 140 k) ∧ ∀ k, k < 10 + 4 * v ∨ 14 + 4 * v ≤ k → M'.1 141 k = M.1 141 k
theorem vwF.rt {M A C : sk_M} {v : Nat} (h : vwF M A v) (g : rtF A C) : vwF M C v := ⟨fun c a b => (g.1 c a).trans (h.1 c a b), g.2.1.trans h.2.1, fun k a b => (g.2.2 k a b).trans (h.2.2.1 k a b), fun k hk => by rw [g.1 141 (by decide)]; exact h.2.2.2 k hk⟩
theorem vwF.st {M A : sk_M} {v k : Nat} {x : Int32} (h : vwF M A v) (hk : k < 4) : vwF M (sk_si A 141 (10 + 4 * v + k) x) v := ⟨fun c a b => by rw [si_c b]; exact h.1 c a b, h.2.1, fun k a b => by rw [si_c (by decide)]; exact h.2.2.1 k a b, fun j hj => by rw [rd_si, if_neg (by omega)]; exact h.2.2.2 j hj⟩
theorem rtF.v {M M' : sk_M} {v : Nat} (g : rtF M M') : vwF M M' v := ⟨fun c a _ => g.1 c a, g.2.1, g.2.2, fun k _ => by rw [g.1 141 (by decide)]⟩
theorem bkR.vZ {M0 M M' : sk_M} {nv0 np0 a v : Nat} {B : BS} (h : bkR M0 M nv0 np0 B) (g : vwF M M' v) (e : M'.1 140 17 = nI a) : bkZ M0 M' a := ⟨fun c h1 h2 => (g.1 c h1 h2).trans (h.1 c h1 h2), fun c hc => by rw [g.2.1]; exact h.2.1 c hc, fun k h1 h2 => (g.2.2.1 k h1 h2).trans (h.2.2.1 k h1 h2), e⟩
theorem bkR_V {M0 M M' : sk_M} {nv0 np0 c w g : Nat} {B : BS} (h : bkR M0 M nv0 np0 B) (hB : bsB B) (h6 : B.1.1 < 6) (n0 : nv0 ≤ B.1.1) (f : vwF M M' B.1.1) (e0 : M'.1 141 (10 + 4 * B.1.1) = nI c) (e1 : M'.1 141 (11 + 4 * B.1.1) = nI g) (e2 : M'.1 141 (12 + 4 * B.1.1) = nI w) (e3 : M'.1 141 (13 + 4 * B.1.1) = 0) : bkR M0 (sk_si (knA M' 146 B.1.1 6) 141 0 (nI (B.1.1 + 1))) nv0 np0 (bV B c w g) := by
  obtain ⟨a1, a2, a3, ⟨a40, a41, a42, a46⟩, a5, a6, a7, a8⟩ := h
  obtain ⟨f1, f2, f3, f4⟩ := f
  have k1 : (knA M' 146 B.1.1 6).1 = M'.1 := knA_1 _ _ _ _
  refine ⟨fun x h1 h2 => ?_, fun x hx => ?_, fun k h1 h2 => ?_, ⟨?_, ?_, ?_, ?_⟩, fun v hv => ?_, fun x hx => ?_, fun k hk => ?_, fun p hp v hv k hk => ?_⟩
  · rw [si_c h2, k1, f1 x h1 h2]; exact a1 x h1 h2
  · rw [si_2, knA_ne hx, f2]; exact a2 x hx
  · rw [si_c (by decide), k1, f3 k h1 h2]; exact a3 k h1 h2
  · rw [rd_si, if_pos ⟨rfl, rfl⟩]; rfl
  · rw [rd_si, if_neg (by omega), k1, f4 1 (by omega)]; exact a41
  · rw [rd_si, if_neg (by omega), k1, f4 2 (by omega)]; exact a42
  · rw [rd_si, if_neg (by omega), k1, f4 6 (by omega)]; exact a46
  · have hv' : v < B.1.1 + 1 := hv
    show _ = nI (if v = B.1.1 then (c, w, g) else B.2.1 v).1 ∧ _ = nI (if v = B.1.1 then (c, w, g) else B.2.1 v).2.2 ∧ _ = nI (if v = B.1.1 then (c, w, g) else B.2.1 v).2.1 ∧ _
    have rk : ∀ k, k ≠ 0 → (sk_si (knA M' 146 B.1.1 6) 141 0 (nI (B.1.1 + 1))).1 141 k = M'.1 141 k := fun k hk => by rw [rd_si, if_neg (fun u => hk u.2), k1]
    rw [rk _ (by omega), rk _ (by omega), rk _ (by omega), rk _ (by omega)]
    by_cases z : v = B.1.1
    · rw [if_pos z, z, if_neg (by omega)]
      exact ⟨e0, e1, e2, e3⟩
    · rw [if_neg z, f4 _ (by omega), f4 _ (by omega), f4 _ (by omega), f4 _ (by omega)]
      exact a5 v (by omega)
  · have b3 := hB.2.2.1
    have hx' : x < B.1.2.2.1 := hx
    show _ = (B.2.2 x).1 ∧ _ = (B.2.2 x).2.1 ∧ _ = (B.2.2 x).2.2 ∧ _ = bI (¬ (B.2.2 x).2.2 = -1)
    rw [rd_si, if_neg (by omega), rd_si, if_neg (by omega), rd_si, if_neg (by omega), rd_si, if_neg (by omega), k1, f4 _ (by omega), f4 _ (by omega), f4 _ (by omega), f4 _ (by omega)]
    exact a6 x hx'
  · rw [rd_si, if_neg (by omega), k1, f4 _ (by omega)]; exact a7 k hk
  · have hv' : v < B.1.1 + 1 := hv
    have hp' : p < B.1.2.1 := hp
    have b2 := hB.2.1
    rw [si_2, knA_at h6, show (4 * (6 * p + v) + k) / 4 % 6 = v by omega, show (4 * (6 * p + v) + k) / 24 = p by omega, show (4 * (6 * p + v) + k) % 4 = k by omega]
    by_cases z : v = B.1.1
    · rw [if_pos ⟨z, by omega⟩, if_neg (by omega)]
    · rw [if_neg (fun u => z u.1), f2]
      exact a8 p hp' v (by omega) k hk
theorem knB_at {M : sk_M} {c p i : Nat} : ∀ n, n ≤ 6 → (knB M c p n).2 c i = if 24 * p ≤ i ∧ i < 24 * p + 4 * n then kMask (i % 4) else M.2 c i
  | 0, _ => by rw [if_neg (by omega)]; rfl
  | n + 1, h => by
    rw [knB, fk_at, knB_at n (by omega)]
    by_cases z : 4 * (6 * p + n) ≤ i ∧ i < 4 * (6 * p + n) + 4
    · rw [if_pos z, if_pos (by omega)]
      congr 1
      omega
    · rw [if_neg z]
      by_cases w : 24 * p ≤ i ∧ i < 24 * p + 4 * n
      · rw [if_pos w, if_pos (by omega)]
      · rw [if_neg w, if_neg (by omega)]
theorem knB_ne {M : sk_M} {c p c' : Nat} (h : c' ≠ c) : ∀ n, (knB M c p n).2 c' = M.2 c'
  | 0 => rfl
  | n + 1 => by rw [knB, fk_ne h, knB_ne h n]
theorem bkR_P {M0 M : sk_M} {nv0 np0 : Nat} {B : BS} (h : bkR M0 M nv0 np0 B) (hB : bsB B) (n0 : np0 ≤ B.1.2.1) : bkR M0 (sk_si (knB M 146 B.1.2.1 6) 141 1 (nI (B.1.2.1 + 1))) nv0 np0 (bP B) := by
  obtain ⟨a1, a2, a3, ⟨a40, a41, a42, a46⟩, a5, a6, a7, a8⟩ := h
  have k1 : (knB M 146 B.1.2.1 6).1 = M.1 := knB_1 _ _ _ _
  refine ⟨fun x h1 h2 => ?_, fun x hx => ?_, fun k h1 h2 => ?_, ⟨?_, ?_, ?_, ?_⟩, fun v hv => ?_, fun x hx => ?_, fun k hk => ?_, fun p hp v hv k hk => ?_⟩
  · rw [si_c h2, k1]; exact a1 x h1 h2
  · rw [si_2, knB_ne hx]; exact a2 x hx
  · rw [si_c (by decide), k1]; exact a3 k h1 h2
  · rw [rd_si, if_neg (by omega), k1]; exact a40
  · rw [rd_si, if_pos ⟨rfl, rfl⟩]; rfl
  · rw [rd_si, if_neg (by omega), k1]; exact a42
  · rw [rd_si, if_neg (by omega), k1]; exact a46
  · rw [rd_si, if_neg (by omega), rd_si, if_neg (by omega), rd_si, if_neg (by omega), rd_si, if_neg (by omega), k1]
    exact a5 v hv
  · rw [rd_si, if_neg (by omega), rd_si, if_neg (by omega), rd_si, if_neg (by omega), rd_si, if_neg (by omega), k1]
    exact a6 x hx
  · rw [rd_si, if_neg (by omega), k1]; exact a7 k hk
  · have hv' : v < B.1.1 := hv
    have hp' : p < B.1.2.1 + 1 := hp
    have b1 := hB.1
    rw [si_2, knB_at 6 (by omega)]
    by_cases z : p = B.1.2.1
    · rw [if_pos (by omega), if_neg (by omega)]
      congr 1
      omega
    · rw [if_neg (by omega)]
      exact a8 p (by omega) v hv' k hk
theorem bkR_C {M0 M : sk_M} {nv0 np0 : Nat} {B : BS} {x : Int32 × Int32 × Int32} {b : Int32} (h : bkR M0 M nv0 np0 B) (hB : bsB B) (h6 : B.1.2.2.1 < 12) (hb : b = bI (¬ x.2.2 = -1)) : bkR M0 (sk_si (sk_si (sk_si (sk_si (sk_si M 141 (34 + 4 * B.1.2.2.1) b) 141 (35 + 4 * B.1.2.2.1) x.1) 141 (36 + 4 * B.1.2.2.1) x.2.1) 141 (37 + 4 * B.1.2.2.1) x.2.2) 141 2 (nI (B.1.2.2.1 + 1))) nv0 np0 (bC B x) := by
  obtain ⟨a1, a2, a3, ⟨a40, a41, a42, a46⟩, a5, a6, a7, a8⟩ := h
  generalize hN : sk_si (sk_si (sk_si (sk_si (sk_si M 141 (34 + 4 * B.1.2.2.1) b) 141 (35 + 4 * B.1.2.2.1) x.1) 141 (36 + 4 * B.1.2.2.1) x.2.1) 141 (37 + 4 * B.1.2.2.1) x.2.2) 141 2 (nI (B.1.2.2.1 + 1)) = N
  have n1 : ∀ c, c ≠ 141 → N.1 c = M.1 c := fun c hc => by rw [← hN, si_c hc, si_c hc, si_c hc, si_c hc, si_c hc]
  have n2 : N.2 = M.2 := by rw [← hN]; rfl
  have n3 : ∀ k, k ≠ 2 → k < 34 + 4 * B.1.2.2.1 ∨ 38 + 4 * B.1.2.2.1 ≤ k → N.1 141 k = M.1 141 k := fun k h2 hk => by rw [← hN, rd_si, if_neg (by omega), rd_si, if_neg (by omega), rd_si, if_neg (by omega), rd_si, if_neg (by omega), rd_si, if_neg (by omega)]
  have n4 : N.1 141 (34 + 4 * B.1.2.2.1) = b := by rw [← hN, rd_si, if_neg (by omega), rd_si, if_neg (by omega), rd_si, if_neg (by omega), rd_si, if_neg (by omega), rd_si, if_pos ⟨rfl, rfl⟩]
  have n5 : N.1 141 (35 + 4 * B.1.2.2.1) = x.1 := by rw [← hN, rd_si, if_neg (by omega), rd_si, if_neg (by omega), rd_si, if_neg (by omega), rd_si, if_pos ⟨rfl, rfl⟩]
  have n6 : N.1 141 (36 + 4 * B.1.2.2.1) = x.2.1 := by rw [← hN, rd_si, if_neg (by omega), rd_si, if_neg (by omega), rd_si, if_pos ⟨rfl, rfl⟩]
  have n7 : N.1 141 (37 + 4 * B.1.2.2.1) = x.2.2 := by rw [← hN, rd_si, if_neg (by omega), rd_si, if_pos ⟨rfl, rfl⟩]
  have n8 : N.1 141 2 = nI (B.1.2.2.1 + 1) := by rw [← hN, rd_si, if_pos ⟨rfl, rfl⟩]
  have b1 := hB.1
  refine ⟨fun x h1 h2 => by rw [n1 x h2]; exact a1 x h1 h2, fun x hx => by rw [n2]; exact a2 x hx, fun k h1 h2 => by rw [n1 140 (by decide)]; exact a3 k h1 h2, ⟨?_, ?_, n8, ?_⟩, fun v hv => ?_, fun c hc => ?_, fun k hk => ?_, fun p hp v hv k hk => ?_⟩
  · rw [n3 0 (by omega) (by omega)]; exact a40
  · rw [n3 1 (by omega) (by omega)]; exact a41
  · rw [n3 6 (by omega) (by omega)]; exact a46
  · have hv' : v < B.1.1 := hv
    rw [n3 _ (by omega) (by omega), n3 _ (by omega) (by omega), n3 _ (by omega) (by omega), n3 _ (by omega) (by omega)]
    exact a5 v hv
  · have hc' : c < B.1.2.2.1 + 1 := hc
    show _ = (if c = B.1.2.2.1 then x else B.2.2 c).1 ∧ _ = (if c = B.1.2.2.1 then x else B.2.2 c).2.1 ∧ _ = (if c = B.1.2.2.1 then x else B.2.2 c).2.2 ∧ _ = bI (¬ (if c = B.1.2.2.1 then x else B.2.2 c).2.2 = -1)
    by_cases z : c = B.1.2.2.1
    · rw [if_pos z, z, n4, n5, n6, n7]
      exact ⟨rfl, rfl, rfl, hb⟩
    · rw [if_neg z, n3 _ (by omega) (by omega), n3 _ (by omega) (by omega), n3 _ (by omega) (by omega), n3 _ (by omega) (by omega)]
      exact a6 c (by omega)
  · rw [n3 _ (by omega) (by omega)]; exact a7 k hk
  · rw [n2]; exact a8 p hp v hv k hk
