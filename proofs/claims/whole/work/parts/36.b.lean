/-! what ties the two sides -/
def RlN (nv np nc tx dy ch lg nr op : Nat) : Prop := nv ≤ 6 ∧ np ≤ 6 ∧ nc ≤ 12 ∧ tx ≤ 12 ∧ dy ≤ 9999 ∧ ch ≤ 100 ∧ lg ≤ 80 ∧ nr < 80 ∧ op < 2 ^ nv
def RlF (f : Nat → Int32) (nv np nc tx dy ch lg nr op : Nat) : Prop := f 0 = nI nv ∧ f 1 = nI np ∧ f 2 = nI nc ∧ f 3 = nI tx ∧ f 5 = nI dy ∧ f 6 = nI ch ∧ f 10 = nI lg ∧ f 11 = nI nr ∧ f 9 = nI op
def RlW (W : Nat → Int32) (nv np nc tx dy ch lg : Nat) : Prop := W 0 = nI nv ∧ W 1 = nI np ∧ W 2 = nI nc ∧ W 3 = nI tx ∧ W 5 = nI dy ∧ W 6 = nI ch ∧ W 8 = nI lg
def RlS (f W : Nat → Int32) : Prop := f 7 = W 9 ∧ f 8 = W 7
/-- the vaults: code, guards, worth, opened -/
def RlV (F : Nat → Nat → Int32) (W : Nat → Int32) (nv op : Nat) : Prop := ∀ v, v < nv → (∃ c, c < 216 ∧ F 1 v = nI c ∧ W (10 + 4 * v) = nI c) ∧ (∃ g, g < 128 ∧ F 2 v = nI g ∧ W (11 + 4 * v) = nI g) ∧ (∃ w, w ≤ 999 ∧ F 3 v = nI w ∧ W (12 + 4 * v) = nI w) ∧ W (13 + 4 * v) = bI (op.testBit v = true)
def RlC (F : Nat → Nat → Int32) (W : Nat → Int32) (nc : Nat) : Prop := ∀ c, c < nc → F 4 c = W (35 + 4 * c) ∧ F 5 c = W (36 + 4 * c) ∧ F 6 c = W (37 + 4 * c) ∧ W (34 + 4 * c) = bI (¬ F 6 c = -1) ∧ (F 6 c = -1 ∨ ∃ d, d ≤ 999 ∧ F 6 c = nI d)
def RlL (g W : Nat → Int32) (lg nr : Nat) : Prop := ∀ a, a < lg → ∀ k, k < 6 → g ((nr + 79 - a) % 80 * 6 + k) = W (82 + 6 * a + k)
def RlK (KF K : Nat → Int64) (np nv : Nat) : Prop := (∀ p, p < np → ∀ v, v < nv → ∀ k, k < 4 → KF (4 * (6 * p + v) + k) = K (4 * (6 * p + v) + k)) ∧ (∀ p, p < 6 → ∀ v, v < 6 → np ≤ p ∨ nv ≤ v → ∀ k, k < 4 → KF (4 * (6 * p + v) + k) = kMask k)
/-- what is known: no code beyond 215, and the true one -/
def RlT (K : Nat → Int64) (W : Nat → Int32) (np nv : Nat) : Prop := ∀ p, p < np → ∀ v, v < nv → K (4 * (6 * p + v) + 3) &&& 16777215 = K (4 * (6 * p + v) + 3) ∧ kbit K (4 * (6 * p + v)) (W (10 + 4 * v)).toNatClampNeg
def Rel (F : Nat → Nat → Int32) (KF : Nat → Int64) (W : Nat → Int32) (K : Nat → Int64) (nv np nc tx dy ch lg nr op : Nat) : Prop :=
  RlN nv np nc tx dy ch lg nr op ∧ RlF (F 0) nv np nc tx dy ch lg nr op ∧ RlW W nv np nc tx dy ch lg ∧ RlS (F 0) W ∧ RlV F W nv op ∧ RlC F W nc ∧ RlL (F 8) W lg nr ∧ RlK KF K np nv ∧ RlT K W np nv
def RelX (F : Nat → Nat → Int32) (KF : Nat → Int64) (W : Nat → Int32) (K : Nat → Int64) : Prop := ∃ nv np nc tx dy ch lg nr op : Nat, Rel F KF W K nv np nc tx dy ch lg nr op
/-- the law in the text W makes these clicks -/
def clkS (W cl : Nat → Int32) : Prop := ∀ w, w < 3 → ∀ t, t < 6 → ∀ c, c < 6 → ∀ (M : sk_M) (Q : Int32 → sk_M → Prop), M.1 141 4 = W 4 → (∀ k, 562 ≤ k → k < 1411 → M.1 141 k = W k) → (∀ M', (∀ c', c' ≠ 153 → M'.1 c' = M.1 c') → M'.2 = M.2 → Q (cl (36 * w + 6 * t + c)) M') → w_X8_clickOf (nI w) (nI t) (nI c) M Q
def LawR (cl : Nat → Int32) (ln : Int32) (W : Nat → Int32) : Prop := clB cl ∧ clkS W cl ∧ ((W 4 = 0 ∧ ln = -1) ∨ (W 4 = 1 ∧ ln = W 562))
/-- a byte as Java has it -/
def sgn8 (b : Nat) : Int32 := (nI b).toInt8.toInt32
def TapR (M : sk_M) : Prop := (∃ n, n ≤ 400 ∧ M.1 121 1 = nI n ∧ M.1 140 14 = nI n ∧ ∀ j, j < n → ∃ b, b < 256 ∧ M.1 122 j = nI b ∧ M.1 151 j = sgn8 b) ∧ M.1 121 5 = M.1 140 19
def ImgR (M : sk_M) : Prop := M.1 120 8 = M.1 140 11 ∧ (M.1 140 11 = 0 ∨ (M.1 140 11 = 1 ∧ RelX (fun j => M.1 (10 + j)) (M.2 19) (M.1 142) (M.2 147) ∧ LawR (M.1 17) (M.1 10 4) (M.1 142)))
/-- one remembered state: the class's at b, the reference's r-th -/
def MemS (M : sk_M) (b r : Nat) : Prop := RelX (fun j => M.1 (b + j)) (M.2 (b + 9)) (fun k => M.1 145 (562 * r + k)) (fun k => M.2 150 (144 * r + k)) ∧ (∀ i, i < 108 → M.1 (b + 7) i = M.1 7 i) ∧ M.1 b 4 = M.1 0 4 ∧ M.1 145 (562 * r + 4) = M.1 141 4
def MemR (M : sk_M) : Prop := ∃ sz ns : Nat, sz ≤ 10 ∧ ns < 10 ∧ M.1 123 1 = nI sz ∧ M.1 123 2 = nI ns ∧ M.1 140 12 = nI sz ∧ ∀ j, j < sz → MemS M (20 + 10 * ((ns + 9 - j) % 10)) (sz - 1 - j)
def cnt0 (M : sk_M) : Prop := ∀ i, i < 7129 → M.1 155 i = 0
def NowR (M : sk_M) : Prop := RelX M.1 (M.2 9) (M.1 141) (M.2 146) ∧ LawR (M.1 7) (M.1 0 4) (M.1 141)
def Inv (M : sk_M) : Prop := NowR M ∧ TapR M ∧ ImgR M ∧ MemR M ∧ TB M ∧ cnt0 M
/-- only the class's own scratch has changed -/
def scC (M M' : sk_M) : Prop := (∀ c, c < 130 ∨ 139 < c → M'.1 c = M.1 c) ∧ M'.2 = M.2 ∧ (TB M → TB M')
/-- only the reference's own scratch has changed -/
def scR (M M' : sk_M) : Prop := (∀ c, c < 140 ∨ (140 < c ∧ c < 144) ∨ (144 < c ∧ c < 153) ∨ 157 < c → M'.1 c = M.1 c) ∧ (∀ k, k ≠ 0 → M'.1 140 k = M.1 140 k) ∧ (∀ c, c ≠ 149 → M'.2 c = M.2 c) ∧ (cnt0 M → cnt0 M')
theorem scC.rfl {M : sk_M} : scC M M := ⟨fun _ _ => Eq.refl _, Eq.refl _, id⟩
theorem scR.rfl {M : sk_M} : scR M M := ⟨fun _ _ => Eq.refl _, fun _ _ => Eq.refl _, fun _ _ => Eq.refl _, id⟩
theorem scC.trans {A B C : sk_M} (h : scC A B) (g : scC B C) : scC A C := ⟨fun c hc => (g.1 c hc).trans (h.1 c hc), g.2.1.trans h.2.1, fun x => g.2.2 (h.2.2 x)⟩
theorem scR.trans {A B C : sk_M} (h : scR A B) (g : scR B C) : scR A C := ⟨fun c hc => (g.1 c hc).trans (h.1 c hc), fun k hk => (g.2.1 k hk).trans (h.2.1 k hk), fun c hc => (g.2.2.1 c hc).trans (h.2.2.1 c hc), fun x => g.2.2.2 (h.2.2.2 x)⟩
/-- what the tie of the two sides reads -/
def sameR (M M' : sk_M) : Prop := (∀ c, c < 130 → M'.1 c = M.1 c) ∧ (∀ c, c = 141 ∨ c = 142 ∨ c = 145 ∨ c = 151 → M'.1 c = M.1 c) ∧ (∀ k, k = 11 ∨ k = 12 ∨ k = 14 ∨ k = 19 → M'.1 140 k = M.1 140 k) ∧ (∀ c, c ≠ 149 → c ≠ 158 → M'.2 c = M.2 c)
theorem Inv.same {M M' : sk_M} (h : Inv M) (s : sameR M M') (ht : TB M') (hc : cnt0 M') : Inv M' := by
  obtain ⟨s1, s2, s3, s4⟩ := s
  have e : ∀ c, c < 130 → M'.1 c = M.1 c := s1
  have f : ∀ c, c < 130 → M'.2 c = M.2 c := fun c hc => s4 c (by omega) (by omega)
  have g1 := s2 141 (by omega)
  have g2 := s2 142 (by omega)
  have g5 := s2 145 (by omega)
  have g6 := s2 151 (by omega)
  have k1 := s3 11 (by omega)
  have k2 := s3 12 (by omega)
  have k4 := s3 14 (by omega)
  have k9 := s3 19 (by omega)
  have l6 := s4 146 (by omega) (by omega)
  have l7 := s4 147 (by omega) (by omega)
  have l8 := s4 150 (by omega) (by omega)
  obtain ⟨⟨⟨nv, np, nc, tx, dy, ch, lg, nr, op, a1⟩, a2⟩, a3, a4, a5, -, -⟩ := h
  refine ⟨⟨⟨nv, np, nc, tx, dy, ch, lg, nr, op, ?_⟩, ?_⟩, ?_, ?_, ?_, ht, hc⟩
  · obtain ⟨r1, r2, r3, r4, r5, r6, r7, r8, r9⟩ := a1
    refine ⟨r1, ?_, ?_, ?_, ?_, ?_, ?_, ?_, ?_⟩
    · rw [e 0 (by omega)]; exact r2
    · rw [g1]; exact r3
    · rw [e 0 (by omega), g1]; exact r4
    · unfold RlV; rw [e 1 (by omega), e 2 (by omega), e 3 (by omega), g1]; exact r5
    · unfold RlC; rw [e 4 (by omega), e 5 (by omega), e 6 (by omega), g1]; exact r6
    · rw [e 8 (by omega), g1]; exact r7
    · rw [f 9 (by omega), l6]; exact r8
    · rw [g1, l6]; exact r9
  · rw [e 7 (by omega), e 0 (by omega), g1]; exact a2
  · unfold TapR
    rw [e 121 (by omega), e 122 (by omega), k4, k9, g6]
    exact a3
  · unfold ImgR
    rw [e 120 (by omega), k1, f 19 (by omega), g2, l7, e 17 (by omega), e 10 (by omega)]
    refine ⟨a4.1, ?_⟩
    rcases a4.2 with q | ⟨q1, ⟨nv, np, nc, tx, dy, ch, lg, nr, op, r1, r2, r3, r4, r5, r6, r7, r8, r9⟩, q3⟩
    · exact Or.inl q
    · refine Or.inr ⟨q1, ⟨nv, np, nc, tx, dy, ch, lg, nr, op, r1, ?_, r3, ?_, ?_, ?_, ?_, r8, r9⟩, q3⟩
      · show RlF (M'.1 (10 + 0)) _ _ _ _ _ _ _ _ _
        rw [e 10 (by omega)]; exact r2
      · show RlS (M'.1 (10 + 0)) _
        rw [e 10 (by omega)]; exact r4
      · unfold RlV; show ∀ v, v < nv → (∃ c, c < 216 ∧ M'.1 11 v = _ ∧ _) ∧ (∃ c, c < 128 ∧ M'.1 12 v = _ ∧ _) ∧ (∃ c, c ≤ 999 ∧ M'.1 13 v = _ ∧ _) ∧ _
        rw [e 11 (by omega), e 12 (by omega), e 13 (by omega)]; exact r5
      · unfold RlC; show ∀ c, c < nc → M'.1 14 c = _ ∧ M'.1 15 c = _ ∧ M'.1 16 c = _ ∧ _ = bI (¬ M'.1 16 c = -1) ∧ (M'.1 16 c = -1 ∨ ∃ d, d ≤ 999 ∧ M'.1 16 c = nI d)
        rw [e 14 (by omega), e 15 (by omega), e 16 (by omega)]; exact r6
      · show RlL (M'.1 18) _ _ _
        rw [e 18 (by omega)]; exact r7
  · obtain ⟨sz, ns, q1, q2, q3, q4, q5, q6⟩ := a5
    refine ⟨sz, ns, q1, q2, ?_, ?_, ?_, ?_⟩
    · rw [e 123 (by omega)]; exact q3
    · rw [e 123 (by omega)]; exact q4
    · rw [k2]; exact q5
    · intro j hj
      have hb : (ns + 9 - j) % 10 < 10 := Nat.mod_lt _ (by omega)
      have hS := q6 j hj
      generalize (ns + 9 - j) % 10 = x at hb hS ⊢
      obtain ⟨⟨nv, np, nc, tx, dy, ch, lg, nr, op, r1, r2, r3, r4, r5, r6, r7, r8, r9⟩, b2, b3, b4⟩ := hS
      have eb : ∀ i, i < 10 → M'.1 (20 + 10 * x + i) = M.1 (20 + 10 * x + i) := fun i hi => e _ (by omega)
      refine ⟨⟨nv, np, nc, tx, dy, ch, lg, nr, op, r1, ?_, ?_, ?_, ?_, ?_, ?_, ?_, ?_⟩, ?_, ?_, ?_⟩
      · show RlF (M'.1 (20 + 10 * x + 0)) _ _ _ _ _ _ _ _ _
        rw [eb 0 (by omega)]; exact r2
      · show RlW (fun k => M'.1 145 (562 * (sz - 1 - j) + k)) _ _ _ _ _ _ _
        rw [g5]; exact r3
      · show RlS (M'.1 (20 + 10 * x + 0)) (fun k => M'.1 145 (562 * (sz - 1 - j) + k))
        rw [eb 0 (by omega), g5]; exact r4
      · show ∀ v, v < nv → (∃ c, c < 216 ∧ M'.1 (20 + 10 * x + 1) v = _ ∧ M'.1 145 _ = _) ∧ (∃ c, c < 128 ∧ M'.1 (20 + 10 * x + 2) v = _ ∧ M'.1 145 _ = _) ∧ (∃ c, c ≤ 999 ∧ M'.1 (20 + 10 * x + 3) v = _ ∧ M'.1 145 _ = _) ∧ M'.1 145 _ = _
        rw [eb 1 (by omega), eb 2 (by omega), eb 3 (by omega), g5]; exact r5
      · show ∀ c, c < nc → M'.1 (20 + 10 * x + 4) c = M'.1 145 _ ∧ M'.1 (20 + 10 * x + 5) c = M'.1 145 _ ∧ M'.1 (20 + 10 * x + 6) c = M'.1 145 _ ∧ M'.1 145 _ = bI (¬ M'.1 (20 + 10 * x + 6) c = -1) ∧ (M'.1 (20 + 10 * x + 6) c = -1 ∨ ∃ d, d ≤ 999 ∧ M'.1 (20 + 10 * x + 6) c = nI d)
        rw [eb 4 (by omega), eb 5 (by omega), eb 6 (by omega), g5]; exact r6
      · show RlL (M'.1 (20 + 10 * x + 8)) (fun k => M'.1 145 (562 * (sz - 1 - j) + k)) _ _
        rw [eb 8 (by omega), g5]; exact r7
      · show RlK (M'.2 (20 + 10 * x + 9)) (fun k => M'.2 150 (144 * (sz - 1 - j) + k)) _ _
        rw [f _ (by omega), l8]; exact r8
      · show RlT (fun k => M'.2 150 (144 * (sz - 1 - j) + k)) (fun k => M'.1 145 (562 * (sz - 1 - j) + k)) _ _
        rw [l8, g5]; exact r9
      · rw [eb 7 (by omega), e 7 (by omega)]; exact b2
      · have := eb 0 (by omega)
        rw [Nat.add_zero] at this
        rw [this, e 0 (by omega)]; exact b3
      · rw [g5, g1]; exact b4
theorem Inv.scC {M M' : sk_M} (h : Inv M) (s : scC M M') : Inv M' :=
  h.same ⟨fun c hc => s.1 c (by omega), fun c hc => s.1 c (by omega), fun k _ => congrFun (s.1 140 (by omega)) k, fun c _ _ => congrFun s.2.1 c⟩ (s.2.2 h.2.2.2.2.1) (fun i hi => by rw [s.1 155 (by omega)]; exact h.2.2.2.2.2 i hi)
theorem TB_cg {M M' : sk_M} (h : TB M) (h1 : M'.1 130 = M.1 130) (h2 : M'.1 134 = M.1 134) : TB M' := by
  obtain ⟨fl, n, a, b, c⟩ := h
  exact ⟨fl, n, by rw [h1]; exact a, b, by rw [h2]; exact c⟩
theorem Inv.scR {M M' : sk_M} (h : Inv M) (s : scR M M') : Inv M' :=
  h.same ⟨fun c hc => s.1 c (by omega), fun c hc => s.1 c (by omega), fun k _ => s.2.1 k (by omega), fun c h1 _ => s.2.2.1 c h1⟩ (TB_cg h.2.2.2.2.1 (s.1 130 (by omega)) (s.1 134 (by omega))) (s.2.2.2 h.2.2.2.2.2)
/-- the law's own cell -/
theorem Inv.out {M : sk_M} {v : Int64} (h : Inv M) : Inv (sk_sl M 158 0 v) :=
  h.same ⟨fun _ _ => rfl, fun _ _ => rfl, fun _ _ => rfl, fun c _ h1 => sl_c h1⟩ (TB_cg h.2.2.2.2.1 rfl rfl) h.2.2.2.2.2
/-- what a call of both sides owes: int answers, exceptions by their places -/
def StI (I : sk_M → Prop) (w7 : (Int32 → sk_M → Prop) → (String → sk_M → Prop) → Prop) (w8 : sk_M → (Int32 → sk_M → Prop) → Prop) (es : List String) : Prop :=
  w7 (fun r M1 => w8 (sk_sl M1 158 0 r.toInt64) (fun b M2 => M2.1 140 0 = 0 ∧ M2.2 158 0 = b.toInt64 ∧ I M2)) (fun e M1 => ∃ i, es[i]? = some e ∧ w8 M1 (fun _ M2 => M2.1 140 0 = nI (i + 1) ∧ I M2))
/-- a call that never throws, its answers compared as ints -/
def StN (I : sk_M → Prop) (w7 : (Int32 → sk_M → Prop) → Prop) (w8 : sk_M → (Int32 → sk_M → Prop) → Prop) : Prop :=
  w7 (fun r M1 => w8 M1 (fun b M2 => r = b ∧ I M2))
