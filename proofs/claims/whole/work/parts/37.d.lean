/-! acts: what both sides do around them -/
theorem LawR.cg {cl cl' : Nat → Int32} {ln : Int32} {W W' : Nat → Int32} (h : LawR cl ln W) (h1 : ∀ i, i < 108 → cl' i = cl i) (h2 : W' 4 = W 4) (h3 : ∀ k, 562 ≤ k → k < 1411 → W' k = W k) : LawR cl' ln W' := by
  obtain ⟨a, b, c⟩ := h
  refine ⟨fun i hi => by rw [h1 i hi]; exact a i hi, ?_, by rw [h2, h3 562 (by omega) (by omega)]; exact c⟩
  intro w hw t ht c hc M Q g1 g2 hk
  rw [h1 _ (by omega)] at hk
  exact b w hw t ht c hc M Q (g1.trans h2) (fun k k1 k2 => (g2 k k1 k2).trans (h3 k k1 k2)) hk
/-- the class after an act: the state before is kept; only the state, the scratch and the memory have changed -/
def actC (M M1 : sk_M) (sz ns : Nat) : Prop :=
  (∀ c, 10 ≤ c → c < 130 → c ≠ 123 → M1.1 c = (cpS M (20 + 10 * ns) 0).1 c) ∧ (∀ c, 10 ≤ c → c < 130 → M1.2 c = (cpS M (20 + 10 * ns) 0).2 c) ∧ M1.1 123 1 = nI (min 10 (sz + 1)) ∧ M1.1 123 2 = nI ((ns + 1) % 10) ∧
  (∀ c, 140 ≤ c → M1.1 c = M.1 c) ∧ (∀ c, 140 ≤ c → M1.2 c = M.2 c) ∧ (∀ i, i < 108 → M1.1 7 i = M.1 7 i) ∧ M1.1 0 4 = M.1 0 4 ∧ TB M1
/-- the reference after an act -/
def actR (M1 N : sk_M) (sz : Nat) : Prop :=
  (∀ c, c < 140 → N.1 c = M1.1 c) ∧ (∀ c, c < 140 → N.2 c = M1.2 c) ∧ remR M1 N sz ∧ (∀ k, k = 11 ∨ k = 14 ∨ k = 19 → N.1 140 k = M1.1 140 k) ∧ N.1 142 = M1.1 142 ∧ N.1 151 = M1.1 151 ∧ N.2 147 = M1.2 147 ∧
  N.1 141 4 = M1.1 141 4 ∧ (∀ k, 562 ≤ k → k < 1411 → N.1 141 k = M1.1 141 k) ∧ (cnt0 M1 → cnt0 N)
theorem Inv.acts {M M1 N : sk_M} {sz ns : Nat} {x : Int64} (h : Inv M) (hsz : sz ≤ 10) (hns : ns < 10) (e1 : M.1 123 1 = nI sz) (e2 : M.1 123 2 = nI ns) (a : actC M M1 sz ns) (b : actR (sk_sl M1 158 0 x) N sz) (hR : RelX N.1 (N.2 9) (N.1 141) (N.2 146)) : Inv N := by
  obtain ⟨a1, a2, a3, a4, a5, a6, a7, a8, a9⟩ := a
  obtain ⟨b1, b2, ⟨b3, b4, b5, b6, b7⟩, b8, b9, b10, b11, b12, b13, b14⟩ := b
  have q2 : ∀ c, c ≠ 158 → (sk_sl M1 158 0 x).2 c = M1.2 c := fun c hc => sl_c hc
  refine h.act hsz hns e1 e2 (fun c h1 h2 h3 => (b1 c (by omega)).trans (a1 c h1 h2 h3)) (fun c h1 h2 => ((b2 c (by omega)).trans (q2 c (by omega))).trans (a2 c h1 h2)) ?_ ?_ ⟨b3, ?_, ?_, ?_, ?_⟩ ?_ ?_ ?_ ?_ ?_ ?_ ?_ ⟨hR, ?_⟩ ?_ ?_
  · rw [b1 123 (by omega)]; exact a3
  · rw [b1 123 (by omega)]; exact a4
  · intro i hi
    rw [b4 i hi]
    show M1.1 141 i = _
    rw [a5 141 (by omega)]
  · intro i hi
    rw [b5 i hi, q2 146 (by omega), a6 146 (by omega)]
  · intro j hj i hi
    rw [b6 j hj i hi]
    show M1.1 145 _ = _
    rw [a5 145 (by omega)]
  · intro j hj i hi
    rw [b7 j hj i hi, q2 150 (by omega), a6 150 (by omega)]
  · intro k hk
    rw [b8 k hk]
    show M1.1 140 k = _
    rw [a5 140 (by omega)]
  · rw [b9]
    show M1.1 142 = _
    rw [a5 142 (by omega)]
  · rw [b10]
    show M1.1 151 = _
    rw [a5 151 (by omega)]
  · rw [b11, q2 147 (by omega), a6 147 (by omega)]
  · intro i hi
    rw [b1 7 (by omega)]
    exact a7 i hi
  · rw [b1 0 (by omega)]
    exact a8
  · rw [b12]
    show M1.1 141 4 = _
    rw [a5 141 (by omega)]
  · have hL := h.1.2
    rw [b1 0 (by omega), show (sk_sl M1 158 0 x).1 0 4 = M.1 0 4 from a8]
    refine hL.cg (fun i hi => ?_) ?_ (fun k k1 k2 => ?_)
    · rw [b1 7 (by omega)]
      exact a7 i hi
    · rw [b12]
      show M1.1 141 4 = _
      rw [a5 141 (by omega)]
    · rw [b13 k k1 k2]
      show M1.1 141 k = _
      rw [a5 141 (by omega)]
  · exact TB_cg a9 (b1 130 (by omega)) (b1 134 (by omega))
  · refine b14 (fun i hi => ?_)
    show M1.1 155 i = 0
    rw [a5 155 (by omega)]
    exact h.2.2.2.2.2 i hi
/-- keeping, on the class's side -/
def kpM (M : sk_M) (sz ns : Nat) : sk_M := sk_si (sk_si (cpS M (20 + 10 * ns) 0) 123 2 (nI ((ns + 1) % 10))) 123 1 (nI (min 10 (sz + 1)))
theorem c3_keep {M : sk_M} {Q : sk_M → Prop} {sz ns : Nat} (hsz : sz ≤ 10) (hns : ns < 10) (e1 : M.1 123 1 = nI sz) (e2 : M.1 123 2 = nI ns) (h : Q (kpM M sz ns)) : w_X3_keep 0 M Q := by
  unfold w_X3_keep
  rw [e1, e2]
  simp (disch := omega) only [vpT, nI_clamp]
  exact ⟨trivial, trivial, h⟩
theorem kpM_lo {M : sk_M} {sz ns c : Nat} (hc : c < 10) : (kpM M sz ns).1 c = M.1 c := by
  unfold kpM
  rw [si_c (by omega), si_c (by omega), cpS_o (Or.inl (by omega))]
theorem kpM_2 {M : sk_M} {sz ns c : Nat} (hc : c < 20 ∨ 120 ≤ c) (hn : ns < 10) : (kpM M sz ns).2 c = M.2 c := by
  show (cpS M (20 + 10 * ns) 0).2 c = M.2 c
  rw [cpS_2 (by omega)]
theorem kpM_hi {M : sk_M} {sz ns c : Nat} (hc : 124 ≤ c) (hn : ns < 10) : (kpM M sz ns).1 c = M.1 c := by
  unfold kpM
  rw [si_c (by omega), si_c (by omega), cpS_o (Or.inr (by omega))]
/-- an act of the class that changes only the state's own cells and the scratch -/
theorem actC_of {M M1 : sk_M} {sz ns : Nat} (hns : ns < 10) (h1 : ∀ c, 10 ≤ c → c < 130 ∨ 140 ≤ c → M1.1 c = (kpM M sz ns).1 c) (h2 : ∀ c, c ≠ 9 → M1.2 c = (kpM M sz ns).2 c) (h3 : ∀ i, i < 108 → M1.1 7 i = M.1 7 i) (h4 : M1.1 0 4 = M.1 0 4) (h5 : TB M1) : actC M M1 sz ns := by
  refine ⟨fun c q1 q2 q3 => ?_, fun c q1 q2 => ?_, ?_, ?_, fun c q1 => ?_, fun c q1 => ?_, h3, h4, h5⟩
  · rw [h1 c q1 (Or.inl q2)]
    unfold kpM
    rw [si_c q3, si_c q3]
  · rw [h2 c (by omega)]
    rfl
  · rw [h1 123 (by omega) (by omega)]
    unfold kpM
    rw [rd_si, if_pos ⟨rfl, rfl⟩]
  · rw [h1 123 (by omega) (by omega)]
    unfold kpM
    rw [rd_si, if_neg (by omega), rd_si, if_pos ⟨rfl, rfl⟩]
  · rw [h1 c (by omega) (Or.inr q1), kpM_hi (by omega) hns]
  · rw [h2 c (by omega), kpM_2 (by omega) hns]
/-- an act of the reference behind its remembering -/
theorem actR_of {M1 N N' : sk_M} {sz : Nat} (f : remF (sk_si M1 140 0 0) N) (r : remR (sk_si M1 140 0 0) N sz) (h1 : ∀ c, c ≠ 141 → c < 153 ∨ 157 < c → N'.1 c = N.1 c) (h2 : ∀ c, c ≠ 146 → N'.2 c = N.2 c) (h3 : N'.1 141 4 = N.1 141 4) (h4 : ∀ k, 562 ≤ k → k < 1411 → N'.1 141 k = N.1 141 k) (h5 : cnt0 N → cnt0 N') : actR M1 N' sz := by
  obtain ⟨f1, f2, f3⟩ := f
  obtain ⟨r1, r2, r3, r4, r5⟩ := r
  refine ⟨fun c hc => ?_, fun c hc => ?_, ⟨?_, fun i hi => ?_, fun i hi => ?_, fun j hj i hi => ?_, fun j hj i hi => ?_⟩, fun k hk => ?_, ?_, ?_, ?_, ?_, fun k k1 k2 => ?_, fun hz => h5 (fun i hi => ?_)⟩
  · rw [h1 c (by omega) (by omega), f1 c (by omega) (by omega), si_c (by omega)]
  · rw [h2 c (by omega), f3 c (by omega)]; rfl
  · rw [h1 140 (by omega) (by omega)]; exact r1
  · rw [h1 145 (by omega) (by omega), r2 i hi, si_c (by omega)]
  · rw [h2 150 (by omega), r3 i hi]; rfl
  · rw [h1 145 (by omega) (by omega), r4 j hj i hi, si_c (by omega)]
  · rw [h2 150 (by omega), r5 j hj i hi]; rfl
  · rw [h1 140 (by omega) (by omega), f2 k (by omega), rd_si, if_neg (by omega)]
  · rw [h1 142 (by omega) (by omega), f1 142 (by omega) (by omega), si_c (by omega)]
  · rw [h1 151 (by omega) (by omega), f1 151 (by omega) (by omega), si_c (by omega)]
  · rw [h2 147 (by omega), f3 147 (by omega)]; rfl
  · rw [h3, f1 141 (by omega) (by omega), si_c (by omega)]
  · rw [h4 k k1 k2, f1 141 (by omega) (by omega), si_c (by omega)]
  · rw [f1 155 (by omega) (by omega), si_c (by omega)]
    exact hz i hi
