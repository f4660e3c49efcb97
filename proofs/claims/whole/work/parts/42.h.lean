/-! span -/
theorem bitsP_N {P : Nat → Prop} : ∀ n, n ≤ 31 → ∃ m, m < 2 ^ n ∧ bitsP P n = nI m
  | 0, _ => ⟨0, by decide, rfl⟩
  | n + 1, h => by
    obtain ⟨m, hm, e⟩ := bitsP_N (P := P) n (by omega)
    have h2 : m < 2 ^ (n + 1) := by rw [Nat.pow_succ]; omega
    by_cases q : P n
    · exact ⟨m ||| 2 ^ n, set_lt h2 (by omega), by rw [← bitsP_t q, e]; exact set_N (by omega)⟩
    · exact ⟨m, h2, by rw [← bitsP_f q, e]⟩
theorem bc_pos {P : Nat → Prop} {n : Nat} (hn : n ≤ 6) : 0 ≤ bc32 (bitsP P n) := by
  obtain ⟨m, hm, e⟩ := bitsP_N (P := P) n (by omega)
  have h64 : 2 ^ n ≤ 2 ^ 6 := Nat.pow_le_pow_right (by decide) hn
  have := pcn_ok m (by omega)
  rw [e, this.1]
  exact nI_le (a := 0) (Nat.zero_le _) (by omega)
def spB (y : Nat → Int32) (d : Int32) : Nat → Int32
  | 0 => -1
  | i + 1 => if ¬ (0 ≤ spB y d i) then y (i + 1) else if ¬ (d = 0) then mxI (spB y d i) (y (i + 1)) else mnI (spB y d i) (y (i + 1))
theorem spB_ok {y : Nat → Int32} {d : Int32} (hy : ∀ s, 0 ≤ y s) : ∀ i, spB y d i = -1 ∨ 0 ≤ spB y d i
  | 0 => Or.inl rfl
  | i + 1 => by
    refine Or.inr ?_
    have h1 := hy (i + 1)
    unfold spB
    by_cases z : 0 ≤ spB y d i
    · rw [if_neg (fun w => w z)]
      by_cases x : d = 0
      · rw [if_neg (fun w => w x)]
        unfold mnI
        split
        · exact h1
        · exact z
      · rw [if_pos x]
        unfold mxI
        split
        · exact h1
        · exact z
    · rw [if_pos z]; exact h1
noncomputable def spY (cd : Nat → Int32) (ch : Int32) (nv n : Nat) (s : Nat) : Int32 := bc32 (bitsP (fun v => ¬ (lkN ch nv (nI s, cd, 0, 0) n).2.1 v = cd v) nv)
theorem s8_spanOne {N : sk_M} {C : Int32 → sk_M → Prop} {nv n dy s : Nat} {ch : Int32} {cd : Nat → Int32} (hn : nv ≤ 6) (h40 : n ≤ 40) (hd : dy ≤ 9999) (e0 : N.1 141 0 = nI nv) (e6 : N.1 141 6 = ch) (e5 : N.1 141 5 = nI dy) (ec : ∀ v, v < nv → N.1 141 (10 + 4 * v) = cd v) (k3 : ∀ i, i < 562 → N.1 144 i = N.1 141 i) (k4 : ∀ i, i < 144 → N.2 149 i = N.2 146 i)
    (h : C (spY cd ch nv n s) N) : lp (w_X8_span_L58 (nI n) (fun s74 : sk_M => w_X8_changedOnes s74 (fun r75 => sLet (bc32 r75) fun y81 => w_X8_bringsBack s74 (fun M84 => C y81 M84)))) sk_F ((0 : Int32), sk_si N 141 9 (nI s)) := by
  refine s8_many (M0 := sk_si N 141 9 (nI s)) (nv := nv) (n := n) (dy := dy) (ch := ch) (k := (nI s, cd, 0, 0)) (b := 0) (K := fun s74 => w_X8_changedOnes s74 (fun r75 => sLet (bc32 r75) fun y81 => w_X8_bringsBack s74 (fun M84 => C y81 M84))) (fun c s hh => by unfold w_X8_span_L58; exact hh) hn (by omega) hd (by rw [rd_si, if_neg (by omega)]; exact e0) (by rw [rd_si, if_neg (by omega)]; exact e6) ?_ (fun N1 b' g => ?_)
  · refine ⟨⟨fun _ _ => rfl, fun _ _ => rfl⟩, ⟨by rw [rd_si, if_pos ⟨rfl, rfl⟩], (Int32.add_zero _).symm, by rw [rd_si, if_neg (by omega)]; exact e5⟩, ⟨rfl, by decide⟩, fun v hv => ⟨?_, by rw [if_neg (by simp)]⟩, fun _ _ _ _ _ => rfl, fun i _ => by rw [if_neg (by simp)], fun _ _ => rfl⟩
    rw [rd_si, if_neg (by omega)]
    exact ec v hv
  · obtain ⟨⟨g1, g2⟩, ⟨g3, g4, g5⟩, ⟨g6, g7⟩, g8, g9, g10, g11⟩ := g
    have o144 : ∀ i, i < 562 → N1.1 144 i = N.1 141 i := fun i hi => by rw [g1 144 (by omega), si_c (by omega)]; exact k3 i hi
    refine s8_changedOnes hn ?_ (sLet_i (s8_bringsBack (fun N2 b1 b2 b3 b4 b5 b6 => ?_)))
    · rw [g9 0 (by omega) (by omega) (by omega) (fun v hv => by omega), rd_si, if_neg (by omega)]; exact e0
    · have eN : N2 = N := by
        refine Prod.ext (funext fun c => ?_) (funext fun c => ?_)
        · by_cases z : c = 141
          · subst z
            funext i
            by_cases y : i < 562
            · rw [b3 i y, o144 i y]
            · rw [b4 i (by omega), g9 i (by omega) (by omega) (by omega) (fun v hv => by omega), rd_si, if_neg (by omega)]
          · rw [b1 c z, g1 c z, si_c z]
        · by_cases z : c = 146
          · subst z
            funext i
            by_cases y : i < 144
            · rw [b5 i y, g2 149 (by omega)]
              exact k4 i y
            · rw [b6 i (by omega), g11 i (by omega)]
              rfl
          · rw [b2 c z, g2 c z]
            rfl
      rw [eN, bitsP_cg (P' := fun v => ¬ (lkN ch nv (nI s, cd, 0, 0) n).2.1 v = cd v) nv (fun v hv => ?_)]
      · exact h
      · rw [(g8 v hv).1, o144 _ (by omega), ec v hv]
