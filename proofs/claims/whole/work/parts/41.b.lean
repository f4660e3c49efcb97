/-! the log of turnings, on both sides -/
def tlR (d p v c x o : Int32) (k : Nat) : Int32 := if k = 0 then d else if k = 1 then p else if k = 2 then v else if k = 3 then c else if k = 4 then x else o
theorem nI_dn (n : Nat) : nI (n + 1) + (-1 : Int32) = nI n := by
  rw [← nI_1, Int32.add_assoc, show (1 : Int32) + (-1) = 0 from rfl, Int32.add_zero]
theorem s8_tells {M : sk_M} {Q : sk_M → Prop} {a1 a2 a3 a4 a5 : Int32} {lg : Nat} (hl : lg ≤ 80) (el : M.1 141 8 = nI lg)
    (h : ∀ M', (∀ c, c ≠ 141 → M'.1 c = M.1 c) → M'.2 = M.2 → M'.1 141 8 = nI (min 80 (lg + 1)) → (∀ k, k < 480 → M'.1 141 (82 + k) = if k < 6 then tlR (M.1 141 5) a1 a2 a3 a4 (if ¬ (a5 = 0) then 1 else 0) k else M.1 141 (82 + (k - 6))) → (∀ k, k < 82 ∨ 562 ≤ k → k ≠ 8 → M'.1 141 k = M.1 141 k) → Q M') : w_X8_tells a1 a2 a3 a4 a5 M Q := by
  unfold w_X8_tells
  refine lp_inv (fun i s => s.1 = nI (479 - i) ∧ (∀ c, c ≠ 141 → s.2.1 c = M.1 c) ∧ s.2.2 = M.2 ∧ ∀ k, s.2.1 141 k = if 82 + (479 - i) < k ∧ k < 562 then M.1 141 (k - 6) else M.1 141 k) 474 (by decide) ⟨rfl, fun _ _ => rfl, rfl, fun k => by rw [if_neg (by omega)]⟩ (fun i hi s c hI hc => ?_) (fun s c hI => ?_)
  · obtain ⟨s1, sM⟩ := s
    obtain ⟨i0, i1, i2, i3⟩ := hI
    obtain ⟨n, hn⟩ : ∃ n, n = 479 - i := ⟨_, rfl⟩
    have n6 : 6 ≤ n := by omega
    rw [← hn] at i0 i3
    dsimp only at i0 i1 i2 i3
    subst i0
    unfold w_X8_tells_L5
    refine i_t (nI_nlt (b := 6) n6 (by omega)) ?_
    dsimp only
    have e1 : (82 : Int32) + nI n = nI (82 + n) := nI_add 82 n
    have e2 : nI (82 + n) - (6 : Int32) = nI (76 + n) := by
      rw [show 82 + n = (76 + n) + 6 by omega, ← nI_add]
      exact Int32.add_sub_cancel _ _
    rw [e1, e2, nI_clamp (n := 76 + n) (by omega), nI_clamp (n := 82 + n) (by omega)]
    refine ⟨vp_in_nI (by omega) (by decide), vp_in_nI (by omega) (by decide), sLet_i ?_⟩
    have e3 : nI n + (-1 : Int32) = nI (479 - (i + 1)) := by
      rw [show n = (479 - (i + 1)) + 1 by omega]
      exact nI_dn _
    rw [e3]
    refine hc _ ⟨rfl, fun c hc => by rw [si_c hc]; exact i1 c hc, by rw [si_2]; exact i2, fun k => ?_⟩
    dsimp only
    rw [rd_si, i3 (76 + n), if_neg (c := 82 + n < 76 + n ∧ 76 + n < 562) (by omega)]
    by_cases z : k = 82 + n
    · rw [if_pos ⟨rfl, z⟩, if_pos (by omega), z, show 82 + n - 6 = 76 + n by omega]
    · rw [if_neg (fun y => z y.2), i3 k]
      by_cases y : 82 + n < k ∧ k < 562
      · rw [if_pos y, if_pos (by omega)]
      · rw [if_neg y, if_neg (by omega)]
  · obtain ⟨s1, sM⟩ := s
    obtain ⟨i0, i1, i2, i3⟩ := hI
    dsimp only at i0 i1 i2 i3
    subst i0
    unfold w_X8_tells_L5
    refine i_f (fun z => z (nI_lt (a := 5) (b := 6) (by decide) (by decide))) (sLet_i (sLet_i (sLet_i (sLet_i (sLet_i (sLet_i (sLet_i (sLet_i ?_))))))))
    dsimp only
    have e5 : sM.1 141 5 = M.1 141 5 := by rw [i3, if_neg (by omega)]
    have e8 : sM.1 141 8 = nI lg := by rw [i3, if_neg (by omega)]; exact el
    rw [e5]
    generalize (if ¬ (a5 = 0) then (1 : Int32) else (0 : Int32)) = o at h ⊢
    generalize hN : sk_si (sk_si (sk_si (sk_si (sk_si (sk_si sM 141 82 (M.1 141 5)) 141 83 a1) 141 84 a2) 141 85 a3) 141 86 a4) 141 87 o = N
    have c1 : ∀ c, c ≠ 141 → N.1 c = sM.1 c := fun c hc => by rw [← hN, si_c hc, si_c hc, si_c hc, si_c hc, si_c hc, si_c hc]
    have c2 : N.2 = sM.2 := by rw [← hN]; rfl
    have c3 : ∀ k, k < 82 ∨ 88 ≤ k → N.1 141 k = sM.1 141 k := fun k hk => by
      rw [← hN, rd_si, if_neg (fun z => by omega), rd_si, if_neg (fun z => by omega), rd_si, if_neg (fun z => by omega), rd_si, if_neg (fun z => by omega), rd_si, if_neg (fun z => by omega), rd_si, if_neg (fun z => by omega)]
    have c4 : ∀ k, k < 6 → N.1 141 (82 + k) = tlR (M.1 141 5) a1 a2 a3 a4 o k := fun k hk => by
      unfold tlR
      rw [← hN, rd_si]
      by_cases z5 : k = 5
      · rw [if_pos (by omega), if_neg (by omega), if_neg (by omega), if_neg (by omega), if_neg (by omega), if_neg (by omega)]
      rw [if_neg (fun z => z5 (by omega)), rd_si]
      by_cases z4 : k = 4
      · rw [if_pos (by omega), if_neg (by omega), if_neg (by omega), if_neg (by omega), if_neg (by omega), if_pos z4]
      rw [if_neg (fun z => z4 (by omega)), rd_si]
      by_cases z3 : k = 3
      · rw [if_pos (by omega), if_neg (by omega), if_neg (by omega), if_neg (by omega), if_pos z3]
      rw [if_neg (fun z => z3 (by omega)), rd_si]
      by_cases z2 : k = 2
      · rw [if_pos (by omega), if_neg (by omega), if_neg (by omega), if_pos z2]
      rw [if_neg (fun z => z2 (by omega)), rd_si]
      by_cases z1 : k = 1
      · rw [if_pos (by omega), if_neg (by omega), if_pos z1]
      rw [if_neg (fun z => z1 (by omega)), rd_si, if_pos (by omega), if_pos (by omega)]
    have e9 : mnI (80 : Int32) (N.1 141 8 + (1 : Int32)) = nI (min 80 (lg + 1)) := by
      rw [c3 8 (by omega), e8, nI_1]
      exact mnN (a := 80) (by decide) (by omega)
    rw [e9]
    refine h _ (fun c hc => by rw [si_c hc, c1 c hc]; exact i1 c hc) (by rw [si_2, c2]; exact i2) (by rw [rd_si, if_pos ⟨rfl, rfl⟩]) (fun k hk => ?_) (fun k hk hk8 => ?_)
    · rw [rd_si, if_neg (fun z => by omega)]
      by_cases z : k < 6
      · rw [if_pos z]; exact c4 k z
      · rw [if_neg z, c3 _ (by omega), i3, if_pos (by omega), show 82 + k - 6 = 82 + (k - 6) by omega]
    · rw [rd_si, if_neg (fun z => hk8 z.2)]
      rcases hk with q | q
      · rw [c3 k (by omega), i3, if_neg (by omega)]
      · rw [c3 k (by omega), i3, if_neg (by omega)]
theorem wrM_8 {M : sk_M} {nr lg i : Nat} {dy p v c h op : Int32} : (wrM M 0 nr lg dy p v c h op).1 8 i = if i / 6 = nr then tlR dy p v c h op (i % 6) else M.1 8 i := by
  unfold wrM
  rw [si_c (by omega), si_c (by omega)]
  unfold wrL tlR
  show (sk_si _ 8 _ _).1 8 i = _
  rw [rd_si]
  by_cases z5 : i = nr * 6 + 5
  · rw [if_pos ⟨rfl, z5⟩, if_pos (by omega), if_neg (by omega), if_neg (by omega), if_neg (by omega), if_neg (by omega), if_neg (by omega)]
  rw [if_neg (fun z => z5 z.2)]
  show (sk_si _ 8 _ _).1 8 i = _
  rw [rd_si]
  by_cases z4 : i = nr * 6 + 4
  · rw [if_pos ⟨rfl, z4⟩, if_pos (by omega), if_neg (by omega), if_neg (by omega), if_neg (by omega), if_neg (by omega), if_pos (by omega)]
  rw [if_neg (fun z => z4 z.2)]
  show (sk_si _ 8 _ _).1 8 i = _
  rw [rd_si]
  by_cases z3 : i = nr * 6 + 3
  · rw [if_pos ⟨rfl, z3⟩, if_pos (by omega), if_neg (by omega), if_neg (by omega), if_neg (by omega), if_pos (by omega)]
  rw [if_neg (fun z => z3 z.2)]
  show (sk_si _ 8 _ _).1 8 i = _
  rw [rd_si]
  by_cases z2 : i = nr * 6 + 2
  · rw [if_pos ⟨rfl, z2⟩, if_pos (by omega), if_neg (by omega), if_neg (by omega), if_pos (by omega)]
  rw [if_neg (fun z => z2 z.2)]
  show (sk_si _ 8 _ _).1 8 i = _
  rw [rd_si]
  by_cases z1 : i = nr * 6 + 1
  · rw [if_pos ⟨rfl, z1⟩, if_pos (by omega), if_neg (by omega), if_pos (by omega)]
  rw [if_neg (fun z => z1 z.2)]
  show (sk_si _ 8 _ _).1 8 i = _
  rw [rd_si]
  by_cases z0 : i = nr * 6
  · rw [if_pos ⟨rfl, z0⟩, if_pos (by omega), if_pos (by omega)]
  rw [if_neg (fun z => z0 z.2), if_neg (by omega)]
theorem wrM_0 {M : sk_M} {nr lg k : Nat} {dy p v c h op : Int32} : (wrM M 0 nr lg dy p v c h op).1 0 k = if k = 10 then nI (min 80 (lg + 1)) else if k = 11 then nI ((nr + 1) % 80) else M.1 0 k := by
  unfold wrM
  rw [rd_si]
  by_cases z : k = 10
  · rw [if_pos ⟨rfl, z⟩, if_pos z]
  · rw [if_neg (fun y => z y.2), if_neg z, rd_si]
    by_cases y : k = 11
    · rw [if_pos ⟨rfl, y⟩, if_pos y]
    · rw [if_neg (fun w => y w.2), if_neg y, wrL_b (by omega)]
theorem wrM_c {M : sk_M} {nr lg c' : Nat} {dy p v c h op : Int32} (h0 : c' ≠ 0) (h8 : c' ≠ 8) : (wrM M 0 nr lg dy p v c h op).1 c' = M.1 c' := by
  unfold wrM
  rw [si_c h0, si_c h0, wrL_b (by omega)]
theorem wrM_2 {M : sk_M} {nr lg : Nat} {dy p v c h op : Int32} : (wrM M 0 nr lg dy p v c h op).2 = M.2 := rfl
