/-! copies of a state, what is remembered, the image -/
theorem Rel.cg {F F' : Nat → Nat → Int32} {KF KF' : Nat → Int64} {W W' : Nat → Int32} {K K' : Nat → Int64} {nv np nc tx dy ch lg nr op : Nat} (h : Rel F KF W K nv np nc tx dy ch lg nr op)
    (f0 : ∀ k, k < 12 → F' 0 k = F 0 k) (f1 : ∀ i, i < 6 → F' 1 i = F 1 i) (f2 : ∀ i, i < 6 → F' 2 i = F 2 i) (f3 : ∀ i, i < 6 → F' 3 i = F 3 i) (f4 : ∀ i, i < 12 → F' 4 i = F 4 i) (f5 : ∀ i, i < 12 → F' 5 i = F 5 i) (f6 : ∀ i, i < 12 → F' 6 i = F 6 i) (f8 : ∀ i, i < 480 → F' 8 i = F 8 i) (fk : ∀ i, i < 144 → KF' i = KF i) (fw : ∀ k, k < 562 → W' k = W k) (fK : ∀ i, i < 144 → K' i = K i) : Rel F' KF' W' K' nv np nc tx dy ch lg nr op := by
  obtain ⟨hN, hF, hW, hS, hV, hC, hL, hK, hT⟩ := h
  obtain ⟨n1, n2, n3, n4, n5, n6, n7, n8, n9⟩ := id hN
  refine ⟨hN, ?_, ?_, ?_, ?_, ?_, ?_, ?_, ?_⟩
  · unfold RlF
    rw [f0 0 (by omega), f0 1 (by omega), f0 2 (by omega), f0 3 (by omega), f0 5 (by omega), f0 6 (by omega), f0 10 (by omega), f0 11 (by omega), f0 9 (by omega)]
    exact hF
  · unfold RlW
    rw [fw 0 (by omega), fw 1 (by omega), fw 2 (by omega), fw 3 (by omega), fw 5 (by omega), fw 6 (by omega), fw 8 (by omega)]
    exact hW
  · unfold RlS
    rw [f0 7 (by omega), f0 8 (by omega), fw 9 (by omega), fw 7 (by omega)]
    exact hS
  · intro v hv
    rw [f1 v (by omega), f2 v (by omega), f3 v (by omega), fw _ (by omega), fw _ (by omega), fw _ (by omega), fw _ (by omega)]
    exact hV v hv
  · intro c hc
    rw [f4 c (by omega), f5 c (by omega), f6 c (by omega), fw _ (by omega), fw _ (by omega), fw _ (by omega), fw _ (by omega)]
    exact hC c hc
  · intro a ha k hk
    have := Nat.mod_lt (nr + 79 - a) (show 0 < 80 by decide)
    rw [f8 _ (by omega), fw _ (by omega)]
    exact hL a ha k hk
  · refine ⟨fun p hp v hv k hk => ?_, fun p hp v hv hq k hk => ?_⟩
    · rw [fk _ (by omega), fK _ (by omega)]
      exact hK.1 p hp v hv k hk
    · rw [fk _ (by omega)]
      exact hK.2 p hp v hv hq k hk
  · intro p hp v hv
    obtain ⟨c, hc, -, e⟩ := (hV v hv).1
    have h1 := hT p hp v hv
    rw [e, nI_clamp (by omega)] at h1
    rw [fK _ (by omega), fw _ (by omega), e, nI_clamp (by omega)]
    refine ⟨h1.1, ?_⟩
    unfold kbit
    rw [fK _ (by omega)]
    exact h1.2
theorem cpF_at {M : sk_M} {b o k : Nat} (hob : o ≠ b) : ∀ n, (cpF M b o n).1 b k = if k < n then M.1 o k else M.1 b k
  | 0 => by rw [if_neg (by omega)]; rfl
  | n + 1 => by
    rw [cpF, rd_si, cpF_ne M b o o hob n, cpF_at hob n]
    by_cases h : k = n
    · subst h
      rw [if_pos ⟨rfl, rfl⟩, if_pos (by omega)]
    · rw [if_neg (by omega)]
      by_cases h2 : k < n
      · rw [if_pos h2, if_pos (by omega)]
      · rw [if_neg h2, if_neg (by omega)]
theorem cpF_2 (M : sk_M) (b o : Nat) : ∀ n, (cpF M b o n).2 = M.2
  | 0 => rfl
  | n + 1 => by rw [cpF]; exact cpF_2 M b o n
theorem cpA_2 (M : sk_M) (b o : Nat) : ∀ ls, (cpA M b o ls).2 = M.2 := by
  intro ls
  induction ls generalizing M with
  | nil => rfl
  | cons q ls ih =>
    show (cpA (sk_ri M (b + q.1) (va_cpy (M.1 (o + q.1)) (M.1 (b + q.1)) 0 0 q.2)) b o ls).2 = M.2
    rw [ih]
    rfl
theorem cpA_ne (b o c : Nat) : ∀ (ls : List (Nat × Nat)) (M : sk_M), (∀ q ∈ ls, c ≠ b + q.1) → (cpA M b o ls).1 c = M.1 c := by
  intro ls
  induction ls with
  | nil => intro M _; rfl
  | cons q ls ih =>
    intro M h
    show (cpA (sk_ri M (b + q.1) (va_cpy (M.1 (o + q.1)) (M.1 (b + q.1)) 0 0 q.2)) b o ls).1 c = M.1 c
    rw [ih _ (fun x hx => h x (List.mem_cons_of_mem _ hx)), ri_c (h q (List.mem_cons_self ..))]
theorem cpA_at (b o : Nat) : ∀ (ls : List (Nat × Nat)) (M : sk_M), (∀ q ∈ ls, ∀ p ∈ ls, o + q.1 ≠ b + p.1) → (ls.map Prod.fst).Nodup → ∀ q ∈ ls, ∀ i, i < q.2 → (cpA M b o ls).1 (b + q.1) i = M.1 (o + q.1) i := by
  intro ls
  induction ls with
  | nil => intro M _ _ q hq; cases hq
  | cons x ls ih =>
    intro M h hn q hq i hi
    show (cpA (sk_ri M (b + x.1) (va_cpy (M.1 (o + x.1)) (M.1 (b + x.1)) 0 0 x.2)) b o ls).1 (b + q.1) i = M.1 (o + q.1) i
    rw [List.map_cons, List.nodup_cons] at hn
    rcases List.mem_cons.mp hq with rfl | hq2
    · rw [cpA_ne b o _ ls _ (fun y hy e => hn.1 (List.mem_map.mpr ⟨y, hy, by omega⟩)), ri_s]
      exact cpy_in hi
    · rw [ih _ (fun a ha p hp => h a (List.mem_cons_of_mem _ ha) p (List.mem_cons_of_mem _ hp)) hn.2 q hq2 i hi, ri_c (h q hq x (List.mem_cons_self ..))]
def cpL : List (Nat × Nat) := [(1, 6), (2, 6), (3, 6), (4, 12), (5, 12), (6, 12), (7, 108), (8, 480)]
theorem cpL_lt : ∀ q ∈ cpL, 1 ≤ q.1 ∧ q.1 ≤ 8 := by decide
theorem cpS_1 {M : sk_M} {b o : Nat} : (cpS M b o).1 = (cpA (cpF M b o 12) b o cpL).1 := rfl
theorem cpS_f {M : sk_M} {b o k : Nat} (hob : o ≠ b) (hk : k < 12) : (cpS M b o).1 b k = M.1 o k := by
  rw [cpS_1, cpA_ne b o b cpL _ (fun q hq e => by have := cpL_lt q hq; omega), cpF_at hob, if_pos hk]
theorem cpS_a {M : sk_M} {b o : Nat} (hd : o + 10 ≤ b ∨ b + 10 ≤ o) {q : Nat × Nat} (hq : q ∈ cpL) {i : Nat} (hi : i < q.2) : (cpS M b o).1 (b + q.1) i = M.1 (o + q.1) i := by
  have h1 := cpL_lt q hq
  rw [cpS_1, cpA_at b o cpL _ (fun x hx p hp => by have := cpL_lt x hx; have := cpL_lt p hp; omega) (by decide) q hq i hi, cpF_ne _ _ _ _ (by omega)]
theorem cpS_k {M : sk_M} {b o i : Nat} (hi : i < 144) : (cpS M b o).2 (b + 9) i = M.2 (o + 9) i := by
  show (sk_rl _ (b + 9) _).2 (b + 9) i = _
  rw [rl_s]
  show va_cpy ((cpA (cpF M b o 12) b o cpL).2 (o + 9)) _ 0 0 144 i = _
  rw [cpA_2, cpF_2]
  exact cpy_in hi
theorem cpS_2 {M : sk_M} {b o c : Nat} (hc : c ≠ b + 9) : (cpS M b o).2 c = M.2 c := by
  show (sk_rl _ (b + 9) _).2 c = _
  rw [rl_c hc]
  show (cpA (cpF M b o 12) b o cpL).2 c = _
  rw [cpA_2, cpF_2]
theorem cpS_o {M : sk_M} {b o c : Nat} (h : c < b ∨ b + 9 ≤ c) : (cpS M b o).1 c = M.1 c := cpS_ne h
/-- the copy stands for what its pattern stood for -/
theorem cpS_rel {M : sk_M} {b o : Nat} (hd : o + 10 ≤ b ∨ b + 10 ≤ o) {W : Nat → Int32} {K : Nat → Int64} {nv np nc tx dy ch lg nr op : Nat} (h : Rel (fun j => M.1 (o + j)) (M.2 (o + 9)) W K nv np nc tx dy ch lg nr op) {W' : Nat → Int32} {K' : Nat → Int64} (hW : ∀ k, k < 562 → W' k = W k) (hK : ∀ i, i < 144 → K' i = K i) : Rel (fun j => (cpS M b o).1 (b + j)) ((cpS M b o).2 (b + 9)) W' K' nv np nc tx dy ch lg nr op := by
  refine h.cg (fun k hk => ?_) (fun i hi => ?_) (fun i hi => ?_) (fun i hi => ?_) (fun i hi => ?_) (fun i hi => ?_) (fun i hi => ?_) (fun i hi => ?_) (fun i hi => cpS_k hi) hW hK
  · exact cpS_f (by omega) hk
  · exact cpS_a hd (q := (1, 6)) (by decide) hi
  · exact cpS_a hd (q := (2, 6)) (by decide) hi
  · exact cpS_a hd (q := (3, 6)) (by decide) hi
  · exact cpS_a hd (q := (4, 12)) (by decide) hi
  · exact cpS_a hd (q := (5, 12)) (by decide) hi
  · exact cpS_a hd (q := (6, 12)) (by decide) hi
  · exact cpS_a hd (q := (8, 480)) (by decide) hi
/-- the reference's copy loops -/
theorem s8_copies {M : sk_M} {Q : sk_M → Prop} {c0 c1 : Nat} (hc : c0 ≠ c1) (h : Q (sk_rl M c1 (cpn (M.2 c0) (M.2 c1) 0 0 144))) : w_X8_copies c0 c1 M Q := by
  unfold w_X8_copies
  have e0 : ((0 : Int32), M) = (nI 0, sk_rl M c1 (cpn (M.2 c0) (M.2 c1) 0 0 0)) := by rw [cpn_0, rl_self rfl]; rfl
  rw [e0]
  refine lp_to (fun i => (nI i, sk_rl M c1 (cpn (M.2 c0) (M.2 c1) 0 0 i))) 144 (by decide) (fun i hi c hk => ?_) (fun c => ?_)
  · unfold w_X8_copies_L2
    refine i_t (nI_ge hi (by decide)) ?_
    simp (disch := omega) only [sk_lit, nI_add, pk_mul, pk_divN, rmN, pk_sub, nI_clamp, nI_leI, nI_ltI, nI_eq, vpT, mnN, mxN, sLet, rl_c hc, sl_rl]
    refine ⟨trivial, trivial, ?_⟩
    have := cpn_sL (f := M.2 c0) (g := M.2 c1) (s := 0) (d := 0) (n := i)
    rw [Nat.zero_add] at this
    rw [this]
    exact hk
  · unfold w_X8_copies_L2
    exact i_f (nn (n := 144) (by decide)) h
