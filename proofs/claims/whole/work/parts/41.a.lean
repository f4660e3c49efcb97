/-! what a person knows of a vault: kept and struck by a turning -/
theorem kb_row {K K' : Nat → Int64} {a : Nat} (h : ∀ c, c < 256 → (kb K a c = true ↔ kb K' a c = true)) : ∀ k, k < 4 → K (a + k) = K' (a + k) := fun k hk => lb_ext (fun i hi => by
  have := h (64 * k + i) (by omega)
  rw [kb_word hi, kb_word hi] at this
  exact Bool.eq_iff_iff.mpr this)
theorem z4_at {M : sk_M} {c a i : Nat} : ∀ n, (z4 M c a n).2 c i = if a ≤ i ∧ i < a + n then 0 else M.2 c i
  | 0 => by rw [if_neg (by omega)]; rfl
  | n + 1 => by
    rw [z4, rd_sl, z4_at n]
    by_cases h : i = a + n
    · rw [if_pos ⟨rfl, h⟩, if_pos (by omega)]
    · rw [if_neg (fun z => h z.2)]
      by_cases h2 : a ≤ i ∧ i < a + n
      · rw [if_pos h2, if_pos (by omega)]
      · rw [if_neg h2, if_neg (by omega)]
theorem z4_ne {M : sk_M} {c a c' : Nat} (h : c' ≠ c) : ∀ n, (z4 M c a n).2 c' = M.2 c'
  | 0 => rfl
  | n + 1 => by rw [z4, sl_c h, z4_ne h n]
theorem kb_set {M : sk_M} {c a x y : Nat} : kb ((sk_sl M c (a + y / 64) (M.2 c (a + y / 64) ||| ((1 : Int64) <<< ((nI (y % 64)).toInt64 &&& 63)))).2 c) a x = (kb (M.2 c) a x || decide (x = y)) := by
  unfold kb
  rw [rd_sl]
  by_cases g : x / 64 = y / 64
  · rw [if_pos ⟨rfl, by rw [g]⟩, lb_or, lb_one (Nat.mod_lt _ (by decide)), g]
    congr 1
    exact decide_eq_decide.mpr ⟨fun e => by omega, fun e => by rw [e]⟩
  · rw [if_neg (fun e => g (by omega)), decide_eq_false (fun e => g (by rw [e])), Bool.or_false]
theorem kb_clr {M : sk_M} {c a x y : Nat} : kb ((sk_sl M c (a + y / 64) (M.2 c (a + y / 64) &&& (((1 : Int64) <<< ((nI (y % 64)).toInt64 &&& 63)) ^^^ (-1 : Int64)))).2 c) a x = (kb (M.2 c) a x && !decide (x = y)) := by
  unfold kb
  rw [rd_sl]
  by_cases g : x / 64 = y / 64
  · rw [if_pos ⟨rfl, by rw [g]⟩, lb_and, lb_xor, lb_one (Nat.mod_lt _ (by decide)), lb_m1 _ (Nat.mod_lt _ (by decide)), g, Bool.xor_true]
    congr 2
    exact decide_eq_decide.mpr ⟨fun e => by omega, fun e => by rw [e]⟩
  · rw [if_neg (fun e => g (by omega)), decide_eq_false (fun e => g (by rw [e])), Bool.not_false, Bool.and_true]
theorem kb_orB {M : sk_M} {c a x : Nat} {f : Nat → Nat} : ∀ n, (kb ((orB M c a f n).2 c) a x = true) ↔ (kb (M.2 c) a x = true ∨ ∃ i, i < n ∧ f i = x)
  | 0 => ⟨Or.inl, fun h => h.resolve_right (fun ⟨_, h, _⟩ => absurd h (by omega))⟩
  | n + 1 => by
    rw [orB, kb_set, Bool.or_eq_true, kb_orB n, decide_eq_true_iff]
    constructor
    · rintro ((h | ⟨i, hi, e⟩) | h)
      · exact Or.inl h
      · exact Or.inr ⟨i, by omega, e⟩
      · exact Or.inr ⟨n, by omega, h.symm⟩
    · rintro (h | ⟨i, hi, e⟩)
      · exact Or.inl (Or.inl h)
      · by_cases z : i = n
        · exact Or.inr (by rw [← e, z])
        · exact Or.inl (Or.inr ⟨i, by omega, e⟩)
theorem orB_out {M : sk_M} {c a j : Nat} {f : Nat → Nat} (hj : j < a ∨ a + 4 ≤ j) : ∀ n, (∀ i, i < n → f i < 256) → (orB M c a f n).2 c j = M.2 c j
  | 0, _ => rfl
  | n + 1, hf => by
    have := hf n (by omega)
    rw [orB, rd_sl, if_neg (fun z => by omega)]
    exact orB_out hj n (fun i hi => hf i (by omega))
theorem orB_ne {M : sk_M} {c a c' : Nat} {f : Nat → Nat} (h : c' ≠ c) : ∀ n, (orB M c a f n).2 c' = M.2 c'
  | 0 => rfl
  | n + 1 => by rw [orB, sl_c h, orB_ne h n]
theorem kb_z4 {M : sk_M} {c a x : Nat} (hx : x < 256) : kb ((z4 M c a 4).2 c) a x = false := by
  unfold kb
  rw [z4_at 4, if_pos (by omega), lb_0]
theorem mem_gd {l : List Nat} {x : Nat} : x ∈ l ↔ ∃ i, i < l.length ∧ l.getD i 0 = x := by
  constructor
  · intro h
    obtain ⟨i, hi, e⟩ := List.getElem_of_mem h
    exact ⟨i, hi, by rw [List.getD_eq_getElem?_getD, List.getElem?_eq_getElem hi]; exact e⟩
  · rintro ⟨i, hi, rfl⟩
    exact gd_mem hi
theorem c5_know {M : sk_M} {Q : sk_M → Prop} {p v : Nat} {l : List Nat} (hp : p < 6) (hv : v < 6) (hV : SV M l)
    (h : ∀ M', M'.1 = M.1 → (∀ c, c ≠ 9 → M'.2 c = M.2 c) → (∀ i, i < 4 * (6 * p + v) ∨ 4 * (6 * p + v) + 4 ≤ i → M'.2 9 i = M.2 9 i) → (∀ x, x < 256 → (kb (M'.2 9) (4 * (6 * p + v)) x = true ↔ x ∈ l)) → Q M') : w_X5_know 0 (nI p) (nI v) M Q := by
  obtain ⟨v1, v2, v3, v4⟩ := hV
  unfold w_X5_know
  have el : (M.1 130 8).toNatClampNeg = l.length := by rw [v1]; exact nI_clamp (by omega)
  have ei : ∀ i, i < l.length → (M.1 131 i).toNatClampNeg = l.getD i 0 := fun i hi => by
    rw [(v3 i hi).1]
    have := (v3 i hi).2
    exact nI_clamp (by omega)
  rw [nI_clamp (by omega), nI_clamp (by omega), el]
  refine ⟨vp_in_nI hp (by decide), vp_in_nI hv (by decide), by rw [v1]; exact vp_in_nI (by omega) (by decide), fun i hi => by rw [(v3 i hi).1]; exact vp_in_nI (v3 i hi).2 (by decide), ?_⟩
  refine h _ ?_ ?_ ?_ ?_
  · rw [orB_1, z4_1]
  · intro c hc
    rw [orB_ne hc, z4_ne hc]
  · intro i hi
    show (orB _ 9 _ _ _).2 9 i = _
    rw [orB_out hi _ (fun j hj => by rw [ei j hj]; have := (v3 j hj).2; omega), z4_at 4, if_neg (by omega)]
  · intro x hx
    show kb ((orB _ 9 _ _ _).2 9) _ x = true ↔ _
    rw [kb_orB, kb_z4 hx, mem_gd]
    constructor
    · rintro (z | ⟨i, hi, e⟩)
      · exact absurd z (by decide)
      · exact ⟨i, hi, by rw [← ei i hi]; exact e⟩
    · rintro ⟨i, hi, e⟩
      exact Or.inr ⟨i, hi, by rw [ei i hi]; exact e⟩
theorem s8_hears {M : sk_M} {Q : Int32 → sk_M → Prop} {cl : Nat → Int32} {p v t u : Nat} (hp : p < 6) (hv : v < 6) (ht : t < 216) (hu : u < 216) (eu : M.1 141 (10 + 4 * v) = nI u) (hcl : ∀ i, i < 108 → M.1 154 i = cl i)
    (h : ∀ M', M'.1 = M.1 → (∀ c, c ≠ 146 → M'.2 c = M.2 c) → (∀ i, i < 4 * (6 * p + v) ∨ 4 * (6 * p + v) + 4 ≤ i → M'.2 146 i = M.2 146 i) → (∀ x, x < 256 → (kb (M'.2 146) (4 * (6 * p + v)) x = true ↔ kb (M.2 146) (4 * (6 * p + v)) x = true ∧ (x < 216 → stP cl t u x))) → Q (bI (t = u)) M') : w_X8_hears (nI p) (nI v) (nI t) M Q := by
  unfold w_X8_hears
  refine s8_of (k := 0) hv (by decide) (sLet_i (s8_of (k := 0) hv (by decide) ?_))
  rw [show M.1 141 (10 + 4 * v + 0) = nI u from eu]
  have ea : (if nI t = nI u then (1 : Int32) else (0 : Int32)) = bI (t = u) := by
    by_cases z : t = u
    · rw [if_pos (by rw [z]), bI_t z]
    · rw [if_neg (fun y => z ((nI_eq (by omega) (by omega)).mp y)), bI_f z]
  rw [ea]
  refine s8_soundOf ht hu ?_
  rw [sndC_cg hcl ht hu]
  refine lp_inv (fun i s => s.1 = nI i ∧ s.2.1 = M.1 ∧ (∀ c, c ≠ 146 → s.2.2 c = M.2 c) ∧ (∀ i, i < 4 * (6 * p + v) ∨ 4 * (6 * p + v) + 4 ≤ i → s.2.2 146 i = M.2 146 i) ∧ ∀ x, x < 256 → (kb (s.2.2 146) (4 * (6 * p + v)) x = true ↔ kb (M.2 146) (4 * (6 * p + v)) x = true ∧ (x < i → stP cl t u x))) 216 (by decide) ⟨rfl, rfl, fun _ _ => rfl, fun _ _ => rfl, fun x _ => ⟨fun z => ⟨z, fun y => absurd y (by omega)⟩, fun z => z.1⟩⟩ (fun i hi s c hI hc => ?_) (fun s c hI => ?_)
  · obtain ⟨s1, sM⟩ := s
    obtain ⟨rfl, i1, i2, i3, i4⟩ := hI
    unfold w_X8_hears_L33
    refine i_t (nI_ge hi (by decide)) (sLet_i ?_)
    have stay : stP cl t u i → c (nI i + (1 : Int32), sM) := fun hs => by
      rw [nI_1]
      refine hc _ ⟨rfl, i1, i2, i3, fun x hx => ?_⟩
      rw [i4 x hx]
      constructor
      · rintro ⟨a, b⟩
        refine ⟨a, fun y => ?_⟩
        rcases Nat.lt_succ_iff_lt_or_eq.mp y with w | w
        · exact b w
        · rw [w]; exact hs
      · rintro ⟨a, b⟩
        exact ⟨a, fun y => b (by omega)⟩
    have go : ¬ stP cl t u i → w_X8_isNot (nI p) (nI v) (nI i) sM (fun M78 => c (nI i + (1 : Int32), M78)) := fun hs => by
      refine s8_isNot hp hv hi ?_
      rw [nI_1]
      refine hc _ ⟨rfl, i1, fun c hc => by rw [sl_c hc]; exact i2 c hc, fun j hj => by rw [rd_sl, if_neg (fun z => by omega)]; exact i3 j hj, fun x hx => ?_⟩
      rw [kb_clr, Bool.and_eq_true, i4 x hx, Bool.not_eq_true', decide_eq_false_iff_not]
      constructor
      · rintro ⟨⟨a, b⟩, d⟩
        exact ⟨a, fun y => b (by omega)⟩
      · rintro ⟨a, b⟩
        exact ⟨⟨a, fun y => b (by omega)⟩, fun e => hs (by rw [← e]; exact b (by omega))⟩
    by_cases z : t = u
    · rw [bI_t z]
      refine i_t (by decide) (i_b (fun q => go ?_) (fun q => stay ?_))
      · rintro (⟨_, e⟩ | ⟨e, _⟩)
        · exact q (by show nI i = nI t; rw [e])
        · exact e z
      · exact Or.inl ⟨z, (nI_eq (by omega) (by omega)).mp (Classical.not_not.mp q)⟩
    · rw [bI_f z]
      refine i_f (by decide) (i_b (fun q => ?_) (fun q => go ?_))
      · have it : i ≠ t := fun e => q (by show nI i = nI t; rw [e])
        refine s8_soundOf ht hi ?_
        rw [sndC_cg (f := sM.1 154) (g := cl) (fun k hk => by rw [i1]; exact hcl k hk) ht hi]
        refine i_b (fun q2 => go ?_) (fun q2 => stay ?_)
        · rintro (⟨e, _⟩ | ⟨_, _, e⟩)
          · exact z e
          · unfold slt at e
            have w := congrArg (fun x => x - 3564) e
            rw [Int32.add_sub_cancel, Int32.add_sub_cancel] at w
            exact q2 w
        · refine Or.inr ⟨z, it, ?_⟩
          unfold slt
          rw [Classical.not_not.mp q2]
      · rintro (⟨e, _⟩ | ⟨_, e, _⟩)
        · exact z e
        · exact e ((nI_eq (by omega) (by omega)).mp (Classical.not_not.mp q))
  · obtain ⟨s1, sM⟩ := s
    obtain ⟨rfl, i1, i2, i3, i4⟩ := hI
    unfold w_X8_hears_L33
    refine i_f (nn (n := 216) (by decide)) ⟨bI_01 _, ?_⟩
    exact h sM i1 i2 i3 i4
