/-! when -/
theorem isB_ex (f : Nat → Int32) (S : Nat → Prop) : ∃ b, isB f S b := by
  have : ∀ n, 0 < n → n ≤ 216 → ∃ b, b < n ∧ ∀ t, t < n → kyT f S b ≤ kyT f S t := by
    intro n
    induction n with
    | zero => intro h; omega
    | succ n ih =>
      intro _ h2
      by_cases z : n = 0
      · subst z
        exact ⟨0, by omega, fun t ht => by rw [show t = 0 by omega]; exact Nat.le_refl _⟩
      · obtain ⟨b, hb, hk⟩ := ih (by omega) (by omega)
        by_cases y : kyT f S b ≤ kyT f S n
        · refine ⟨b, by omega, fun t ht => ?_⟩
          by_cases w : t = n
          · rw [w]; exact y
          · exact hk t (by omega)
        · refine ⟨n, by omega, fun t ht => ?_⟩
          by_cases w : t = n
          · rw [w]; exact Nat.le_refl _
          · have := hk t (by omega)
            omega
  obtain ⟨b, h1, h2⟩ := this 216 (by omega) (by omega)
  exact ⟨b, h1, h2⟩
noncomputable def bT (f : Nat → Int32) (S : Nat → Prop) : Nat := Classical.choose (isB_ex f S)
theorem bT_is {f : Nat → Int32} {S : Nat → Prop} : isB f S (bT f S) := Classical.choose_spec (isB_ex f S)
theorem bT_eq {f : Nat → Int32} {S : Nat → Prop} {b : Nat} (h : isB f S b) : b = bT f S := isB_uq h bT_is
/-- what can still be after i turnings of the best -/
noncomputable def wS (f : Nat → Int32) (u : Nat) (S : Nat → Prop) : Nat → Nat → Prop
  | 0 => S
  | i + 1 => fun c => wS f u S i c ∧ stP f (bT f (wS f u S i)) u c
theorem gP_cg {f : Nat → Int32} {S S' : Nat → Prop} (h : ∀ c, c < 216 → (S c ↔ S' c)) (t : Nat) : gP f S t = gP f S' t := by
  unfold gP
  rw [enl_cg 216 h]
theorem isB_cg {f : Nat → Int32} {S S' : Nat → Prop} {b : Nat} (h : ∀ c, c < 216 → (S c ↔ S' c)) (hb : isB f S b) : isB f S' b := by
  refine ⟨hb.1, fun t ht => ?_⟩
  have := hb.2 t ht
  unfold kyT k3 at this ⊢
  rw [gP_cg h, gP_cg h, ind_cg (not_congr (h b hb.1)), ind_cg (not_congr (h t ht))] at this
  exact this
theorem fP_enl {S P : Nat → Prop} : ∀ n, fP P (enl S n) = enl (fun c => S c ∧ P c) n
  | 0 => by simp [fP, enl]
  | n + 1 => by
    by_cases z : S n
    · rw [enl_t z]
      by_cases y : P n
      · rw [fP_t y, fP_enl n, enl_t (S := fun c => S c ∧ P c) ⟨z, y⟩]
      · rw [fP_f y, fP_enl n, enl_f (S := fun c => S c ∧ P c) (fun w => y w.2)]
    · rw [enl_f z, fP_enl n, enl_f (S := fun c => S c ∧ P c) (fun w => z w.1)]
/-- in how many turnings: the first i below n with P i, and one more -/
def fs1 (P : Nat → Prop) (n : Nat) (r : Int32) : Prop := (∃ t, t < n ∧ P t ∧ (∀ j, j < t → ¬ P j) ∧ r = nI (t + 1)) ∨ ((∀ j, j < n → ¬ P j) ∧ r = -1)
theorem fs1_eq {P : Nat → Prop} {n : Nat} {r r' : Int32} (h : fs1 P n r) (h' : fs1 P n r') : r = r' := by
  rcases h with ⟨t, ht, a, b, e⟩ | ⟨b, e⟩
  · rcases h' with ⟨t', ht', a', b', e'⟩ | ⟨b', e'⟩
    · have : t = t' := by
        rcases Nat.lt_trichotomy t t' with u | u | u
        · exact absurd a (b' t u)
        · exact u
        · exact absurd a' (b t' u)
      rw [e, e', this]
    · exact absurd a (b' t ht)
  · rcases h' with ⟨t', ht', a', b', e'⟩ | ⟨b', e'⟩
    · exact absurd a' (b t' ht')
    · rw [e, e']
theorem hrF.toC {M M' : sk_M} (h : hrF M M') : scC M M' := ⟨fun c hc => h.1 c (by omega) (by omega) (by omega) (by omega), h.2.1, fun t => TB_c2 t (h.2.2 10 (by omega) (by omega)) (h.1 134 (by omega) (by omega) (by omega) (by omega))⟩
theorem st_when {M : sk_M} (h : Inv M) (a b : Int32) : StI Inv (fun Q X => w_X7_when a b M Q X) (w_X8_when a b) ["java/lang/IndexOutOfBoundsException"] := by
  unfold StI w_X7_when
  obtain ⟨nv, np, nc, tx, dy, ch, lg, nr, op, hR⟩ := h.1.1
  obtain ⟨hN, hF, hW, hS, hV, hC, hL, hK, hT⟩ := id hR
  have hLw := h.1.2
  have n1 := hN.1
  have n2 := hN.2.1
  have no : ¬ vp_in a np ∨ ¬ vp_in b nv → w_X8_when a b M (fun _ M2 => M2.1 140 0 = nI (0 + 1) ∧ Inv M2) := by
    intro q
    unfold w_X8_when
    refine sLet_i (sLet_i (gN (if_pos ?_) (dueX h rfl)))
    by_cases hp : vp_in a np
    · rw [noV_nt hW.1 n1 (q.resolve_left (fun x => x hp))]
      exact Or.inr (by decide)
    · rw [noP_nt hW.2.1 n2 hp]
      exact Or.inl (by decide)
  refine n7_PV hF.2.1 hF.1 n2 n1 (fun p v hp hv e e' => ?_) (fun q => ⟨0, rfl, no q⟩)
  subst e e'
  obtain ⟨u, hu, eF, eW⟩ := (hV v hv).1
  refine ⟨vp_in_nI (by omega) (by decide), sLet_i ?_⟩
  rw [nI_clamp (by omega), show M.1 (0 + 1) v = nI u from eF]
  generalize hSS : kbit (M.2 146) (4 * (6 * p + v)) = S
  have run : ∀ (M2 : sk_M) (x : Int32), scC M M2 → fs1 (fun i => bT (M.1 7) (wS (M.1 7) u S i) = u) 20 x → w_X8_when (nI p) (nI v) (sk_sl M2 158 0 x.toInt64) (fun b M2 => M2.1 140 0 = 0 ∧ M2.2 158 0 = b.toInt64 ∧ Inv M2) := by
    intro M2 x sc2 hx
    have hI2 := h.scC sc2
    have w1 : M2.1 141 = M.1 141 := sc2.1 141 (by omega)
    have k1 : M2.2 = M.2 := sc2.2.1
    unfold w_X8_when
    refine sLet_i (sLet_i (gY (if_neg ?_) ?_))
    · rw [noP_yt (M := sk_sl M2 158 0 x.toInt64) (n := np) (by show M2.1 141 1 = _; rw [w1]; exact hW.2.1) n2 (vp_in_nI hp (by omega)), noV_yt (M := sk_sl M2 158 0 x.toInt64) (n := nv) (by show M2.1 141 0 = _; rw [w1]; exact hW.1) n1 (vp_in_nI hv (by omega))]
      decide
    refine s8_keepsAll (fun N0 k0 => ?_)
    obtain ⟨q1, q2, q3, q4⟩ := k0
    have wN : N0.1 141 = M.1 141 := by rw [q1 141 (by omega), si_c (by omega)]; exact w1
    have kN : N0.2 146 = M.2 146 := by rw [q2 146 (by omega)]; show (sk_sl M2 158 0 x.toInt64).2 146 = _; rw [sl_c (by omega), k1]
    refine s8_laysClicks (cl := M.1 7) (by rw [wN]; exact hLw.2.1) (fun N l3 => ?_)
    have cN : ∀ c, c < 153 ∨ 154 < c → N.1 c = N0.1 c := fun c hc => l3.1 c (by omega) (by omega)
    -- what stands all the way
    let J : Nat → sk_M → Prop := fun i sM => (∀ c, c ≠ 155 → sM.1 c = N.1 c) ∧ cnt0 sM ∧ (∀ c, c ≠ 146 → sM.2 c = N.2 c) ∧ (∀ k, ¬ (4 * (6 * p + v) ≤ k ∧ k < 4 * (6 * p + v) + 4) → sM.2 146 k = M.2 146 k) ∧ ∀ c, c < 216 → (kbit (sM.2 146) (4 * (6 * p + v)) c ↔ wS (M.1 7) u S i c)
    have fin : ∀ (i : Nat) (sM : sk_M) (o y : Int32), J i sM → (if ¬ (o = 0) then y else (-1 : Int32)) = x → w_X8_bringsBack sM (fun M81 => if (¬ (o = 0)) then M81.1 140 0 = 0 ∧ M81.2 158 0 = y.toInt64 ∧ Inv M81 else M81.1 140 0 = 0 ∧ M81.2 158 0 = (-1 : Int32).toInt64 ∧ Inv M81) := by
      intro i sM o y hJ hy
      obtain ⟨j1, j2, j3, j4, j5⟩ := hJ
      refine s8_bringsBack (fun N2 b1 b2 b3 b4 b5 b6 => ?_)
      have o144 : ∀ k, k < 562 → sM.1 144 k = M.1 141 k := fun k hk => by rw [j1 144 (by omega), cN 144 (by omega), q3 k hk, si_c (by omega)]; exact congrFun w1 k
      have r1 : scR (sk_sl M2 158 0 x.toInt64) N2 := by
        refine ⟨fun c hc => ?_, fun j hj => ?_, fun c hc => ?_, fun hz k hk => ?_⟩
        · by_cases z : c = 141
          · subst z
            funext k
            show N2.1 141 k = M2.1 141 k
            rw [w1]
            by_cases y : k < 562
            · rw [b3 k y, o144 k y]
            · rw [b4 k (by omega), j1 141 (by omega), cN 141 (by omega), wN]
          · rw [b1 c z, j1 c (by omega), cN c (by omega), q1 c (by omega), si_c (by omega)]
        · rw [b1 140 (by omega), j1 140 (by omega), cN 140 (by omega), q1 140 (by omega), rd_si, if_neg (fun z => hj z.2)]
        · by_cases z : c = 146
          · subst z
            funext k
            rw [sl_c (by omega), k1]
            by_cases y : k < 144
            · rw [b5 k y, j3 149 (by omega), l3.2.1, q4 k y]
              show (sk_sl M2 158 0 x.toInt64).2 146 k = _
              rw [sl_c (by omega), k1]
            · rw [b6 k (by omega), j4 k (by omega)]
          · rw [b2 c z, j3 c z, l3.2.1, q2 c hc]; rfl
        · rw [b1 155 (by omega)]
          exact j2 k hk
      have t0 : N2.1 140 0 = 0 := by
        rw [b1 140 (by omega), j1 140 (by omega), cN 140 (by omega), q1 140 (by omega)]
        exact th_0
      by_cases z : o = 0
      · rw [if_neg (fun y => y z)] at hy
        refine i_f (fun y => y z) (due hI2 r1 t0 hy.symm)
      · rw [if_pos z] at hy
        refine i_t z (due hI2 r1 t0 hy.symm)
    have cn0 : cnt0 N := fun k hk => by
      rw [cN 155 (by omega), q1 155 (by omega), si_c (by omega)]
      exact hI2.2.2.2.2.2 k hk
    refine lp_inx (fun i s => s.1 = nI i ∧ J i s.2.2 ∧ ((s.2.1 = 0 ∧ ∀ j, j < i → ¬ bT (M.1 7) (wS (M.1 7) u S j) = u) ∨ (s.2.1 = 1 ∧ ∃ t, t + 1 = i ∧ bT (M.1 7) (wS (M.1 7) u S t) = u ∧ ∀ j, j < t → ¬ bT (M.1 7) (wS (M.1 7) u S j) = u))) 20 (by decide) ⟨rfl, ⟨fun _ _ => rfl, cn0, fun _ _ => rfl, fun k _ => by rw [show N.2 146 = _ from congrFun l3.2.1 146, kN], fun c hc => by rw [show N.2 146 = _ from congrFun l3.2.1 146, kN, hSS]; exact Iff.rfl⟩, Or.inl ⟨rfl, fun j hj => absurd hj (by omega)⟩⟩ (fun i hi s c hI hc => ?_)
    obtain ⟨s1, s2, sM⟩ := s
    obtain ⟨rfl, hJ, i2⟩ := hI
    unfold w_X8_when_L49
    dsimp only at hJ i2 ⊢
    rcases i2 with ⟨rfl, i2⟩ | ⟨rfl, t, rfl, i2, i3⟩
    · by_cases q : i < 20
      · refine i_t ⟨nI_ge q (by decide), rfl⟩ ?_
        obtain ⟨j1, j2, j3, j4, j5⟩ := hJ
        have c154 : ∀ k, k < 108 → sM.1 154 k = M.1 7 k := fun k hk => by rw [j1 154 (by omega)]; exact l3.2.2 k hk
        refine s8_nextOf (cl := M.1 7) (by omega) (by omega) c154 hLw.1 j2 (fun M4 y p4 b4 => ?_)
        have ey := bT_eq (isB_cg j5 b4)
        have hy : y < 216 := b4.1
        refine s8_hears (cl := M.1 7) (u := u) (by omega) (by omega) hy hu ?_ (fun k hk => by rw [p4.1 154 (by omega)]; exact c154 k hk) (fun M5 m1 m2 m3 m4 => ?_)
        · rw [p4.1 141 (by omega), j1 141 (by omega), cN 141 (by omega), wN]
          exact eW
        rw [nI_1]
        refine hc _ q ⟨rfl, ⟨fun c hc => by rw [m1, p4.1 c hc]; exact j1 c hc, fun k hk => by rw [m1]; exact p4.2.2 k hk, fun c hc => by rw [m2 c hc, p4.2.1]; exact j3 c hc, fun k hk => by rw [m3 k (by omega), p4.2.1]; exact j4 k hk, fun c hc => ?_⟩, ?_⟩
        · rw [kbit_iff, m4 c (by omega), p4.2.1, ← kbit_iff, j5 c hc, ey]
          exact ⟨fun z => ⟨z.1, z.2 hc⟩, fun z => ⟨z.1, fun _ => z.2⟩⟩
        · dsimp only
          by_cases z : y = u
          · refine Or.inr ⟨bI_t z, i, rfl, ey.symm.trans z, i2⟩
          · refine Or.inl ⟨bI_f z, fun j hj => ?_⟩
            by_cases w : j = i
            · rw [w, ← ey]; exact z
            · exact i2 j (by omega)
      · have e : i = 20 := by omega
        subst e
        refine i_f (fun z => z.1 (Int32.le_refl _)) (fin _ sM 0 _ hJ ?_)
        rw [if_neg (fun z => z rfl)]
        exact fs1_eq (Or.inr ⟨i2, rfl⟩) hx
    · refine i_f (fun z => absurd z.2 (by decide)) (fin _ sM 1 _ hJ ?_)
      rw [if_pos (by decide)]
      exact fs1_eq (Or.inl ⟨t, by omega, i2, i3, rfl⟩) hx
  refine c4_load (by omega) (by omega) (fun M1 s1 l1 => ?_)
  rw [hR.lfts hp hv] at l1
  have l2 : SV M1 (enl S 216) := by rw [← hSS]; exact l1
  have sc := s1.toC
  refine lp_inx (fun i s => s.1 = nI (i + 1) ∧ scC M s.2 ∧ SV s.2 (enl (wS (M.1 7) u S i) 216) ∧ ∀ j, j < i → ¬ bT (M.1 7) (wS (M.1 7) u S j) = u) 20 (by decide) ⟨rfl, sc, l2, fun j hj => absurd hj (by omega)⟩ (fun i hi s c hI hc => ?_)
  obtain ⟨s1, sM⟩ := s
  obtain ⟨rfl, i1, i2, i3⟩ := hI
  dsimp only at i1 i2
  unfold w_X7_when_L32
  by_cases q : i < 20
  · refine i_t (nI_nlt (a := 20) (by omega) (by decide)) ?_
    dsimp only
    have e7 : sM.1 7 = M.1 7 := i1.1 7 (by omega)
    refine c4_bestTurning (f := M.1 7) (S := wS (M.1 7) u S i) e7 hLw.1 (h.scC i1).2.2.2.2.1 i2 (fun M2 y f2 t2 b2 => ?_)
    have ey := bT_eq b2
    have hy := b2.1
    have sc2 := i1.trans (f2.toC t2)
    refine i_b (fun z => ?_) (fun z => ?_)
    · have z1 : y = u := (nI_eq (by omega) (by omega)).mp z
      exact run M2 _ sc2 (Or.inl ⟨i, q, ey.symm.trans z1, i3, rfl⟩)
    · have z1 : y ≠ u := fun w => z (by rw [w])
      unfold w_X4_hear
      refine ⟨vp_in_nI hy (by decide), vp_in_nI hu (by decide), _, f2.SV i2, ?_⟩
      rintro M3 ⟨h3, l3⟩
      rw [nI_clamp (by omega), nI_clamp (by omega), show M2.1 (0 + 7) = M.1 7 from (sc2.1 7 (by omega)), fP_enl] at l3
      rw [nI_1]
      refine hc _ q ⟨rfl, sc2.trans h3.toC, ?_, fun j hj => ?_⟩
      · rw [ey] at l3
        exact l3
      · by_cases w : j = i
        · rw [w, ← ey]; exact z1
        · exact i3 j (by omega)
  · have e : i = 20 := by omega
    subst e
    refine i_f (fun z => z (nI_lt (a := 20) (by decide) (by decide))) ?_
    exact run sM _ i1 (Or.inr ⟨i3, rfl⟩)
