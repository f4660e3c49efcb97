/-! the first turning after which none can be left unknown: outright -/
def fs (P : Nat → Prop) (n : Nat) (r : Int32) : Prop := (∃ t, t < n ∧ P t ∧ (∀ j, j < t → ¬ P j) ∧ r = nI t) ∨ ((∀ j, j < n → ¬ P j) ∧ r = -1)
theorem fs_eq {P P' : Nat → Prop} {n : Nat} {r r' : Int32} (hP : ∀ t, t < n → (P t ↔ P' t)) (h : fs P n r) (h' : fs P' n r') : r = r' := by
  rcases h with ⟨t, ht, a, b, e⟩ | ⟨b, e⟩
  · rcases h' with ⟨t', ht', a', b', e'⟩ | ⟨b', e'⟩
    · have : t = t' := by
        rcases Nat.lt_trichotomy t t' with u | u | u
        · exact absurd ((hP t ht).mp a) (b' t u)
        · exact u
        · exact absurd ((hP t' ht').mpr a') (b t' u)
      rw [e, e', this]
    · exact absurd ((hP t ht).mp a) (b' t ht)
  · rcases h' with ⟨t', ht', a', b', e'⟩ | ⟨b', e'⟩
    · exact absurd ((hP t' ht').mpr a') (b t' ht')
    · rw [e, e']
theorem st_outright {M : sk_M} (h : Inv M) (a b : Int32) : StI Inv (fun Q X => w_X7_outright a b M Q X) (w_X8_outright a b) ["java/lang/IndexOutOfBoundsException"] := by
  unfold StI w_X7_outright
  obtain ⟨nv, np, nc, tx, dy, ch, lg, nr, op, hR⟩ := h.1.1
  obtain ⟨hN, hF, hW, hS, hV, hC, hL, hK, hT⟩ := id hR
  have hLw := h.1.2
  have n1 := hN.1
  have n2 := hN.2.1
  have no : ¬ vp_in a np ∨ ¬ vp_in b nv → w_X8_outright a b M (fun _ M2 => M2.1 140 0 = nI (0 + 1) ∧ Inv M2) := by
    intro q
    unfold w_X8_outright
    refine sLet_i (sLet_i (gN (if_pos ?_) (dueX h rfl)))
    by_cases hp : vp_in a np
    · rw [noV_nt hW.1 n1 (q.resolve_left (fun x => x hp))]
      exact Or.inr (by decide)
    · rw [noP_nt hW.2.1 n2 hp]
      exact Or.inl (by decide)
  refine n7_PV hF.2.1 hF.1 n2 n1 (fun p v hp hv e e' => ?_) (fun q => ⟨0, rfl, no q⟩)
  subst e e'
  refine c4_load (by omega) (by omega) (fun M1 s1 l1 => ?_)
  rw [hR.lfts hp hv] at l1
  generalize hl : lft (M.2 146) p v = l at l1
  have sc := s1.toC
  have len : l.length ≤ 216 := by rw [← hl]; exact lft_len (M.2 146) p v
  have run : ∀ (M2 : sk_M) (x : Int32), scC M M2 → fs (fun t => (trF (M.1 7) t l).2.2 < 2) 216 x → w_X8_outright (nI p) (nI v) (sk_sl M2 158 0 x.toInt64) (fun b M2 => M2.1 140 0 = 0 ∧ M2.2 158 0 = b.toInt64 ∧ Inv M2) := by
    intro M2 x sc2 hx
    have hI2 := h.scC sc2
    have w1 : M2.1 141 = M.1 141 := sc2.1 141 (by omega)
    have k1 : M2.2 = M.2 := sc2.2.1
    unfold w_X8_outright
    refine sLet_i (sLet_i (gY (if_neg ?_) ?_))
    · rw [noP_yt (M := sk_sl M2 158 0 x.toInt64) (n := np) (by show M2.1 141 1 = _; rw [w1]; exact hW.2.1) n2 (vp_in_nI hp (by omega)), noV_yt (M := sk_sl M2 158 0 x.toInt64) (n := nv) (by show M2.1 141 0 = _; rw [w1]; exact hW.1) n1 (vp_in_nI hv (by omega))]
      decide
    · refine s8_laysClicks (cl := M.1 7) (by show clkS (M2.1 141) _; rw [w1]; exact hLw.2.1) (fun M3 l3 => ?_)
      obtain ⟨r1, r2⟩ := l3.sc0
      have e3 : M3.2 146 = M.2 146 := by rw [l3.2.1]; show (sk_sl M2 158 0 x.toInt64).2 146 = _; rw [sl_c (by omega), k1]
      have c3 : cnt0 M3 := r1.2.2.2 (fun i hi => hI2.2.2.2.2.2 i hi)
      have fin : ∀ (M4 : sk_M) (y : Int32), ptF M3 M4 → fs (fun t => (trF (M.1 7) t l).2.2 < 2) 216 y → M4.1 140 0 = 0 ∧ M4.2 158 0 = y.toInt64 ∧ Inv M4 := fun M4 y p4 hy => by
        refine due hI2 (r1.trans p4.toR) ?_ (fs_eq (fun _ _ => Iff.rfl) hx hy)
        rw [p4.1 140 (by omega)]
        exact r2
      refine lp_inx (fun i s => s.1 = nI i ∧ ptF M3 s.2 ∧ ∀ j, j < i → ¬ (trF (M.1 7) j l).2.2 < 2) 216 (by decide) ⟨rfl, ptF.self c3, fun j hj => absurd hj (by omega)⟩ (fun i hi s c hI hc => ?_)
      obtain ⟨s1, sM⟩ := s
      obtain ⟨rfl, i1, i2⟩ := hI
      unfold w_X8_outright_L42
      by_cases q : i < 216
      · refine i_t (nI_ge q (by decide)) ?_
        refine s8_partsOf (cl := M.1 7) (by omega) (by omega) q (fun k hk => by show sM.1 154 k = _; rw [i1.1 154 (by omega)]; exact l3.2.2 k hk) hLw.1 i1.2.2 (fun M4 p4 => ?_)
        have e4 : lft (sM.2 146) p v = l := by rw [i1.2.1, e3, hl]
        rw [e4, if_pos (show ¬ ((1 : Int32) = 0) by decide)]
        obtain ⟨g216, _⟩ := tr_216 (cl := M.1 7) (t := i) len
        refine i_b (fun q2 => ?_) (fun q2 => ?_)
        · refine fin M4 _ (i1.trans p4) (Or.inl ⟨i, q, ?_, i2, rfl⟩)
          have := mt (nI_ltI (a := 1) (by decide) (by omega)).mpr q2
          omega
        · rw [nI_1]
          refine hc _ q ⟨rfl, i1.trans p4, fun j hj => ?_⟩
          rcases Nat.lt_succ_iff_lt_or_eq.mp hj with u | u
          · exact i2 j u
          · subst u
            have := (nI_ltI (a := 1) (by decide) (by omega)).mp (Classical.not_not.mp q2)
            omega
      · have e : i = 216 := by omega
        subst e
        refine i_f (nn (n := 216) (by decide)) ?_
        exact fin sM _ i1 (Or.inr ⟨i2, rfl⟩)
  refine lp_inx (fun i s => s.1 = nI i ∧ scC M s.2 ∧ SV s.2 l ∧ ∀ j, j < i → ¬ (trF (M.1 7) j l).2.2 < 2) 216 (by decide) ⟨rfl, sc, l1, fun j hj => absurd hj (by omega)⟩ (fun i hi s c hI hc => ?_)
  obtain ⟨s1, sM⟩ := s
  obtain ⟨rfl, i1, i3, i2⟩ := hI
  have hI3 := h.scC i1
  have c7 : sM.1 7 = M.1 7 := i1.1 7 (by omega)
  unfold w_X7_outright_L21
  by_cases q : i < 216
  · refine i_t (nI_ge q (by decide)) ?_
    unfold w_X4_greatestPart
    refine ⟨vp_in_nI q (by decide), vp_in_nI (show 2 < 1000 by decide) (by decide), l, by show clB (sM.1 7); rw [c7]; exact hLw.1, i3, hI3.2.2.2.2.1, ?_⟩
    rintro r M2 ⟨⟨k, rfl, k1, k2⟩, w2, t2⟩
    rw [nI_clamp (n := i) (by omega)] at k1 k2
    rw [show sM.1 (0 + 7) = M.1 7 from c7] at k1 k2
    obtain ⟨g216, _⟩ := tr_216 (cl := M.1 7) (t := i) len
    have k3 : k < 2 → k = (trF (M.1 7) i l).2.2 := k2
    refine i_b (fun q2 => ?_) (fun q2 => ?_)
    · refine run M2 _ (i1.trans (w2.toC t2)) (Or.inl ⟨i, q, ?_, i2, rfl⟩)
      have : k < 2 := by
        have := mt (nI_leI (a := 2) (by decide) (by omega)).mpr q2
        omega
      have := k3 this
      omega
    · rw [nI_1]
      refine hc _ q ⟨rfl, i1.trans (w2.toC t2), SV_sw i3 w2, fun j hj => ?_⟩
      rcases Nat.lt_succ_iff_lt_or_eq.mp hj with u | u
      · exact i2 j u
      · subst u
        have := (nI_leI (a := 2) (by decide) (by omega)).mp (Classical.not_not.mp q2)
        omega
  · have e : i = 216 := by omega
    subst e
    refine i_f (nn (n := 216) (by decide)) ?_
    exact run sM _ i1 (Or.inr ⟨i2, rfl⟩)
