/-! lines of the law as the reference keeps them -/
def LnOK (D : Nat → Int32) (m S : Nat) (l : LN) : Prop := D (1 + 4 * m) = iF l.1.1 1 (-1) ∧ D (2 + 4 * m) = nI l.1.2 ∧ ∃ s0 s1, D (3 + 4 * m) = nI s0 ∧ D (4 + 4 * m) = nI s1 ∧ s0 ≤ 400 ∧ s1 ≤ S ∧ ((s0 = s1 ∧ ∀ w t c, w < 3 → t < 6 → c < 6 → l.2 w t c) ∨ RunP D s0 s1 l.2)
def LsOK (D : Nat → Int32) (S : Nat) (ls : List LN) : Prop := ∀ m (h : m < ls.length), LnOK D m S ls[m]
theorem s8_holds {M : sk_M} {Q : Int32 → sk_M → Prop} {D : Nat → Int32} {m w t c S : Nat} {l : LN} (hm : m < 12) (hS : S ≤ 400) (hw : w < 3) (ht : t < 6) (hc : c < 6) (hD : ∀ k, k < 849 → M.1 141 (562 + k) = D k) (hl : LnOK D m S l) (h : ∀ M', (∀ x, x ≠ 153 → M'.1 x = M.1 x) → M'.2 = M.2 → Q (bI (l.2 w t c)) M') : w_X8_holdsLine (nI m) (nI w) (nI t) (nI c) M Q := by
  obtain ⟨d1, d2, s0, s1, d3, d4, b0, b1', hr⟩ := hl
  have b1 : s1 ≤ 400 := Nat.le_trans b1' hS
  unfold w_X8_holdsLine
  have i1 : (563 : Int32) + (4 : Int32) * nI m = nI (563 + 4 * m) := by
    show nI 563 + nI 4 * nI m = _
    rw [pk_mul, nI_add]
  rw [i1]
  refine sLet_i ?_
  have i2 : nI (563 + 4 * m) + (2 : Int32) = nI (563 + 4 * m + 2) := nI_add _ 2
  have i3 : nI (563 + 4 * m) + (3 : Int32) = nI (563 + 4 * m + 3) := nI_add _ 3
  rw [i2, nI_clamp (by omega)]
  have h3 := hD (3 + 4 * m) (by omega)
  have h4 := hD (4 + 4 * m) (by omega)
  rw [show 562 + (3 + 4 * m) = 563 + 4 * m + 2 by omega, d3] at h3
  rw [show 562 + (4 + 4 * m) = 563 + 4 * m + 3 by omega, d4] at h4
  rw [h3]
  refine ⟨vp_in_nI (by omega) (by decide), sLet_i ?_⟩
  have vi : vp_in (nI (563 + 4 * m) + 3) 2260 := by
    show vp_in (nI (563 + 4 * m) + (3 : Int32)) 2260
    rw [i3]; exact vp_in_nI (by omega) (by decide)
  have ec : (nI (563 + 4 * m) + (3 : Int32)).toNatClampNeg = 563 + 4 * m + 3 := by rw [i3]; exact nI_clamp (by omega)
  rcases hr with ⟨e, hall⟩ | run
  · subst e
    refine lp_ix (I := fun q s => q = 0 ∧ s = ((0 : Int32), nI s0, M)) (fun q s c2 hI hc2 => ?_) sk_F 0 _ ⟨rfl, rfl⟩ (by decide)
    rw [hI.2]
    unfold w_X8_holdsLine_L23
    dsimp only
    rw [ec, h4]
    refine ⟨vi, i_f (fun u => u (Int32.le_refl _)) (i_f (fun u => u rfl) ?_)⟩
    have := h M (fun _ _ => rfl) rfl
    rw [bI_t (hall w t c hw ht hc)] at this
    exact this
  · obtain ⟨F, hF⟩ : ∃ F, sk_F = (F + 1) + (s1 - s0) := ⟨sk_F - 1 - (s1 - s0), by unfold sk_F; omega⟩
    rw [hF]
    refine run.2.2 w t c hw ht hc (nI (563 + 4 * m)) _ (F + 1) 0 s1 M (fun k k1 k2 => hD k (by omega)) vi (by show M.1 141 (nI (563 + 4 * m) + (3 : Int32)).toNatClampNeg = _; rw [ec]; exact h4) (Nat.le_refl _) b1 (by omega) (fun M' m1 m2 m3 m4 => ?_)
    show w_X8_holdsLine_L23 _ _ _ _ _ (lp (w_X8_holdsLine_L23 _ _ _ _ _) F) _
    generalize lp (w_X8_holdsLine_L23 _ _ _ _ _) F = cc
    unfold w_X8_holdsLine_L23
    dsimp only
    rw [ec, m1 141 (by decide), h4]
    refine ⟨vi, i_f (fun u => u (Int32.le_refl _)) (i_t (by decide) ?_)⟩
    have hq := h M' m1 m2
    dsimp only at m4
    rw [m4]
    by_cases z : l.2 w t c
    · rw [bI_t z] at hq ⊢
      exact i_t rfl hq
    · rw [bI_f z] at hq ⊢
      exact i_f (by decide) hq
theorem ls_tk {ls : List LN} {i : Nat} (h : i < ls.length) : ls.take (i + 1) = ls.take i ++ [ls[i]] := by
  rw [List.take_add_one, List.getElem?_eq_getElem h]
  rfl
theorem clk_law {W cl : Nat → Int32} {ls : List LN} {S : Nat} (hS : S ≤ 400) (h4 : W 4 = 1) (h5 : W 562 = nI ls.length) (hl : ls.length ≤ 12) (hD : LsOK (fun k => W (562 + k)) S ls) (hc : ∀ w, w < 3 → ∀ t, t < 6 → ∀ c, c < 6 → cl (36 * w + 6 * t + c) = lsV ls w t c) : clkS W cl := by
  intro w hw t ht c hc9 M Q m4 mk hq
  unfold w_X8_clickOf
  refine i_f (by rw [m4, h4]; decide) ?_
  have e0 : ((0 : Int32), (0 : Int32), M) = (lsV (ls.take 0) w t c, nI 0, M) := by rw [List.take_zero]; rfl
  rw [e0]
  refine lp_inv (fun i s => s.1 = lsV (ls.take i) w t c ∧ s.2.1 = nI i ∧ (∀ x, x ≠ 153 → s.2.2.1 x = M.1 x) ∧ s.2.2.2 = M.2) ls.length (Nat.lt_of_le_of_lt hl (by decide)) ⟨rfl, rfl, fun _ _ => rfl, rfl⟩ (fun i hi s k hI hk => ?_) (fun s k hI => ?_)
  · obtain ⟨s1, s2, sM⟩ := s
    obtain ⟨rfl, rfl, i1, i2⟩ := hI
    dsimp only at i1 i2
    unfold w_X8_clickOf_L26
    dsimp only
    have w141 : sM.1 141 = M.1 141 := i1 141 (by decide)
    rw [w141, mk 562 (by omega) (by omega), h5]
    refine i_t (nI_ge hi (by omega)) ?_
    have L := hD i hi
    refine s8_holds (D := fun k => W (562 + k)) (l := ls[i]) (by omega) hS hw ht hc9 (fun k hk => by rw [w141]; exact mk _ (by omega) (by omega)) L (fun M2 g1 g2 => ?_)
    have i3 : (563 : Int32) + (4 : Int32) * nI i = nI (563 + 4 * i) := by
      show nI 563 + nI 4 * nI i = _
      rw [pk_mul, nI_add]
    rw [i3, nI_1, nI_clamp (show 563 + 4 * i < 2 ^ 31 by omega), nI_1, nI_clamp (show 563 + 4 * i + 1 < 2 ^ 31 by omega), g1 141 (by decide), w141]
    have x1 : M.1 141 (563 + 4 * i) = iF ls[i].1.1 1 (-1) := by
      rw [mk _ (by omega) (by omega)]
      have := L.1
      rw [← this]
      show W _ = W _
      congr 1
      omega
    have x2 : M.1 141 (563 + 4 * i + 1) = nI ls[i].1.2 := by
      rw [mk _ (by omega) (by omega)]
      have := L.2.1
      rw [← this]
      show W _ = W _
      congr 1
      omega
    rw [x1, x2]
    have fin : ∀ z : Int32, z = lnV ls[i] w t c → k (lsV (ls.take i) w t c + z, nI (i + 1), M2) := fun z hz => by
      refine hk _ ⟨?_, rfl, fun x hx => (g1 x hx).trans (i1 x hx), g2.trans i2⟩
      dsimp only
      rw [ls_tk hi, lsV_app, hz]
    refine i_b (fun u => ⟨vp_in_nI (by omega) (by decide), vp_in_nI (by omega) (by decide), sLet_i (fin _ ?_)⟩) (fun u => sLet_i (fin _ ?_))
    · have hp := bI_n.mp u
      unfold lnV
      rw [iF_t hp]
      by_cases v : ls[i].1.1
      · rw [iF_t v, iF_t v, Int32.one_mul]
      · rw [iF_f v, iF_f v, Int32.neg_mul, Int32.one_mul]
    · have hp : ¬ ls[i].2 w t c := fun v => u (bI_n.mpr v)
      unfold lnV
      rw [iF_f hp]
  · obtain ⟨s1, s2, sM⟩ := s
    obtain ⟨rfl, rfl, i1, i2⟩ := hI
    dsimp only at i1 i2
    unfold w_X8_clickOf_L26
    dsimp only
    rw [i1 141 (by decide), mk 562 (by omega) (by omega), h5]
    refine i_f (nn (n := ls.length) (by omega)) ?_
    rw [List.take_length, ← hc w hw t ht c hc9]
    exact hq sM i1 i2
/-- what the reader of lines leaves -/
def ldG (M M' : sk_M) (m s : Nat) : Prop := (∀ c, c ≠ 140 → c ≠ 141 → M'.1 c = M.1 c) ∧ M'.2 = M.2 ∧ (∀ k, k ≠ 15 → k ≠ 17 → k ≠ 18 → k ≠ 21 → M'.1 140 k = M.1 140 k) ∧ (∀ k, k < 1412 + 4 * m → M'.1 141 k = M.1 141 k) ∧ ∀ k, 1460 ≤ k → k < 1460 + 2 * s → M'.1 141 k = M.1 141 k
theorem ldG.refl {M : sk_M} {m s : Nat} : ldG M M m s := ⟨fun _ _ _ => rfl, rfl, fun _ _ _ _ _ => rfl, fun _ _ => rfl, fun _ _ _ => rfl⟩
theorem ldG.trans {A B C : sk_M} {m s m' s' : Nat} (h : ldG A B m s) (g : ldG B C m' s') (hm : m ≤ m') (hs : s ≤ s') : ldG A C m s := ⟨fun c a b => (g.1 c a b).trans (h.1 c a b), g.2.1.trans h.2.1, fun k a b c d => (g.2.2.1 k a b c d).trans (h.2.2.1 k a b c d), fun k hk => (g.2.2.2.1 k (by omega)).trans (h.2.2.2.1 k hk), fun k k1 k2 => (g.2.2.2.2 k k1 (by omega)).trans (h.2.2.2.2 k k1 k2)⟩
theorem lrG.ld {M M' : sk_M} {m s : Nat} (h : lrG M M' s) (hm : m < 12) : ldG M M' m s := ⟨h.1, h.2.1, h.2.2.1, fun k hk => h.2.2.2 k (by omega), fun k _ k2 => h.2.2.2 k k2⟩
theorem rtF.ld {M M' : sk_M} {m s : Nat} (h : rtF M M') : ldG M M' m s := ⟨fun c a _ => h.1 c a, h.2.1, fun k a b _ _ => h.2.2 k a b, fun k _ => by rw [h.1 141 (by decide)], fun k _ _ => by rw [h.1 141 (by decide)]⟩
theorem LnOK.mv {M M' : sk_M} {m m' S S' : Nat} {l : LN} (h : LnOK (dft M) m S l) (g : ldG M M' m' S) (hm : m < m') (hS : S ≤ S') : LnOK (dft M') m S' l := by
  obtain ⟨d1, d2, s0, s1, d3, d4, b0, b1, hr⟩ := h
  have e : ∀ k, 1 ≤ k → k < 1 + 4 * m' → dft M' k = dft M k := fun k _ k2 => by unfold dft; exact g.2.2.2.1 _ (by omega)
  refine ⟨by rw [e _ (by omega) (by omega)]; exact d1, by rw [e _ (by omega) (by omega)]; exact d2, s0, s1, by rw [e _ (by omega) (by omega)]; exact d3, by rw [e _ (by omega) (by omega)]; exact d4, b0, by omega, hr.imp id (fun r => ?_)⟩
  exact Run.cg r (fun k k1 k2 => by unfold dft; exact g.2.2.2.2 _ (by omega) (by omega)) (fun _ _ _ _ _ _ => rfl)
