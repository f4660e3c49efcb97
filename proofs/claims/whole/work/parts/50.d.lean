/-! the reference reads atoms -/
theorem sg40 : sgn9 40 := ⟨by decide, by decide, by decide, by decide⟩
theorem sg41 : sgn9 41 := ⟨by decide, by decide, by decide, by decide⟩
theorem sg60 : sgn9 60 := ⟨by decide, by decide, by decide, by decide⟩
theorem sg62 : sgn9 62 := ⟨by decide, by decide, by decide, by decide⟩
theorem dpG {M : sk_M} {s : Nat} {x : Int32} : lrG M (sk_si M 140 18 x) s := ⟨fun c a _ => si_c a, rfl, fun k _ _ a _ => by rw [rd_si, if_neg (fun z => a z.2)], fun k _ => by rw [si_c (by decide)]⟩
theorem RI.dp {M : sk_M} {y : Nat → Nat} {n i : Nat} {x : Int32} (h : RI M y n i) : RI (sk_si M 140 18 x) y n i := h.cg (si_c (by decide)) (by rw [rd_si, if_neg (by omega)]) (by rw [rd_si, if_neg (by omega)])
theorem r8_atom {y : Nat → Nat} {n r : Nat} {A : sk_M → (Int32 → sk_M → Prop) → Prop} (hr6 : r ≤ 6) (hA : ∀ r', r = r' + 1 → rcP y n (6 - r') (pAtom y n r') RunP A) : rcP y n (6 - r) (pAtom y n r) RunP (w_X8_readAtom A) := by
  intro M i s Q hr es ed hs h1 h0
  obtain ⟨hi, n4⟩ := hr.le
  obtain ⟨N, eN, hN⟩ : ∃ N, pAtom y n r = pAt y n N ∧ ((r = 0 ∧ N = fun i => .inl (tkA y n i)) ∨ ∃ r', r = r' + 1 ∧ N = pNest y n (pAtom y n r')) := by
    cases r with
    | zero => exact ⟨_, rfl, Or.inl ⟨rfl, rfl⟩⟩
    | succ r => exact ⟨_, rfl, Or.inr ⟨r, rfl, rfl⟩⟩
  rw [eN] at h1 h0
  unfold w_X8_readAtom
  refine r8_sign sg40 hr (fun k2 M1 g1 r1 b1 => ?_) (fun k2 M1 g1 r1 b1 => ?_)
  · -- a bracket
    have k2' : sgA y n i 40 := k2
    have k1 : ¬ isWd y n i 11 := fun u => by have := u.1; have := k2.1; omega
    have eA : pAt y n N i = N i := by unfold pAt; rw [iF_t (Or.inr k2')]
    rw [eA] at h1 h0
    have gt := sg_gt hi k2.1
    refine i_t (by decide) ?_
    have ed1 : M1.1 140 18 = nI (6 - r) := by rw [g1.2.2 18 (by decide) (by decide)]; exact ed
    have es1 : M1.1 140 21 = nI s := by rw [g1.2.2 21 (by decide) (by decide)]; exact es
    rw [ed1]
    rcases hN with ⟨r0, hN⟩ | ⟨r', r1', hN⟩
    · refine i_t (by rw [r0]; rfl) ?_
      exact h0 (tkA y n i) (by rw [hN]) M1 g1.g b1
    refine i_f (fun u => by have := (nI_eq (b := 6) (by omega) (by decide)).mp u; omega) (sLet_i ?_)
    have e6 : nI (6 - r) + (1 : Int32) = nI (6 - r') := by rw [nI_1]; congr 1; omega
    rw [e6]
    have eP : N i = pB (pCond y n (pAtom y n r') (tkE y n i)) (fun x => iF (sgA y n x.1 41) (.inr (tkE y n x.1, x.2)) (.inl (tkA y n x.1))) := by rw [hN]; unfold pNest; rw [iF_f k1]
    refine r8_cond (pAtom_ok r') (hA r' r1') _ _ s _ r1.dp (by rw [rd_si, if_neg (by omega)]; exact es1) (by rw [rd_si, if_pos ⟨rfl, rfl⟩]) (by omega) (fun x ex M2 s2 f2 r2 e2 d2 l2 b2 run2 => ?_) (fun a ea M2 f2 e2 => ?_)
    rotate_left
    · exact i_t rfl (h0 a (by rw [eP, pB_l ea]) M2 ((g1.g.trans dpG (Nat.le_refl s)).trans f2 (Nat.le_refl s)) e2)
    refine i_f (by decide) (sLet_i ?_)
    have gx := (pCond_ok (y := y) (pAtom_ok (y := y) (n := n) r')).1 _ _ gt.2 ex
    have e7 : nI (6 - r') - (1 : Int32) = nI (6 - r) := by
      rw [show (1 : Int32) = nI 1 from rfl, pk_sub (by omega)]
      congr 1
      omega
    rw [d2, e7]
    have fr : lrG M (sk_si M2 140 18 (nI (6 - r))) s := ((g1.g.trans dpG (Nat.le_refl s)).trans f2 (Nat.le_refl s)).trans dpG (Nat.le_refl s)
    have run3 : RunP (dft (sk_si M2 140 18 (nI (6 - r)))) s s2 x.2 := run2.mv dpG (Nat.le_refl s2)
    refine r8_sign sg41 r2.dp (fun v M3 g3 r3 b3 => ⟨Or.inr rfl, ?_⟩) (fun v M3 g3 r3 b3 => ⟨Or.inl rfl, ?_⟩)
    · have gv := sg_gt gx.2 v.1
      refine h1 (tkE y n x.1, x.2) (by rw [eP, pB_r ex]; exact iF_t v) M3 s2 (fr.trans g3.g (Nat.le_refl s)) r3 (by rw [g3.2.2 21 (by decide) (by decide), rd_si, if_neg (by omega)]; exact e2) (by rw [g3.2.2 18 (by decide) (by decide), rd_si, if_pos ⟨rfl, rfl⟩]) l2 (by show s2 + i ≤ s + tkE y n x.1; omega) (run3.mv (g3.g (s := s2)) (Nat.le_refl _))
    · exact h0 (tkA y n x.1) (by rw [eP, pB_r ex]; exact iF_f v) M3 (fr.trans g3.g (Nat.le_refl s)) b3
  refine i_f (fun u => u rfl) ?_
  have k2' : ¬ sgA y n i 40 := k2
  refine r8_passes (j := 11) (by decide) r1 (fun k1 M2 g2 r2 b2 => ?_) (fun k1 M2 g2 r2 b2 => ?_)
  · -- not
    have eA : pAt y n N i = N i := by unfold pAt; rw [iF_t (Or.inl k1)]
    rw [eA] at h1 h0
    have gt := wd_gt hi k1
    refine i_t (by decide) ?_
    have g12 := g1.trans g2
    have ed2 : M2.1 140 18 = nI (6 - r) := by rw [g12.2.2 18 (by decide) (by decide)]; exact ed
    have es2 : M2.1 140 21 = nI s := by rw [g12.2.2 21 (by decide) (by decide)]; exact es
    rw [ed2]
    rcases hN with ⟨r0, hN⟩ | ⟨r', r1', hN⟩
    · refine i_t (by rw [r0]; rfl) ?_
      exact h0 (tkA y n i) (by rw [hN]) M2 g12.g b2
    refine i_f (fun u => by have := (nI_eq (b := 6) (by omega) (by decide)).mp u; omega) (sLet_i ?_)
    have e6 : nI (6 - r) + (1 : Int32) = nI (6 - r') := by rw [nI_1]; congr 1; omega
    rw [e6]
    have eP : N i = pB (pAtom y n r' (tkE y n i)) (fun x => .inr (x.1, pNot' x.2)) := by rw [hN]; unfold pNest; rw [iF_t k1]
    refine hA r' r1' _ _ s _ r2.dp (by rw [rd_si, if_neg (by omega)]; exact es2) (by rw [rd_si, if_pos ⟨rfl, rfl⟩]) (by omega) (fun x ex M3 s3 f3 r3 e3 d3 l3 b3 run3 => ?_) (fun a ea M3 f3 e3 => ?_)
    rotate_left
    · exact i_t rfl (h0 a (by rw [eP, pB_l ea]) M3 ((g12.g.trans dpG (Nat.le_refl s)).trans f3 (Nat.le_refl s)) e3)
    refine i_f (by decide) (sLet_i ?_)
    have gx := (pAtom_ok (y := y) (n := n) r').1 _ _ gt.2 ex
    have e7 : nI (6 - r') - (1 : Int32) = nI (6 - r) := by
      rw [show (1 : Int32) = nI 1 from rfl, pk_sub (by omega)]
      congr 1
      omega
    rw [d3, e7]
    have fr : lrG M (sk_si M3 140 18 (nI (6 - r))) s := ((g12.g.trans dpG (Nat.le_refl s)).trans f3 (Nat.le_refl s)).trans dpG (Nat.le_refl s)
    have run4 : RunP (dft (sk_si M3 140 18 (nI (6 - r)))) s s3 x.2 := run3.mv dpG (Nat.le_refl s3)
    refine r8_emits (s := s3) (by rw [rd_si, if_neg (by omega)]; exact e3) (by omega) (fun M5 e5 => ?_)
    refine h1 (x.1, pNot' x.2) (by rw [eP, pB_r ex]) M5 (s3 + 1) (fr.trans e5.g (by omega)) (e5.ri r3.dp) e5.2.2.2.1 (by rw [e5.2.2.1 18 (by decide), rd_si, if_pos ⟨rfl, rfl⟩]) (by omega) (by show s3 + 1 + i ≤ s + x.1; omega) ?_
    exact RunP_not (run4.mv e5.g (Nat.le_refl _)) (by omega) e5.2.2.2.2.2.1
  refine i_f (fun u => u rfl) ?_
  have no : ¬ (isWd y n i 11 ∨ sgA y n i 40) := fun u => u.elim k1 k2'
  have g12 := g1.trans g2
  have ed2 : M2.1 140 18 = nI (6 - r) := by rw [g12.2.2 18 (by decide) (by decide)]; exact ed
  have es2 : M2.1 140 21 = nI s := by rw [g12.2.2 21 (by decide) (by decide)]; exact es
  refine r8_tag r2 es2 hs (fun k3 M3 f3 r3 e3 d3 run3 => ?_) (fun k4 M3 f3 r3 e3 d3 run3 => ?_) (fun k3 k4 M3 g3 r3 => ?_)
  · refine i_t (by decide) ?_
    have gt := wd_gt hi k3
    exact h1 (tkE y n i, fun _ t c => t = c) (by unfold pAt; rw [iF_f no, iF_t k3]) M3 (s + 1) (g12.g.trans f3 (Nat.le_refl s)) r3 e3 (d3.trans ed2) (by omega) (by show s + 1 + i ≤ s + tkE y n i; omega) run3
  · refine i_t (by decide) ?_
    have gt := wd_gt hi k4
    have k3 : ¬ isWd y n i 12 := fun u => by
      have h1 := k4.2.2 0 (by decide)
      have h2 := u.2.2 0 (by decide)
      rw [h1] at h2
      exact absurd h2 (by decide)
    exact h1 (tkE y n i, fun _ t c => apt t c = 1) (by unfold pAt; rw [iF_f no, iF_f k3, iF_t k4]) M3 (s + 1) (g12.g.trans f3 (Nat.le_refl s)) r3 e3 (d3.trans ed2) (by omega) (by show s + 1 + i ≤ s + tkE y n i; omega) run3
  refine i_f (fun u => u rfl) ?_
  have eP : pAt y n N i = pB (pSum y n i) (fun x => iF (sgA y n x.1 60) (pB (pSum y n (tkE y n x.1)) (fun z => .inr (z.1, pLess x.2 z.2))) (iF (sgA y n x.1 62) (pB (pSum y n (tkE y n x.1)) (fun z => .inr (z.1, pLess z.2 x.2))) (.inl (tkA y n x.1)))) := by unfold pAt; rw [iF_f no, iF_f k3, iF_f k4]
  have g13 := g12.trans g3
  refine r8_sum M3 i s _ r3 (by rw [g3.2.2 21 (by decide) (by decide)]; exact es2) (by rw [g3.2.2 18 (by decide) (by decide)]; exact ed2) hs (fun x ex M4 s4 f4 r4 e4 d4 l4 b4 run4 => ?_) (fun a ea M4 f4 e4 => ?_)
  rotate_left
  · exact i_t rfl (h0 a (by rw [eP, pB_l ea]) M4 (g13.g.trans f4 (Nat.le_refl s)) e4)
  have gx := pSum_ok hi ex
  have fx : fB x.2 399600 := fun w t c hw ht hc => Nat.le_trans (gx.2.2 w t c hw ht hc) (by omega)
  have f14 : lrG M M4 s := g13.g.trans f4 (Nat.le_refl s)
  refine i_f (by decide) ?_
  have go : ∀ (M5 : sk_M) (r135 : Int32) (op : Nat) (F : FN → FN → FP), rtF M4 M5 → RI M5 y n (tkE y n x.1) → tkE y n x.1 ≤ n → x.1 < tkE y n x.1 → (if (¬ (r135 = 0)) then (8 : Nat) else 9) = op → (∀ (D : Nat → Int32) (s0 m0 s0' : Nat) (f g : FN), RunN D s0 m0 f → RunN D m0 s0' g → s0' < 400 → D (49 + 2 * s0') = nI op → fB f 399600 → fB g 399600 → RunP D s0 (s0' + 1) (F f g)) → (pAt y n N i = pB (pSum y n (tkE y n x.1)) (fun z => .inr (z.1, F x.2 z.2))) → w_X8_readSum M5 (fun r153 M153 => if (r153 = 0) then Q (0 : Int32) M153 else (if (¬ (r135 = 0)) then (w_X8_emits (8 : Int32) (0 : Int32) M153 (fun M174 => Q (1 : Int32) M174)) else (w_X8_emits (9 : Int32) (0 : Int32) M153 (fun M174 => Q (1 : Int32) M174)))) := by
    intro M5 r135 op F g5 r5 h5n gt hop hF ePz
    refine r8_sum M5 _ s4 _ r5 (by rw [g5.2.2 21 (by decide) (by decide)]; exact e4) (by rw [g5.2.2 18 (by decide) (by decide)]; exact d4) (by omega) (fun z ez M6 s6 f6 r6 e6 d6 l6 b6 run6 => ?_) (fun a ea M6 f6 e6 => ?_)
    rotate_left
    · exact i_t rfl (h0 a (by rw [ePz, pB_l ea]) M6 ((f14.trans g5.g (Nat.le_refl s)).trans f6 (by omega)) e6)
    refine i_f (by decide) ?_
    have gz := pSum_ok h5n ez
    have fz : fB z.2 399600 := fun w t c hw ht hc => Nat.le_trans (gz.2.2 w t c hw ht hc) (by omega)
    have f16 : lrG M M6 s := (f14.trans g5.g (Nat.le_refl s)).trans f6 (by omega)
    have ra : RunN (dft M6) s s4 x.2 := (run4.mv (g5.g (s := s4)) (Nat.le_refl _)).mv f6 (Nat.le_refl _)
    have em : ∀ o : Int32, o = nI op → w_X8_emits o (0 : Int32) M6 (fun M174 => Q (1 : Int32) M174) := fun o ho => by
      refine r8_emits e6 (by omega) (fun M7 e7 => ?_)
      refine h1 (z.1, F x.2 z.2) (by rw [ePz, pB_r ez]) M7 (s6 + 1) (f16.trans e7.g (by omega)) (e7.ri r6) e7.2.2.2.1 (by rw [e7.2.2.1 18 (by decide)]; exact d6) (by omega) (by show s6 + 1 + i ≤ s + z.1; omega) ?_
      exact hF _ s s4 s6 x.2 z.2 (ra.mv e7.g (by omega)) (run6.mv e7.g (Nat.le_refl _)) (by omega) (by rw [← ho]; exact e7.2.2.2.2.2.1) fx fz
    by_cases q : r135 = 0
    · rw [if_neg (fun u => u q)] at hop
      exact i_f (fun u => u q) (em _ (by rw [← hop]; rfl))
    · rw [if_pos q] at hop
      exact i_t q (em _ (by rw [← hop]; rfl))
  refine r8_sign sg60 r4 (fun v M5 g5 r5 b5 => sLet_i ?_) (fun v M5 g5 r5 b5 => sLet_i ?_)
  · have v' : sgA y n x.1 60 := v
    have gt := sg_gt gx.2.1 v.1
    refine i_f (by decide) ?_
    exact go M5 1 8 pLess g5 r5 gt.2 gt.1 (by decide) (fun D s0 m0 s0' f g q1 q2 q3 q4 q5 q6 => RunP_less q1 q2 q3 q4 q5 q6 (by decide)) (by rw [eP, pB_r ex]; exact iF_t v')
  · have v' : ¬ sgA y n x.1 60 := v
    refine i_t rfl (r8_sign sg62 r5 (fun v2 M6 g6 r6 b6 => ?_) (fun v2 M6 g6 r6 b6 => ?_))
    · have v2' : sgA y n x.1 62 := v2
      have gt := sg_gt gx.2.1 v2.1
      refine i_t (by decide) ?_
      exact go M6 0 9 (fun f g => pLess g f) (g5.trans g6) r6 gt.2 gt.1 (by decide) (fun D s0 m0 s0' f g q1 q2 q3 q4 q5 q6 => RunP_more q1 q2 q3 q4 q5 q6 (by decide)) (by rw [eP, pB_r ex, iF_f v']; exact iF_t v2')
    · have v2' : ¬ sgA y n x.1 62 := v2
      refine i_f (fun u => u rfl) ?_
      exact h0 (tkA y n x.1) (by rw [eP, pB_r ex, iF_f v']; exact iF_f v2') M6 (f14.trans (g5.trans g6).g (Nat.le_refl s)) b6
theorem r8_atomN {y : Nat → Nat} {n : Nat} : ∀ r N, r ≤ 6 → r < N → rcP y n (6 - r) (pAtom y n r) RunP (w_X8_readAtomN N)
  | r, 0, _, h => absurd h (by omega)
  | r, N + 1, hr, h => r8_atom hr (fun r' e => r8_atomN r' N (by omega) (by omega))
