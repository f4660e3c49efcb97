/-! atoms, by the class -/
theorem c1_whereAny {M : sk_M} {Q : Int64 → Prop} {c0 c1 : Nat} (h : ∀ L, Q L) : w_X1_whereLess c0 c1 M Q := by
  unfold w_X1_whereLess
  refine lp_inv (fun i s => s.2 = nI i) 36 (by decide) rfl (fun i hi s c hI hc => ?_) (fun s c hI => ?_)
  · obtain ⟨s1, s2⟩ := s
    dsimp only at hI
    subst hI
    unfold w_X1_whereLess_L5
    refine i_t (nI_ge hi (by decide)) ⟨vp_in_nI hi (by decide), vp_in_nI hi (by decide), ?_⟩
    dsimp only
    rw [nI_1]
    exact i_b (fun z => sLet_i (hc _ rfl)) (fun z => hc _ rfl)
  · obtain ⟨s1, s2⟩ := s
    dsimp only at hI
    subst hI
    unfold w_X1_whereLess_L5
    exact i_f (nn (n := 36) (by decide)) (h s1)
theorem c1_atom {w : Nat} {y : Nat → Nat} {n r : Nat} {A : Int32 → sk_M → (Int64 → sk_M → Prop) → Prop} (hw : w < 3) (hr : r ≤ 6) (hA : ∀ r', r = r' + 1 → acP w y n (pAtom y n r') (A (nI (6 - r')))) : acP w y n (pAtom y n r) (w_X1_atom A (nI (6 - r))) := by
  intro M i Q ew hT h5 h1 h0
  have n4 := hT.1.2.1
  have hi := hT.2.1
  obtain ⟨N, eN, hN⟩ : ∃ N, pAtom y n r = pAt y n N ∧ ((r = 0 ∧ N = fun i => .inl (tkA y n i)) ∨ ∃ r', r = r' + 1 ∧ N = pNest y n (pAtom y n r')) := by
    cases r with
    | zero => exact ⟨_, rfl, Or.inl ⟨rfl, rfl⟩⟩
    | succ r => exact ⟨_, rfl, Or.inr ⟨r, rfl, rfl⟩⟩
  rw [eN] at h1 h0
  unfold w_X1_atom
  refine c6_is hT (sLet_i ?_)
  have bz : ∀ p : Prop, ¬ p → ¬ ¬ (bI p = 0) := fun p hp w => w (bI_f hp)
  -- nested
  have nest : (isWd y n i 11 ∨ sgA y n i 40) → (if (¬ (nI (6 - r) < (6 : Int32))) then (w_X6_refuse M (fun r36 M36 => Q (0 : Int64) M36)) else (w_X6_step M (fun M46 => if (¬ (bI (isWd y n i 11) = 0)) then (A (nI (6 - r) + (1 : Int32)) M46 (fun r60 M60 => Q ((68719476735 : Int64) &&& (r60 ^^^ (-1 : Int64))) M60)) else (w_X1_condition A (nI (6 - r) + (1 : Int32)) M46 (fun r73 M73 => if ((f_X6_isWrong M73) = 0) then (w_X6_passSign (41 : Int32) M73 (fun r93 M93 => Q r73 M93)) else (Q r73 M73)))))) := by
    intro ho
    have eA : pAt y n N i = N i := by unfold pAt; rw [iF_t ho]
    rw [eA] at h1 h0
    rcases hN with ⟨r0, hN⟩ | ⟨r', r1, hN⟩
    · refine i_t (nI_nlt (b := 6) (by omega) (by omega)) (c6_refuse ?_)
      exact h0 (tkA y n i) (by rw [hN]) _ _ (rf_ok hT).1.lw (rf_Wr hT h5)
    · refine i_f (fun u => u (nI_lt (b := 6) (by omega) (by decide))) (c6_step hT (fun M1 g1 t1 e1 => ?_))
      have hA' := hA r' r1
      have e6 : nI (6 - r) + (1 : Int32) = nI (6 - r') := by rw [nI_1]; congr 1; omega
      rw [e6]
      have ew1 : M1.1 126 4 = nI w := by rw [g1.1 126 (by decide)]; exact ew
      have e15 := e1.trans h5
      by_cases k1 : isWd y n i 11
      · refine i_t (by rw [bI_t k1]; decide) ?_
        have eP : N i = pB (pAtom y n r' (tkE y n i)) (fun x => .inr (x.1, pNot' x.2)) := by rw [hN]; unfold pNest; rw [iF_t k1]
        refine hA' M1 _ _ ew1 t1 e15 (fun x ex M2 L2 f2 t2 e2 bl2 => ?_) (fun a ea M2 L2 f2 w2 => ?_)
        · exact h1 (x.1, pNot' x.2) (by rw [eP, pB_r ex]) M2 _ (g1.lw.trans f2) t2 e2 bl2.not
        · exact h0 a (by rw [eP, pB_l ea]) M2 _ (g1.lw.trans f2) w2
      · refine i_f (bz _ k1) ?_
        have eP : N i = pB (pCond y n (pAtom y n r') (tkE y n i)) (fun x => iF (sgA y n x.1 41) (.inr (tkE y n x.1, x.2)) (.inl (tkA y n x.1))) := by rw [hN]; unfold pNest; rw [iF_f k1]
        have gP := pCond_ok (y := y) (pAtom_ok (y := y) (n := n) r')
        refine c1_condition (pAtom_ok r') hA' M1 _ _ ew1 t1 e15 (fun x ex M2 L2 f2 t2 e2 bl2 => ?_) (fun a ea M2 L2 f2 w2 => ?_)
        · refine i_t (isW_0 e2) (c6_sgn (c := 41) (by decide) t2 e2 (fun v M3 g3 t3 e3 => ?_) (fun v M3 g3 w3 => ?_))
          · exact h1 (tkE y n x.1, x.2) (by rw [eP, pB_r ex]; exact iF_t v) M3 _ ((g1.lw.trans f2).trans g3.lw) t3 e3 bl2
          · exact h0 (tkA y n x.1) (by rw [eP, pB_r ex]; exact iF_f v) M3 _ ((g1.lw.trans f2).trans g3.lw) w3
        · have a4 : a ≤ 400 := Nat.le_trans (gP.2 _ _ t1.2.1 ea) n4
          refine i_f (fun u => ?_) ?_
          · rw [isW_1 (Wr_ne w2 a4)] at u
            exact absurd u (by decide)
          · exact h0 a (by rw [eP, pB_l ea]) M2 _ (g1.lw.trans f2) w2
  by_cases k1 : isWd y n i 11
  · refine i_f (by rw [bI_t k1]; decide) ?_
    exact nest (Or.inl k1)
  refine i_t (bI_f k1) (c6_isSign (c := 40) (by decide) hT ?_)
  by_cases k2 : sgA y n i 40
  · refine i_t (by rw [bI_t (show tkK y n i = 3 ∧ y (tkA y n i) = 40 from k2)]; decide) ?_
    exact nest (Or.inr k2)
  refine i_f (bz _ k2) (c6_is hT (sLet_i ?_))
  have no : ¬ (isWd y n i 11 ∨ sgA y n i 40) := fun u => u.elim k1 k2
  by_cases k3 : isWd y n i 12
  · have eP : pAt y n N i = .inr (tkE y n i, fun _ t c => t = c) := by unfold pAt; rw [iF_f no, iF_t k3]
    refine i_f (by rw [bI_t k3]; decide) (c6_is hT ?_)
    rw [bI_t k3, if_pos (by decide)]
    refine sLet_i (c6_step hT (fun M1 g1 t1 e1 => c1_whereApart (m := 0) (by decide) (fun L bl => ?_)))
    exact h1 _ eP M1 L g1.lw t1 (e1.trans h5) (bl.cg (fun k hk => (apt_8 (k / 6) (by omega) (k % 6) (by omega)).2.2))
  refine i_t (bI_f k3) (c6_is hT ?_)
  by_cases k4 : isWd y n i 13
  · have eP : pAt y n N i = .inr (tkE y n i, fun _ t c => apt t c = 1) := by unfold pAt; rw [iF_f no, iF_f k3, iF_t k4]
    refine i_t (by rw [bI_t k4]; decide) (c6_is hT ?_)
    rw [bI_f k3, if_neg (by decide)]
    refine sLet_i (c6_step hT (fun M1 g1 t1 e1 => c1_whereApart (m := 1) (by decide) (fun L bl => ?_)))
    exact h1 _ eP M1 L g1.lw t1 (e1.trans h5) bl
  refine i_f (bz _ k4) ?_
  have eP : pAt y n N i = pB (pSum y n i) (fun x => iF (sgA y n x.1 60) (pB (pSum y n (tkE y n x.1)) (fun z => .inr (z.1, pLess x.2 z.2))) (iF (sgA y n x.1 62) (pB (pSum y n (tkE y n x.1)) (fun z => .inr (z.1, pLess z.2 x.2))) (.inl (tkA y n x.1)))) := by unfold pAt; rw [iF_f no, iF_f k3, iF_f k4]
  refine c1_sum (c1 := 128) (Or.inl rfl) ew hT h5 (fun x ex M1 f1 t1 e1 r1 => ?_) (fun a ea M1 f1 w1 => ?_)
  rotate_left
  · have a4 : a ≤ 400 := Nat.le_trans (pSum_f hi ea) n4
    obtain ⟨⟨j, t2⟩, w2⟩ := id w1
    refine c6_isSign (c := 60) (by decide) t2 (i_f (fun u => ?_) (c6_refuse ?_))
    · rw [isW_1 (Wr_ne w1 a4)] at u
      exact absurd u (by decide)
    · rw [rf_Wr2 w1 a4]
      exact h0 a (by rw [eP, pB_l ea]) M1 _ (f1.lw (Or.inl rfl)) w1
  have gx := pSum_ok hi ex
  have f1' := f1.lw (Or.inl rfl)
  refine c6_isSign (c := 60) (by decide) t1 (i_t (isW_0 e1) (sLet_i ?_))
  -- behind the sign
  have go : (sgA y n x.1 60 ∨ sgA y n x.1 62) → (∀ z, pSum y n (tkE y n x.1) = .inr z → pAt y n N i = .inr (z.1, iF (sgA y n x.1 60) (pLess x.2 z.2) (pLess z.2 x.2))) → (∀ a, pSum y n (tkE y n x.1) = .inl a → pAt y n N i = .inl a) → w_X6_step M1 (fun M211 => w_X1_sum 129 M211 (fun M219 => if (¬ (bI (tkK y n x.1 = 3 ∧ y (tkA y n x.1) = 60) = 0)) then (w_X1_whereLess 128 129 M219 (fun r234 => Q r234 M219)) else (w_X1_whereLess 129 128 M219 (fun r248 => Q r248 M219)))) := by
    intro hs q1 q0
    refine c6_step t1 (fun M2 g2 t2 e2 => ?_)
    have ew2 : M2.1 126 4 = nI w := by rw [g2.1 126 (by decide), f1.1 126 (by decide) (by decide)]; exact ew
    refine c1_sum (c1 := 129) (Or.inr rfl) ew2 t2 (e2.trans e1) (fun z ez M3 f3 t3 e3 r3 => ?_) (fun a ea M3 f3 w3 => ?_)
    · have gz := pSum_ok t2.2.1 ez
      have fr := (f1'.trans g2.lw).trans (f3.lw (Or.inr rfl))
      have ra : ∀ k, k < 36 → M3.1 128 k = nI (x.2 w (k / 6) (k % 6)) ∧ x.2 w (k / 6) (k % 6) < 2 ^ 31 := fun k hk => ⟨by rw [f3.1 128 (by decide) (by decide), g2.1 128 (by decide)]; exact r1 k hk, by have := gx.2.2 w (k / 6) (k % 6) hw (by omega) (by omega); omega⟩
      have rb : ∀ k, k < 36 → M3.1 129 k = nI (z.2 w (k / 6) (k % 6)) ∧ z.2 w (k / 6) (k % 6) < 2 ^ 31 := fun k hk => ⟨r3 k hk, by have := gz.2.2 w (k / 6) (k % 6) hw (by omega) (by omega); omega⟩
      by_cases v : sgA y n x.1 60
      · refine i_t (by rw [bI_t (show tkK y n x.1 = 3 ∧ y (tkA y n x.1) = 60 from v)]; decide) (c1_whereLess ra rb (fun L bl => ?_))
        have q := q1 z ez
        rw [iF_t v] at q
        exact h1 _ q M3 L fr t3 e3 bl
      · refine i_f (bz _ v) (c1_whereLess rb ra (fun L bl => ?_))
        have q := q1 z ez
        rw [iF_f v] at q
        exact h1 _ q M3 L fr t3 e3 bl
    · have fr := (f1'.trans g2.lw).trans (f3.lw (Or.inr rfl))
      have q := q0 a ea
      exact i_b (fun _ => c1_whereAny (fun L => h0 a q M3 L fr w3)) (fun _ => c1_whereAny (fun L => h0 a q M3 L fr w3))
  by_cases v : sgA y n x.1 60
  · refine i_f (by rw [bI_t (show tkK y n x.1 = 3 ∧ y (tkA y n x.1) = 60 from v)]; decide) ?_
    refine go (Or.inl v) (fun z ez => ?_) (fun a ea => ?_)
    · rw [eP, pB_r ex, iF_t v, pB_r ez, iF_t v]
    · rw [eP, pB_r ex, iF_t v, pB_l ea]
  refine i_t (bI_f v) (c6_isSign (c := 62) (by decide) t1 ?_)
  by_cases v2 : sgA y n x.1 62
  · refine i_f (by rw [bI_t (show tkK y n x.1 = 3 ∧ y (tkA y n x.1) = 62 from v2)]; decide) ?_
    refine go (Or.inr v2) (fun z ez => ?_) (fun a ea => ?_)
    · rw [eP, pB_r ex, iF_f v, iF_t v2, pB_r ez, iF_f v]
    · rw [eP, pB_r ex, iF_f v, iF_t v2, pB_l ea]
  · refine i_t (bI_f v2) (c6_refuse ?_)
    exact h0 (tkA y n x.1) (by rw [eP, pB_r ex, iF_f v, iF_f v2]) _ _ (f1'.trans (rf_ok t1).1.lw) (rf_Wr t1 e1)
theorem c1_atomN {w : Nat} {y : Nat → Nat} {n : Nat} (hw : w < 3) : ∀ r N, r ≤ 6 → r < N → acP w y n (pAtom y n r) (w_X1_atomN N (nI (6 - r)))
  | r, 0, _, h => absurd h (by omega)
  | r, N + 1, hr, h => c1_atom hw hr (fun r' e => c1_atomN hw r' N (by omega) (by omega))
