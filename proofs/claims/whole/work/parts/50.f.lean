/-! the reference reads the law -/
theorem hdG {M : sk_M} {m s k : Nat} {x : Int32} (hm : m < 12) (hk : 1412 + 4 * m ≤ k) (hk2 : k < 1460) : ldG M (sk_si M 141 k x) m s := ⟨fun c _ a => si_c a, rfl, fun j _ _ _ _ => by rw [si_c (by decide)], fun j hj => by rw [rd_si, if_neg (by omega)], fun j j1 _ => by rw [rd_si, if_neg (by omega)]⟩
theorem dpL {M : sk_M} {m s : Nat} {x : Int32} : ldG M (sk_si M 140 18 x) m s := ⟨fun c a _ => si_c a, rfl, fun k _ _ a _ => by rw [rd_si, if_neg (fun z => a z.2)], fun k _ => by rw [si_c (by decide)], fun k _ _ => by rw [si_c (by decide)]⟩
theorem r8_lawLine {M : sk_M} {Q : Int32 → sk_M → Prop} {y : Nat → Nat} {n i m s : Nat} (hm : m < 12) (hw : RW M y n i) (es : M.1 140 21 = nI s) (hs : s ≤ i)
    (h1 : ∀ x, pLawLine y n i = .inr x → ∀ M' s', ldG M M' m s → RI M' y n x.1 → M'.1 140 21 = nI s' → s ≤ s' → s' ≤ x.1 → LnOK (dft M') m s' x.2 → Q 1 M') (h0 : ∀ a, pLawLine y n i = .inl a → ∀ M', ldG M M' m s → M'.1 140 17 = nI a → Q 0 M') : w_X8_readLawLine (nI m) M Q := by
  have hi := hw.1
  have n4 := hw.2.1.2.1
  unfold w_X8_readLawLine
  have i1 : (1412 : Int32) + (4 : Int32) * nI m = nI (1412 + 4 * m) := by
    show nI 1412 + nI 4 * nI m = _
    rw [pk_mul, nI_add]
  rw [i1]
  refine sLet_i (r8_isWord (by decide) hw (sLet_i ?_))
  have j1 : nI (1412 + 4 * m) + (1 : Int32) = nI (1412 + 4 * m + 1) := nI_add _ 1
  have j2 : nI (1412 + 4 * m) + (2 : Int32) = nI (1412 + 4 * m + 2) := nI_add _ 2
  have j3 : nI (1412 + 4 * m) + (3 : Int32) = nI (1412 + 4 * m + 3) := nI_add _ 3
  rw [j1, j2, j3]
  rw [nI_clamp (show 1412 + 4 * m < 2 ^ 31 by omega), nI_clamp (show 1412 + 4 * m + 1 < 2 ^ 31 by omega), nI_clamp (show 1412 + 4 * m + 2 < 2 ^ 31 by omega), nI_clamp (show 1412 + 4 * m + 3 < 2 ^ 31 by omega)]
  have vi : ∀ d, d < 4 → vp_in (nI (1412 + 4 * m + d)) 2260 := fun d hd => vp_in_nI (by omega) (by decide)
  by_cases k1 : isWd y n i 9 ∨ isWd y n i 8
  rotate_left
  · refine i_t (bI_f (fun u => k1 (Or.inr u))) (r8_isWord (by decide) hw (i_t (bI_f (fun u => k1 (Or.inl u))) ?_))
    exact h0 _ (by unfold pLawLine; rw [iF_f k1]) M ldG.refl hw.2.2
  have hri : RI M y n (tkE y n i) := k1.elim (fun u => hw.E u) (fun u => hw.E u)
  have g1 : i < tkE y n i ∧ tkE y n i ≤ n := k1.elim (fun u => wd_gt hi u) (fun u => wd_gt hi u)
  have sgE : (if (¬ (bI (isWd y n i 8) = 0)) then (1 : Int32) else (-1 : Int32)) = iF (isWd y n i 8) 1 (-1) := by
    by_cases v : isWd y n i 8
    · rw [if_pos (bI_n.mpr v), iF_t v]
    · rw [if_neg (fun u => v (bI_n.mp u)), iF_f v]
  have run : sLet (if (¬ (bI (isWd y n i 8) = 0)) then (1 : Int32) else (-1 : Int32) : Int32) fun s46_38 => vp_in (nI (1412 + 4 * m)) 2260 ∧ sLet (sk_si M 141 (1412 + 4 * m) s46_38) fun M46 => w_X8_number (0 : Int32) (99 : Int32) M46 (fun r58 M58 => vp_in (nI (1412 + 4 * m + 1)) 2260 ∧ sLet (sk_si M58 141 (1412 + 4 * m + 1) r58) fun M61 => vp_in (nI (1412 + 4 * m + 1)) 2260 ∧ if (¬ (0 ≤ (M61.1 141 (1412 + 4 * m + 1)))) then (Q (0 : Int32) M61) else (vp_in (nI (1412 + 4 * m + 2)) 2260 ∧ sLet (sk_si M61 141 (1412 + 4 * m + 2) (M61.1 140 21)) fun M86 => sLet (sk_si M86 140 18 (0 : Int32)) fun M89 => w_X8_passes 10 M89 (fun r96 M96 => sLet (fun s111_99 : sk_M => vp_in (nI (1412 + 4 * m + 3)) 2260 ∧ sLet (sk_si s111_99 141 (1412 + 4 * m + 3) (s111_99.1 140 21)) fun M122 => Q (1 : Int32) M122) fun j111_99 => if (¬ (r96 = 0)) then (w_X8_readCond (w_X8_readAtomN 8) M96 (fun r103 M103 => if (r103 = 0) then (Q (0 : Int32) M103) else (j111_99 M103))) else (j111_99 M96)))) := by
    rw [sgE]
    refine sLet_i ⟨vi 0 (by decide), sLet_i ?_⟩
    generalize hA : sk_si M 141 (1412 + 4 * m) (iF (isWd y n i 8) 1 (-1)) = A
    have fA : ldG M A m s := by rw [← hA]; exact hdG hm (by omega) (by omega)
    have rA : RI A y n (tkE y n i) := by rw [← hA]; exact hri.st
    have a0 : A.1 141 (1412 + 4 * m) = iF (isWd y n i 8) 1 (-1) := by rw [← hA, rd_si, if_pos ⟨rfl, rfl⟩]
    have esA : A.1 140 21 = nI s := by rw [← hA, si_c (by decide)]; exact es
    refine r8_number (hi := 99) rA (fun k2 B gB rB bB => ⟨vi 1 (by decide), sLet_i ⟨vi 1 (by decide), ?_⟩⟩) (fun k2 B gB _ bB => ⟨vi 1 (by decide), sLet_i ⟨vi 1 (by decide), ?_⟩⟩)
    rotate_left
    · have k2' : ¬ (isNu y n (tkE y n i) ∧ nuV y n (tkE y n i) ≤ 99) := fun u => k2 ⟨u.1, (le_N (nuV_lt g1.2 u.1) (by decide)).mpr u.2⟩
      have er : (sk_si B 141 (1412 + 4 * m + 1) (-1)).1 141 (1412 + 4 * m + 1) = -1 := by rw [rd_si, if_pos ⟨rfl, rfl⟩]
      rw [er]
      refine i_t m1_n0 ?_
      exact h0 _ (by unfold pLawLine; rw [iF_t k1, iF_f k2']) _ ((fA.trans gB.ld (Nat.le_refl _) (Nat.le_refl _)).trans (hdG hm (by omega) (by omega)) (Nat.le_refl _) (Nat.le_refl _)) (by rw [si_c (by decide)]; exact bB)
    have v2 := nuV_lt g1.2 k2.1
    have k2' : isNu y n (tkE y n i) ∧ nuV y n (tkE y n i) ≤ 99 := ⟨k2.1, (le_N v2 (by decide)).mp k2.2⟩
    have g2 := nu_gt g1.2 k2.1
    have er : (sk_si B 141 (1412 + 4 * m + 1) (nI (nuV y n (tkE y n i)))).1 141 (1412 + 4 * m + 1) = nI (nuV y n (tkE y n i)) := by rw [rd_si, if_pos ⟨rfl, rfl⟩]
    rw [er]
    refine i_f (fun u => u (p0 (by omega))) ⟨vi 2 (by decide), sLet_i (sLet_i ?_)⟩
    have esC : (sk_si B 141 (1412 + 4 * m + 1) (nI (nuV y n (tkE y n i)))).1 140 21 = nI s := by rw [si_c (by decide), gB.2.2 21 (by decide) (by decide)]; exact esA
    rw [esC]
    generalize hC : sk_si (sk_si (sk_si B 141 (1412 + 4 * m + 1) (nI (nuV y n (tkE y n i)))) 141 (1412 + 4 * m + 2) (nI s)) 140 18 0 = C
    have fC : ldG M C m s := by
      rw [← hC]
      exact (((fA.trans gB.ld (Nat.le_refl _) (Nat.le_refl _)).trans (hdG hm (by omega) (by omega)) (Nat.le_refl _) (Nat.le_refl _)).trans (hdG hm (by omega) (by omega)) (Nat.le_refl _) (Nat.le_refl _)).trans dpL (Nat.le_refl _) (Nat.le_refl _)
    have rC : RI C y n (tkE y n (tkE y n i)) := by rw [← hC]; exact rB.st.st.dp
    have cC : ∀ k, C.1 141 k = if k = 1412 + 4 * m + 2 then nI s else if k = 1412 + 4 * m + 1 then nI (nuV y n (tkE y n i)) else A.1 141 k := fun k => by
      rw [← hC, si_c (by decide), rd_si]
      by_cases u : k = 1412 + 4 * m + 2
      · rw [if_pos ⟨rfl, u⟩, if_pos u]
      · rw [if_neg (fun z => u z.2), if_neg u, rd_si]
        by_cases v : k = 1412 + 4 * m + 1
        · rw [if_pos ⟨rfl, v⟩, if_pos v]
        · rw [if_neg (fun z => v z.2), if_neg v, gB.1 141 (by decide)]
    have c0 : C.1 141 (1412 + 4 * m) = iF (isWd y n i 8) 1 (-1) := by rw [cC, if_neg (by omega), if_neg (by omega)]; exact a0
    have c1 : C.1 141 (1412 + 4 * m + 1) = nI (nuV y n (tkE y n i)) := by rw [cC, if_neg (by omega), if_pos rfl]
    have c2 : C.1 141 (1412 + 4 * m + 2) = nI s := by rw [cC, if_pos rfl]
    have esC2 : C.1 140 21 = nI s := by rw [← hC, rd_si, if_neg (by omega), si_c (by decide)]; exact esC
    have edC : C.1 140 18 = nI 0 := by rw [← hC, rd_si, if_pos ⟨rfl, rfl⟩]; rfl
    -- what ends a line
    have fin : ∀ (E : sk_M) (j s' : Nat) (φ : FP), ldG M E m s → RI E y n j → E.1 140 21 = nI s' → s ≤ s' → s' ≤ j → E.1 141 (1412 + 4 * m) = iF (isWd y n i 8) 1 (-1) → E.1 141 (1412 + 4 * m + 1) = nI (nuV y n (tkE y n i)) → E.1 141 (1412 + 4 * m + 2) = nI s → ((s = s' ∧ ∀ w t c, w < 3 → t < 6 → c < 6 → φ w t c) ∨ RunP (dft E) s s' φ) → pLawLine y n i = .inr (j, ((isWd y n i 8, nuV y n (tkE y n i)), φ)) → vp_in (nI (1412 + 4 * m + 3)) 2260 ∧ sLet (sk_si E 141 (1412 + 4 * m + 3) (E.1 140 21)) fun M122 => Q (1 : Int32) M122 := by
      intro E j s' φ fE rE eE l1 l2 q0 q1 q2 hrun eq
      have hjn := rE.le.1
      refine ⟨vi 3 (by decide), sLet_i ?_⟩
      rw [eE]
      refine h1 _ eq _ s' (fE.trans (hdG hm (by omega) (by omega)) (Nat.le_refl _) (Nat.le_refl _)) rE.st (by rw [si_c (by decide)]; exact eE) l1 l2 ⟨?_, ?_, s, s', ?_, ?_, by omega, Nat.le_refl _, hrun.imp id (fun r => ?_)⟩
      · show (sk_si E 141 (1412 + 4 * m + 3) (nI s')).1 141 _ = _
        rw [rd_si, if_neg (by omega), show 1411 + (1 + 4 * m) = 1412 + 4 * m by omega]
        exact q0
      · show (sk_si E 141 (1412 + 4 * m + 3) (nI s')).1 141 _ = _
        rw [rd_si, if_neg (by omega), show 1411 + (2 + 4 * m) = 1412 + 4 * m + 1 by omega]
        exact q1
      · show (sk_si E 141 (1412 + 4 * m + 3) (nI s')).1 141 _ = _
        rw [rd_si, if_neg (by omega), show 1411 + (3 + 4 * m) = 1412 + 4 * m + 2 by omega]
        exact q2
      · show (sk_si E 141 (1412 + 4 * m + 3) (nI s')).1 141 _ = _
        rw [rd_si, if_pos ⟨rfl, by omega⟩]
      · exact Run.cg r (fun k k1 k2 => by unfold dft; rw [rd_si, if_neg (by omega)]) (fun _ _ _ _ _ _ => rfl)
    refine r8_passes (j := 10) (by decide) rC (fun k3 E gE rE bE => sLet_i ?_) (fun k3 E gE rE bE => sLet_i ?_)
    · refine i_t (by decide) ?_
      have g3 := wd_gt g2.2 k3
      have eP : pLawLine y n i = pB (pCond y n (pAtom y n 6) (tkE y n (tkE y n (tkE y n i)))) (fun x => .inr (x.1, ((isWd y n i 8, nuV y n (tkE y n i)), x.2))) := by unfold pLawLine; rw [iF_t k1, iF_t k2', iF_t k3]
      have hA9 := r8_atomN (y := y) (n := n) 6 8 (by omega) (by omega)
      refine r8_cond (pAtom_ok 6) hA9 E _ s _ rE (by rw [gE.2.2 21 (by decide) (by decide)]; exact esC2) (by rw [gE.2.2 18 (by decide) (by decide)]; exact edC) (by omega) (fun x ex E2 s2 f2 r2 e2 d2 l2 b2 run2 => ?_) (fun a ea E2 f2 e2 => ?_)
      · refine i_f (by decide) ?_
        have gx := (pCond_ok (y := y) (pAtom_ok (y := y) (n := n) 6)).1 _ _ g3.2 ex
        have w2 : ∀ k, k < 1460 + 2 * s → E2.1 141 k = C.1 141 k := fun k hk => by rw [f2.2.2.2 k hk, gE.1 141 (by decide)]
        exact fin E2 x.1 s2 x.2 ((fC.trans gE.ld (Nat.le_refl _) (Nat.le_refl _)).trans (f2.ld hm) (Nat.le_refl _) (Nat.le_refl _)) r2 e2 (by omega) (by omega) (by rw [w2 _ (by omega)]; exact c0) (by rw [w2 _ (by omega)]; exact c1) (by rw [w2 _ (by omega)]; exact c2) (Or.inr run2) (by rw [eP, pB_r ex])
      · exact i_t rfl (h0 a (by rw [eP, pB_l ea]) E2 ((fC.trans gE.ld (Nat.le_refl _) (Nat.le_refl _)).trans (f2.ld hm) (Nat.le_refl _) (Nat.le_refl _)) e2)
    · refine i_f (fun u => u rfl) ?_
      have w2 : E.1 141 = C.1 141 := gE.1 141 (by decide)
      exact fin E _ s (fun _ _ _ => True) (fC.trans gE.ld (Nat.le_refl _) (Nat.le_refl _)) rE (by rw [gE.2.2 21 (by decide) (by decide)]; exact esC2) (Nat.le_refl _) (by omega) (by rw [w2]; exact c0) (by rw [w2]; exact c1) (by rw [w2]; exact c2) (Or.inl ⟨rfl, fun _ _ _ _ _ _ => trivial⟩) (by unfold pLawLine; rw [iF_t k1, iF_t k2', iF_f k3])
  by_cases v : isWd y n i 8
  · refine i_f (by rw [bI_t v]; decide) ?_
    exact run
  · refine i_t (bI_f v) (r8_isWord (by decide) hw (i_f (by rw [bI_t (k1.resolve_right v)]; decide) ?_))
    exact run
theorem r8_lawAll {M : sk_M} {Q : Int32 → sk_M → Prop} {y : Nat → Nat} {n : Nat} (hn : n ≤ 400) (e14 : M.1 140 14 = nI n) (e151 : ∀ j, j < n → M.1 151 j = sgn8 (y j) ∧ y j < 256)
    (h1 : ∀ ls, pLaw y n = .inr ls → ls.length ≤ 12 → ∀ M' S, S ≤ 400 → ldG (sk_si (sk_si (sk_si (sk_si (sk_si M 140 0 0) 140 16 (nI n)) 140 14 0) 140 15 0) 140 21 0) M' 0 0 → LsOK (dft M') S ls → Q (nI ls.length) M') (h0 : ∀ a, pLaw y n = .inl a → ∀ M', ldG (sk_si (sk_si (sk_si (sk_si (sk_si M 140 0 0) 140 16 (nI n)) 140 14 0) 140 15 0) 140 21 0) M' 0 0 → M'.1 140 17 = nI a → Q (-1) M') : w_X8_readAll (0 : Int32) M Q := by
  unfold w_X8_readAll w_X8_uses
  refine sLet_i (sLet_i (sLet_i (sLet_i (sLet_i ?_))))
  have e14' : (sk_si M 140 0 0).1 140 14 = nI n := by rw [rd_si, if_neg (by omega)]; exact e14
  rw [e14']
  generalize hN : sk_si (sk_si (sk_si (sk_si (sk_si M 140 0 0) 140 16 (nI n)) 140 14 0) 140 15 0) 140 21 0 = N at h1 h0 ⊢
  have c1 : ∀ c, c ≠ 140 → N.1 c = M.1 c := fun c hc => by rw [← hN, si_c hc, si_c hc, si_c hc, si_c hc, si_c hc]
  have r0 : RT N y n 0 := ⟨by rw [← hN, rd_si, if_neg (by omega), rd_si, if_neg (by omega), rd_si, if_neg (by omega), rd_si, if_pos ⟨rfl, rfl⟩], hn, fun j hj => by rw [c1 151 (by decide)]; exact e151 j hj, by rw [← hN, rd_si, if_neg (by omega), rd_si, if_pos ⟨rfl, rfl⟩]; rfl, Nat.zero_le _⟩
  have s0 : N.1 140 21 = nI 0 := by rw [← hN, rd_si, if_pos ⟨rfl, rfl⟩]; rfl
  refine r8_blanks (RI.of r0) (fun M1 g1 r1 b1 => ?_)
  rw [r1.2.2.2.1, r1.1]
  have a1 := (tkA_le (y := y) (n := n) (Nat.zero_le n)).2
  obtain ⟨L, hL⟩ : ∃ L, L = 12 := ⟨12, rfl⟩
  have eL : pLaw y n = iF (tkK y n 0 = 0) (.inr []) (pLawL y n L 0 []) := by rw [hL]; rfl
  by_cases z : tkK y n 0 = 0
  · have e := (tk_end (Nat.zero_le n)).mpr z
    refine i_t (by rw [e]) ?_
    exact h1 [] (by rw [eL, iF_t z]) (by simp) M1 0 (by omega) g1.ld (fun m hm => absurd hm (by simp))
  have z2 : tkA y n 0 ≠ n := fun u => z ((tk_end (Nat.zero_le n)).mp u)
  refine i_f (fun u => z2 ((nI_eq (by omega) (by omega)).mp u)) ?_
  rw [iF_f z] at eL
  have ri1 : RI M1 y n 0 := ⟨_, r1, tkA_id (Nat.zero_le n), Nat.zero_le n⟩
  refine lp_inx (fun j s => s.1 = nI j ∧ ∃ i ls S, ldG N s.2 0 0 ∧ RI s.2 y n i ∧ s.2.1 140 21 = nI S ∧ S ≤ i ∧ ls.length = j ∧ LsOK (dft s.2) S ls ∧ pLaw y n = pLawL y n (L - j) i ls) L (by rw [hL]; decide) ⟨rfl, 0, [], 0, g1.ld, ri1, by show M1.1 140 21 = _; rw [g1.2.2 21 (by decide) (by decide)]; exact s0, Nat.le_refl _, rfl, fun m hm => absurd hm (by simp), eL⟩ (fun j hj s c hI hc => ?_)
  obtain ⟨s1, sM⟩ := s
  obtain ⟨rfl, i, ls, S, q1, q2, q3, q4, q5, q6, q7⟩ := hI
  dsimp only at q1 q2 q3 q6
  unfold w_X8_readAll_L28 w_X8_readLine
  refine r8_letters q2 (fun M2 g2 w2 => sLet_i ?_)
  rw [if_neg (show ¬ ¬ ((0 : Int32) = 0) from fun u => u rfl)]
  dsimp only
  have q1' : ldG N M2 0 0 := q1.trans g2.ld (Nat.le_refl _) (Nat.le_refl _)
  by_cases q : j < L
  · refine i_t (nI_ge (b := 12) (by omega) (by decide)) (i_f (fun u => u rfl) ?_)
    rw [show L - j = (L - (j + 1)) + 1 by omega] at q7
    refine r8_lawLine (m := j) (s := S) (by omega) w2 (by rw [g2.2.2 21 (by decide) (by decide)]; exact q3) q4 (fun x ex M3 s3 f3 r3 e3 l3 b3 ok3 => ?_) (fun a ea M3 f3 e3 => ?_)
    · have p3 := r3.le.1
      rw [pLawL_r ex] at q7
      refine i_t (by decide) (i_f (by decide) (r8_blanks r3 (fun M4 g4 r4 b4 => ?_)))
      have f4 : ldG N M4 0 0 := (q1'.trans f3 (Nat.zero_le _) (Nat.zero_le _)).trans g4.ld (Nat.le_refl _) (Nat.le_refl _)
      have al := (tkA_le (y := y) p3).2
      have lok : ∀ (M5 : sk_M), rtF M3 M5 → LsOK (dft M5) s3 (ls ++ [x.2]) := fun M5 g5 => by
        intro m hm
        rw [List.length_append] at hm
        have hm' : m < ls.length + 1 := hm
        by_cases u : m < ls.length
        · rw [List.getElem_append_left u]
          have h2 := (q6 m u).mv (M' := M2) (g2.ld (m := j) (s := S)) (by omega) (Nat.le_refl S)
          exact (h2.mv f3 (by omega) l3).mv (g5.ld (m := j) (s := s3)) (by omega) (Nat.le_refl _)
        · have em : m = ls.length := by omega
          subst em
          rw [List.getElem_append_right (Nat.le_refl _)]
          simp only [Nat.sub_self, List.getElem_cons_zero]
          have h3 : LnOK (dft M3) ls.length s3 x.2 := by rw [q5]; exact ok3
          exact h3.mv (g5.ld (m := ls.length + 1) (s := s3)) (by omega) (Nat.le_refl _)
      rw [r4.2.2.2.1, r4.1]
      by_cases u : tkK y n x.1 = 0
      · rw [iF_t u] at q7
        have e := (tk_end p3).mpr u
        refine i_t (by rw [e]) ?_
        rw [nI_1]
        have := h1 (ls ++ [x.2]) q7 (by rw [List.length_append, q5]; show j + 1 ≤ 12; omega) M4 s3 (by omega) f4 (lok M4 g4)
        rw [List.length_append, q5] at this
        exact this
      rw [iF_f u] at q7
      have u2 : tkA y n x.1 ≠ n := fun v => u ((tk_end p3).mp v)
      refine i_f (fun v => u2 ((nI_eq (by omega) (by omega)).mp v)) ?_
      refine s8_isAt (lo := 59) (hi := 59) r4 (by decide) (by decide) ?_
      rw [bI_cg (sg_iff (c := 59) ⟨by decide, by decide, by decide, by decide⟩)]
      by_cases v : sgA y n x.1 59
      · rw [iF_t v] at q7
        refine i_f (by rw [bI_t (show tkK y n x.1 = 3 ∧ y (tkA y n x.1) = 59 from v)]; decide) (sLet_i ?_)
        have ee := (tk_le (y := y) p3).2.2.2.2.2 v.1
        have el := (tk_le (y := y) p3).2.2.1
        have gv := sg_gt p3 v.1
        rw [nI_1, nI_1, ← ee]
        refine hc _ q ⟨rfl, tkE y n x.1, ls ++ [x.2], s3, f4.trans (rtF.p).ld (Nat.le_refl _) (Nat.le_refl _), RI.of (r4.mv el), ?_, by omega, by rw [List.length_append, q5]; rfl, lok _ (g4.trans rtF.p), q7⟩
        show (sk_si M4 140 15 (nI (tkE y n x.1))).1 140 21 = _
        rw [rd_si, if_neg (by omega), g4.2.2 21 (by decide) (by decide)]
        exact e3
      · rw [iF_f v] at q7
        refine i_t (bI_f v) ?_
        exact h0 _ q7 M4 f4 b4
    · rw [pLawL_l ea] at q7
      refine i_f (fun v => v rfl) (i_t rfl ?_)
      exact h0 a q7 M3 (q1'.trans f3 (Nat.zero_le _) (Nat.zero_le _)) e3
  · have e : j = L := by omega
    rw [e, Nat.sub_self] at q7
    refine i_f (fun v => v (nI_le (a := 12) (by omega) (by omega))) (i_t rfl ?_)
    exact h0 _ q7 M2 q1' w2.2.2
