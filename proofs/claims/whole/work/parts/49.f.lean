/-! the class reads the law -/
theorem lsV_b : ∀ (ls : List LN) (w t c : Nat), (∀ l, l ∈ ls → l.1.2 ≤ 99) → ls.length ≤ 12 → -(99 * (ls.length : Int)) ≤ (lsV ls w t c).toInt ∧ (lsV ls w t c).toInt ≤ 99 * (ls.length : Int)
  | [], w, t, c, _, _ => ⟨by show _ ≤ (0 : Int32).toInt; simp, by show (0 : Int32).toInt ≤ _; simp⟩
  | l :: ls, w, t, c, h, hl => by
    have hl' : ls.length + 1 ≤ 12 := hl
    have ih := lsV_b ls w t c (fun x hx => h x (List.mem_cons_of_mem _ hx)) (by omega)
    have h9 := h l List.mem_cons_self
    have lv : -99 ≤ (lnV l w t c).toInt ∧ (lnV l w t c).toInt ≤ 99 := by
      unfold lnV
      by_cases a : l.2 w t c
      · rw [iF_t a]
        by_cases b : l.1.1
        · rw [iF_t b, nI_toInt (by omega)]; omega
        · rw [iF_f b]
          have e : -(nI l.1.2) = nI 0 - nI l.1.2 := by
            show -(nI l.1.2) = 0 - nI l.1.2
            rw [Int32.zero_sub]
          rw [e, pk_sub_toInt (by omega) (by omega)]
          omega
      · rw [iF_f a, Int32.toInt_zero]; omega
    have e : (lsV (l :: ls) w t c).toInt = (lnV l w t c).toInt + (lsV ls w t c).toInt := by
      show (lnV l w t c + lsV ls w t c).toInt = _
      exact sk_addI (by omega) (by omega)
    rw [e]
    show -(99 * ((ls.length + 1 : Nat) : Int)) ≤ _ ∧ _ ≤ 99 * ((ls.length + 1 : Nat) : Int)
    omega
theorem pLawL_b {y : Nat → Nat} {n : Nat} : ∀ k i ls, i ≤ n → (∀ l, l ∈ ls → l.1.2 ≤ 99) → ∀ r, pLawL y n k i ls = .inr r → (∀ l, l ∈ r → l.1.2 ≤ 99) ∧ r.length ≤ ls.length + k
  | 0, i, ls, _, _, r, h => by simp only [pLawL] at h; exact absurd h (by simp)
  | k + 1, i, ls, hi, hl, r, h => by
    have ok := pLawLine_ok (y := y) hi
    cases e : pLawLine y n i with
    | inl a => rw [pLawL_l e] at h; exact absurd h (by simp)
    | inr x =>
      rw [pLawL_r e] at h
      have g := ok.1 x e
      have hl2 : ∀ l, l ∈ ls ++ [x.2] → l.1.2 ≤ 99 := fun l hm => by
        rcases List.mem_append.mp hm with u | u
        · exact hl l u
        · rw [List.mem_singleton.mp u]; exact g.2.2
      by_cases z : tkK y n x.1 = 0
      · rw [iF_t z] at h
        rw [← Sum.inr.inj h]
        refine ⟨hl2, ?_⟩
        rw [List.length_append]
        show ls.length + 1 ≤ _
        omega
      rw [iF_f z] at h
      by_cases v : sgA y n x.1 59
      · rw [iF_t v] at h
        have := pLawL_b k (tkE y n x.1) (ls ++ [x.2]) (sg_gt g.2.1 v.1).2 hl2 r h
        refine ⟨this.1, ?_⟩
        have h2 := this.2
        rw [List.length_append] at h2
        have h3 : r.length ≤ ls.length + 1 + k := h2
        omega
      · rw [iF_f v] at h; exact absurd h (by simp)
theorem pLaw_b {y : Nat → Nat} {n : Nat} {r : List LN} (h : pLaw y n = .inr r) : (∀ l, l ∈ r → l.1.2 ≤ 99) ∧ r.length ≤ 12 := by
  unfold pLaw at h
  by_cases z : tkK y n 0 = 0
  · rw [iF_t z] at h
    rw [← Sum.inr.inj h]
    exact ⟨fun l hl => absurd hl (by simp), by simp⟩
  · rw [iF_f z] at h
    have := pLawL_b 12 0 [] (Nat.zero_le n) (fun l hl => absurd hl (by simp)) r h
    exact ⟨this.1, by have := this.2; simpa using this⟩
theorem c1_read {M : sk_M} {Q : Int32 → sk_M → Prop} {y : Nat → Nat} {n : Nat} (hT : TP M y n)
    (h1 : ∀ ls, pLaw y n = .inr ls → ∀ M', lcF M M' → M'.1 121 5 = -1 → M'.1 126 5 = nI ls.length → (∀ w, w < 3 → ∀ k, k < 36 → M'.1 127 (36 * w + k) = lsV ls w (k / 6) (k % 6)) → Q 1 M') (h0 : ∀ a, pLaw y n = .inl a → ∀ M', lcF M M' → M'.1 121 5 = nI a → Q 0 M') : w_X1_read M Q := by
  have n4 := hT.2.1
  unfold w_X1_read
  refine sLet_i ?_
  have f0 : lcF M (flI M 127 0 108) := ⟨fun x _ _ b _ _ => flI_ne b 108, flI_2 _ _ _ _, by rw [flI_ne (by decide)]⟩
  have tp0 : TP (flI M 127 0 108) y n := ⟨by rw [flI_ne (by decide)]; exact hT.1, n4, fun j hj => by rw [flI_ne (by decide)]; exact hT.2.2 j hj⟩
  obtain ⟨L, hL⟩ : ∃ L, L = 12 := ⟨12, rfl⟩
  have eL : pLaw y n = iF (tkK y n 0 = 0) (.inr []) (pLawL y n L 0 []) := by rw [hL]; rfl
  refine lp_inx (fun w s => s.1 = nI w ∧ lcF M s.2 ∧ TP s.2 y n ∧ (w = 0 ∨ ∃ ls, pLaw y n = .inr ls ∧ s.2.1 121 5 = -1 ∧ s.2.1 126 5 = nI ls.length) ∧ (∀ ls, pLaw y n = .inr ls → ∀ w', w' < w → ∀ k, k < 36 → s.2.1 127 (36 * w' + k) = lsV ls w' (k / 6) (k % 6)) ∧ ∀ k, 36 * w ≤ k → k < 108 → s.2.1 127 k = 0) 3 (by decide) ⟨rfl, f0, tp0, Or.inl rfl, fun _ _ w' hw' => absurd hw' (by omega), fun k _ hk => flI_at 108 hk⟩ (fun w hw s c hI hc => ?_)
  obtain ⟨s1, sM⟩ := s
  obtain ⟨rfl, i1, i2, i3, i4, i5⟩ := hI
  dsimp only at i1 i2 i3 i4 i5
  unfold w_X1_read_L10
  by_cases q : w < 3
  rotate_left
  · refine i_f (fun z => z (nI_le (a := 3) (by omega) (by omega))) ?_
    rcases i3 with i3 | ⟨ls, e1, e2, e3⟩
    · omega
    · exact h1 ls e1 sM i1 e2 e3 (fun w' hw' k hk => i4 ls e1 w' (by omega) k hk)
  refine i_t (nI_ge (b := 3) q (by decide)) (sLet_i ?_)
  dsimp only
  refine ⟨y, n, ⟨by rw [si_c (by decide)]; exact i2.1, n4, fun j hj => by rw [si_c (by decide)]; exact i2.2.2 j hj⟩, fun M9 g9 => ?_⟩
  obtain ⟨g1, g2⟩ := g9
  have c9 : ∀ c, c ≠ 121 → c ≠ 126 → M9.1 c = sM.1 c := fun c hc h6 => by rw [g1.1 c hc, si_c hc, si_c hc, si_c h6]
  have k9 : M9.1 121 1 = sM.1 121 1 := by rw [g1.2.2 1 (by decide) (by decide) (by decide), rd_si, if_neg (by omega), rd_si, if_neg (by omega), si_c (by decide)]
  have w9 : M9.1 121 5 = -1 := by rw [g1.2.2 5 (by decide) (by decide) (by decide), rd_si, if_neg (by omega), rd_si, if_pos ⟨rfl, rfl⟩]
  have m9 : M9.2 = sM.2 := by rw [g1.2.1]; rfl
  have x9 : M9.1 126 4 = nI w := by rw [g1.1 126 (by decide), si_c (by decide), si_c (by decide), rd_si, if_pos ⟨rfl, rfl⟩]
  have t9 : TS M9 y n 0 := ⟨⟨by rw [k9]; exact i2.1, n4, fun j hj => by rw [c9 122 (by decide) (by decide)]; exact i2.2.2 j hj⟩, Nat.zero_le _, g2⟩
  refine sLet_i ?_
  generalize hN : sk_si M9 126 5 (0 : Int32) = N
  have nc : ∀ c, c ≠ 126 → N.1 c = M9.1 c := fun c hc => by rw [← hN, si_c hc]
  have fN : lcF M N := i1.trans ⟨fun x a b _ _ _ => (nc x b).trans (c9 x a b), by rw [← hN]; exact m9, by rw [nc 121 (by decide)]; exact k9⟩
  have tN : TS N y n 0 := TS_cg t9 (nc 121 (by decide)) (nc 122 (by decide))
  have wN : N.1 121 5 = -1 := by rw [nc 121 (by decide)]; exact w9
  have xN : N.1 126 4 = nI w := by rw [← hN, rd_si, if_neg (by omega)]; exact x9
  have lN : N.1 126 5 = nI 0 := by rw [← hN, rd_si, if_pos ⟨rfl, rfl⟩]; rfl
  have rN : N.1 127 = sM.1 127 := by rw [nc 127 (by decide), c9 127 (by decide) (by decide)]
  have kN : N.1 121 2 = nI (tkK y n 0) := tN.2.2.2.1
  rw [kN]
  have k4 := tk_K y n 0
  -- the row of the wheel for the lines read so far
  let RW9 : List LN → sk_M → Prop := fun ls S => (∀ k, k < 36 → S.1 127 (36 * w + k) = lsV ls w (k / 6) (k % 6)) ∧ ∀ q, (q < 36 * w ∨ 36 * w + 36 ≤ q) → S.1 127 q = sM.1 127 q
  have start : RW9 [] N := ⟨fun k hk => by rw [rN, i5 _ (by omega) (by omega)]; rfl, fun q _ => by rw [rN]⟩
  have goS : ∀ more : Int32, ((more = 1 ∧ tkK y n 0 ≠ 0) ∨ (more = 0 ∧ tkK y n 0 = 0)) → lp (w_X1_read_L48 Q (fun s114 : Int32 × sk_M => if (¬ (s114.1 = 0)) then (w_X6_refuse s114.2 (fun r122 M122 => (r122 = 0 ∨ r122 = 1) ∧ Q r122 M122)) else (c ((nI w + (1 : Int32)), s114.2)))) sk_F (more, N) := by
    intro more hm
    refine lp_inx (fun j s => lcF M s.2 ∧ s.2.1 126 4 = nI w ∧ s.2.1 121 5 = -1 ∧ ∃ ls i, TS s.2 y n i ∧ s.2.1 126 5 = nI ls.length ∧ RW9 ls s.2 ∧ ((s.1 = 1 ∧ ls.length = j ∧ pLaw y n = pLawL y n (L - j) i ls) ∨ (s.1 = 0 ∧ pLaw y n = .inr ls))) L (by rw [hL]; decide) ⟨fN, xN, wN, [], 0, tN, lN, start, hm.imp (fun z => ⟨z.1, rfl, by rw [eL, iF_f z.2]; rfl⟩) (fun z => ⟨z.1, by rw [eL, iF_t z.2]⟩)⟩ (fun j hj s c2 hJ hc2 => ?_)
    obtain ⟨s1, tM⟩ := s
    obtain ⟨j1, j2, j3, ls, i, j4, j5, j6, j7⟩ := hJ
    dsimp only at j1 j2 j3 j4 j5 j6 j7
    unfold w_X1_read_L48
    dsimp only
    rw [j5]
    rcases j7 with ⟨rfl, jl, jp⟩ | ⟨rfl, jp⟩
    · by_cases qj : j < L
      · refine i_t ⟨by decide, by rw [jl]; exact nI_ge (b := 12) (by omega) (by decide)⟩ ?_
        rw [show L - j = (L - (j + 1)) + 1 by omega] at jp
        refine c1_line q j2 j4 j3 (fun x ex M3 f3 e126 t3 e3 r3 => ?_) (fun a ea M3 f3 w3 => ?_)
        · rw [pLawL_r ex] at jp
          refine i_f (by decide) (sLet_i ?_)
          have ok := (pLawLine_ok (y := y) j4.2.1).1 x ex
          rw [e126, j5, nI_1]
          generalize hP : sk_si M3 126 5 (nI (ls.length + 1)) = P
          have pc : ∀ c, c ≠ 126 → P.1 c = M3.1 c := fun c hc => by rw [← hP, si_c hc]
          have fP : lcF M P := (j1.trans f3).trans ⟨fun x _ b _ _ _ => pc x b, by rw [← hP]; rfl, by rw [pc 121 (by decide)]⟩
          have tP : TS P y n x.1 := TS_cg t3 (pc 121 (by decide)) (pc 122 (by decide))
          have wP : P.1 121 5 = -1 := by rw [pc 121 (by decide)]; exact e3
          have xP : P.1 126 4 = nI w := by rw [← hP, rd_si, if_neg (by omega), e126]; exact j2
          have lP : P.1 126 5 = nI (ls ++ [x.2]).length := by rw [← hP, rd_si, if_pos ⟨rfl, rfl⟩, List.length_append]; rfl
          have rP : RW9 (ls ++ [x.2]) P := by
            refine ⟨fun k hk => ?_, fun q hq => ?_⟩
            · rw [pc 127 (by decide), r3, if_pos (by omega), j6.1 k hk, lsV_app, show 36 * w + k - 36 * w = k by omega]
            · rw [pc 127 (by decide), r3, if_neg (by omega)]; exact j6.2 q hq
          rw [tP.2.2.2.1]
          have k5 := tk_K y n x.1
          by_cases z : tkK y n x.1 = 0
          · rw [iF_t z] at jp
            rw [if_neg (show ¬ ¬ (nI (tkK y n x.1) = (0 : Int32)) from fun u => u (by rw [z]; rfl))]
            refine sLet_i (i_f (fun u => u rfl) ?_)
            exact hc2 _ qj ⟨fP, xP, wP, ls ++ [x.2], x.1, tP, lP, rP, Or.inr ⟨rfl, jp⟩⟩
          · rw [iF_f z] at jp
            rw [if_pos (show ¬ (nI (tkK y n x.1) = (0 : Int32)) from fun u => z ((nI_eq (b := 0) (by omega) (by decide)).mp u))]
            refine sLet_i (i_t (by decide) (c6_sgn (c := 59) (by decide) tP wP (fun v M4 g4 t4 e4 => ?_) (fun v M4 g4 w4 => ?_)))
            · rw [iF_t (show sgA y n x.1 59 from v)] at jp
              refine i_f (by decide) ?_
              refine hc2 _ qj ⟨fP.trans g4.lw.lc, by show M4.1 126 4 = _; rw [g4.1 126 (by decide)]; exact xP, e4, ls ++ [x.2], tkE y n x.1, t4, by show M4.1 126 5 = _; rw [g4.1 126 (by decide)]; exact lP, ⟨fun k hk => by show M4.1 127 _ = _; rw [g4.1 127 (by decide)]; exact rP.1 k hk, fun q hq => by show M4.1 127 q = _; rw [g4.1 127 (by decide)]; exact rP.2 q hq⟩, Or.inl ⟨rfl, ?_, jp⟩⟩
              rw [List.length_append, jl]
              rfl
            · rw [iF_f (show ¬ sgA y n x.1 59 from v)] at jp
              refine i_t rfl ?_
              exact h0 _ jp M4 (fP.trans g4.lw.lc) w4.2
        · rw [pLawL_l ea] at jp
          refine i_t rfl ?_
          exact h0 a jp M3 (j1.trans f3) w3.2
      · have e : j = L := by omega
        refine i_f (fun u => u.2 (by rw [jl]; exact nI_le (a := 12) (by omega) (by omega))) ?_
        rw [e, Nat.sub_self] at jp
        refine i_t (by decide) (c6_refuse ⟨Or.inl rfl, ?_⟩)
        exact h0 _ jp _ (j1.trans (rf_ok j4).1.lw.lc) (rf_Wr j4 j3).2
    · refine i_f (fun u => u.1 rfl) (i_f (fun u => u rfl) ?_)
      rw [nI_1]
      refine hc _ q ⟨rfl, j1, j4.1, Or.inr ⟨ls, jp, j3, j5⟩, fun ls' hls w' hw' k hk => ?_, fun k hk1 hk2 => ?_⟩
      · have el : ls' = ls := by rw [jp] at hls; exact (Sum.inr.inj hls).symm
        by_cases u : w' = w
        · rw [u, el]; exact j6.1 k hk
        · show tM.1 127 _ = _
          rw [j6.2 _ (by omega)]
          exact i4 ls' hls w' (by omega) k hk
      · show tM.1 127 k = 0
        rw [j6.2 _ (by omega)]
        exact i5 k (by omega) hk2
  by_cases z : tkK y n 0 = 0
  · rw [if_neg (show ¬ ¬ (nI (tkK y n 0) = (0 : Int32)) from fun u => u (by rw [z]; rfl))]
    exact sLet_i (goS 0 (Or.inr ⟨rfl, z⟩))
  · rw [if_pos (show ¬ (nI (tkK y n 0) = (0 : Int32)) from fun u => z ((nI_eq (b := 0) (by omega) (by decide)).mp u))]
    exact sLet_i (goS 1 (Or.inl ⟨rfl, z⟩))
