/-! sums, by the class -/
def fB (f : FN) (b : Nat) : Prop := ∀ w t c, w < 3 → t < 6 → c < 6 → f w t c ≤ b
theorem pPart_b {y : Nat → Nat} {n i : Nat} {x : Nat × FN} (hi : i ≤ n) (h : pPart y n i = .inr x) : fB x.2 999 := by
  unfold pPart at h
  intro w t c hw ht hc
  by_cases k1 : isWd y n i 15
  · rw [iF_t k1] at h; rw [← Sum.inr.inj h]; show t ≤ 999; omega
  by_cases k2 : isWd y n i 16
  · rw [iF_f k1, iF_t k2] at h; rw [← Sum.inr.inj h]; show c ≤ 999; omega
  by_cases k3 : isWd y n i 17
  · rw [iF_f k1, iF_f k2, iF_t k3] at h; rw [← Sum.inr.inj h]
    have := (apt_8 t ht c hc).2.1
    show apt t c ≤ 999
    omega
  by_cases k4 : isWd y n i 14
  · rw [iF_f k1, iF_f k2, iF_f k3, iF_t k4] at h; rw [← Sum.inr.inj h]; show w ≤ 999; omega
  by_cases k5 : isNu y n i ∧ nuV y n i ≤ 999
  · rw [iF_f k1, iF_f k2, iF_f k3, iF_f k4, iF_t k5] at h; rw [← Sum.inr.inj h]; exact k5.2
  · rw [iF_f k1, iF_f k2, iF_f k3, iF_f k4, iF_f k5] at h; exact absurd h (by simp)
theorem pSumL_ok {y : Nat → Nat} {n : Nat} : ∀ k i f, i ≤ n → fB f (999 * i) → ∀ x, pSumL y n k i f = .inr x → i ≤ x.1 ∧ x.1 ≤ n ∧ fB x.2 (999 * x.1)
  | 0, i, f, _, _, x, h => by simp only [pSumL] at h; exact absurd h (by simp)
  | k + 1, i, f, hi, hf, x, h => by
    by_cases z : sgA y n i 43
    · rw [pSumL_y z] at h
      have g1 := sg_gt hi z.1
      cases e : pPart y n (tkE y n i) with
      | inl a => rw [pB_l e] at h; exact absurd h (by simp)
      | inr u =>
        rw [pB_r e] at h
        have g2 := pPart_ok g1.2 e
        have g3 := pPart_b g1.2 e
        have := pSumL_ok k u.1 (fadd f u.2) g2.2 (fun w t c hw ht hc => by
          have h1 := hf w t c hw ht hc
          have h2 := g3 w t c hw ht hc
          show f w t c + u.2 w t c ≤ _
          omega) x h
        exact ⟨by omega, this.2⟩
    · rw [pSumL_n z] at h
      rw [← Sum.inr.inj h]
      exact ⟨Nat.le_refl _, hi, hf⟩
theorem pSum_ok {y : Nat → Nat} {n i : Nat} {x : Nat × FN} (hi : i ≤ n) (h : pSum y n i = .inr x) : i < x.1 ∧ x.1 ≤ n ∧ fB x.2 (999 * x.1) := by
  unfold pSum at h
  cases e : pPart y n i with
  | inl a => rw [pB_l e] at h; exact absurd h (by simp)
  | inr u =>
    rw [pB_r e] at h
    have g2 := pPart_ok hi e
    have g3 := pPart_b hi e
    have := pSumL_ok _ u.1 u.2 g2.2 (fun w t c hw ht hc => Nat.le_trans (g3 w t c hw ht hc) (by omega)) x h
    exact ⟨by omega, this.2⟩
theorem flI_out {M : sk_M} {c i : Nat} {v : Int32} : ∀ n, n ≤ i → (flI M c v n).1 c i = M.1 c i
  | 0, _ => rfl
  | n + 1, h => by
    rw [flI, rd_si, if_neg (by omega)]
    exact flI_out n (by omega)
/-- only the Tape and the row c -/
def smF (c : Nat) (M M' : sk_M) : Prop := (∀ x, x ≠ 121 → x ≠ c → M'.1 x = M.1 x) ∧ M'.2 = M.2 ∧ M'.1 121 1 = M.1 121 1
theorem smF.refl {c : Nat} {M : sk_M} : smF c M M := ⟨fun _ _ _ => rfl, rfl, rfl⟩
theorem smF.trans {c : Nat} {A B C : sk_M} (h : smF c A B) (g : smF c B C) : smF c A C := ⟨fun x a b => (g.1 x a b).trans (h.1 x a b), g.2.1.trans h.2.1, g.2.2.trans h.2.2⟩
theorem tgF.sm {c : Nat} {A B : sk_M} (h : tgF A B) : smF c A B := ⟨fun x a _ => h.1 x a, h.2.1, h.2.2⟩
theorem smF.si {c : Nat} {M : sk_M} {i : Nat} {v : Int32} (hc : c ≠ 121) : smF c M (sk_si M c i v) := ⟨fun _ _ b => si_c b, rfl, by rw [si_c (fun z => hc z.symm)]⟩
theorem TS_sm {c : Nat} {M : sk_M} {y : Nat → Nat} {n i j : Nat} {v : Int32} (hc : c ≠ 121) (hc2 : c ≠ 122) (h : TS M y n i) : TS (sk_si M c j v) y n i := TS_cg h (si_c (fun z => hc z.symm)) (si_c (fun z => hc2 z.symm))
/-- what one part adds -/
theorem c1_adds {M : sk_M} {K : sk_M → Prop} {c1 : Nat} {r24 r34 r45 x : Int32} {s : Int32 × sk_M} {d : Nat → Int32} (hc : c1 ≠ 121) (hs : s.1 = x) (hd : ∀ k, k < 36 → d k = (if ¬ (r24 = 0) then nI (k / 6) else if ¬ (r34 = 0) then nI (k % 6) else if ¬ (r45 = 0) then nI (apt (k / 6) (k % 6)) else x))
    (h : ∀ M', smF c1 M M' → (∀ k, M'.1 121 k = M.1 121 k) → (∀ k, k < 36 → M'.1 c1 k = M.1 c1 k + d k) → K M') : lp (w_X1_sum_L107 c1 r24 r34 r45 s K) sk_F ((0 : Int32), M) := by
  refine lp_inv (fun i q => q.1 = nI i ∧ smF c1 M q.2 ∧ (∀ k, q.2.1 121 k = M.1 121 k) ∧ ∀ k, k < 36 → q.2.1 c1 k = if k < i then M.1 c1 k + d k else M.1 c1 k) 36 (by decide) ⟨rfl, smF.refl, fun _ => rfl, fun k _ => by rw [if_neg (by omega)]⟩ (fun i hi q c hI hk => ?_) (fun q c hI => ?_)
  · obtain ⟨q1, qM⟩ := q
    obtain ⟨rfl, i1, i2, i3⟩ := hI
    dsimp only at i1 i2 i3
    unfold w_X1_sum_L107
    refine i_t (nI_ge hi (by decide)) ⟨vp_in_nI hi (by decide), ?_⟩
    dsimp only
    rw [nI_clamp (by omega), nI_1]
    have row : qM.1 c1 i = M.1 c1 i := by rw [i3 i hi, if_neg (by omega)]
    have go : ∀ z : Int32, z = d i → vp_in (nI i) 36 ∧ sLet (sk_si qM c1 i ((qM.1 c1 i) + z)) fun M160 => c (nI (i + 1), M160) := fun z hz => by
      refine ⟨vp_in_nI hi (by decide), sLet_i (hk _ ⟨rfl, i1.trans (smF.si hc), fun k => by rw [si_c (fun w => hc w.symm)]; exact i2 k, fun k hk2 => ?_⟩)⟩
      dsimp only
      rw [rd_si]
      by_cases w : k = i
      · rw [if_pos ⟨rfl, w⟩, if_pos (by omega), w, row, hz]
      · rw [if_neg (fun u => w u.2), i3 k hk2]
        by_cases v : k < i
        · rw [if_pos v, if_pos (by omega)]
        · rw [if_neg v, if_neg (by omega)]
    have di := hd i hi
    have e6 : nI i / (6 : Int32) = nI (i / 6) := pk_divN (d := 6) (by omega) (by decide) (by decide)
    have e7 : rmI (nI i) (6 : Int32) = nI (i % 6) := rmN (d := 6) (by omega) (by decide) (by decide)
    by_cases z1 : r24 = 0
    · rw [if_neg (fun w => w z1)] at di
      refine i_f (fun w => w z1) ?_
      by_cases z2 : r34 = 0
      · rw [if_neg (fun w => w z2)] at di
        refine i_f (fun w => w z2) ?_
        by_cases z3 : r45 = 0
        · rw [if_neg (fun w => w z3)] at di
          refine i_f (fun w => w z3) (go _ (by rw [di, hs]))
        · rw [if_pos z3] at di
          refine i_t z3 (go _ (by rw [di, apt_1 i hi]))
      · rw [if_pos z2] at di
        refine i_t z2 (go _ (by rw [di, e7]))
    · rw [if_pos z1] at di
      refine i_t z1 (go _ (by rw [di, e6]))
  · obtain ⟨q1, qM⟩ := q
    obtain ⟨rfl, i1, i2, i3⟩ := hI
    unfold w_X1_sum_L107
    refine i_f (nn (n := 36) (by decide)) (h qM i1 i2 (fun k hk => ?_))
    rw [i3 k hk, if_pos hk]
theorem c1_sum {M : sk_M} {Q : sk_M → Prop} {c1 w : Nat} {y : Nat → Nat} {n i : Nat} (hc : c1 = 128 ∨ c1 = 129) (ew : M.1 126 4 = nI w) (hT : TS M y n i) (h5 : M.1 121 5 = -1)
    (h1 : ∀ x, pSum y n i = .inr x → ∀ M', smF c1 M M' → TS M' y n x.1 → M'.1 121 5 = -1 → (∀ k, k < 36 → M'.1 c1 k = nI (x.2 w (k / 6) (k % 6))) → Q M') (h0 : ∀ a, pSum y n i = .inl a → ∀ M', smF c1 M M' → Wr M' y n a → Q M') : w_X1_sum c1 M Q := by
  have n4 := hT.1.2.1
  have c121 : c1 ≠ 121 := by omega
  have c122 : c1 ≠ 122 := by omega
  have c126 : c1 ≠ 126 := by omega
  unfold w_X1_sum
  refine sLet_i ?_
  have f0 : smF c1 M (flI M c1 0 36) := ⟨fun x _ b => flI_ne b 36, flI_2 _ _ _ _, by rw [flI_ne (fun z => c121 z.symm)]⟩
  have t0 : TS (flI M c1 0 36) y n i := TS_cg hT (flI_ne (fun z => c121 z.symm) 36) (flI_ne (fun z => c122 z.symm) 36)
  have e0 : pSum y n i = pB (pPart y n i) (fun x => pSumL y n (n + 1) x.1 (fadd (fun _ _ _ => 0) x.2)) := by
    unfold pSum
    congr 1
    funext x
    congr 1
    funext w t c
    show x.2 w t c = 0 + x.2 w t c
    omega
  refine lp_ix (I := fun q s => ∃ k j f cnt, s.1 = nI cnt ∧ q = n - j ∧ smF c1 M s.2 ∧ TS s.2 y n j ∧ s.2.1 121 5 = -1 ∧ (∀ k, k < 36 → s.2.1 c1 k = nI (f w (k / 6) (k % 6))) ∧ cnt ≤ j ∧ n < j + k ∧ pSum y n i = pB (pPart y n j) (fun x => pSumL y n k x.1 (fadd f x.2))) (fun q s c hI hk => ?_) sk_F (n - i) ((0 : Int32), flI M c1 0 36) ⟨n + 1, i, fun _ _ _ => 0, 0, rfl, rfl, f0, t0, by show (flI M c1 0 36).1 121 5 = -1; rw [flI_ne (fun z => c121 z.symm)]; exact h5, fun k hk => by show (flI M c1 0 36).1 c1 k = _; rw [flI_at 36 hk]; rfl, Nat.zero_le _, by omega, e0⟩ (Nat.lt_of_le_of_lt (Nat.sub_le _ _) (Nat.lt_of_le_of_lt n4 (by decide)))
  obtain ⟨s1, sM⟩ := s
  obtain ⟨k, j, f, cnt, rfl, rfl, i1, i2, i3, i4, i5, i6, i7⟩ := hI
  dsimp only at i1 i2 i3 i4
  have hj := i2.2.1
  unfold w_X1_sum_L7
  dsimp only
  rw [i2.1.1]
  refine i_t (nI_nlt (by omega) (by omega)) (c6_is i2 (c6_is i2 (c6_is i2 (sLet_i (sLet_i (sLet_i ?_))))))
  have e4 : sM.1 126 4 = nI w := by rw [i1.1 126 (by decide) (fun z => c126 z.symm)]; exact ew
  rw [e4]
  -- what follows a part that is right
  have next : ∀ (M2 M3 : sk_M) (g : FN), pPart y n j = .inr (tkE y n j, g) → tgF sM M2 → TS M2 y n (tkE y n j) → M2.1 121 5 = -1 → smF c1 M2 M3 → (∀ k, M3.1 121 k = M2.1 121 k) → (∀ k, k < 36 → M3.1 c1 k = M2.1 c1 k + nI (g w (k / 6) (k % 6))) → if ((f_X6_isWrong M3) = 0) then (w_X6_isSign (43 : Int32) M3 (fun r183 => if (r183 = 0) then Q M3 else (w_X6_step M3 (fun M194 => c ((nI cnt + (1 : Int32)), M194))))) else Q M3 := by
    intro M2 M3 g eg g2 t2 e2 s3 u3 r3
    have gj : j < tkE y n j ∧ tkE y n j ≤ n := pPart_ok hj eg
    have t3 : TS M3 y n (tkE y n j) := by
      refine TS_cg t2 (funext u3) ?_
      exact s3.1 122 (by decide) (fun z => c122 z.symm)
    have e3 : M3.1 121 5 = -1 := by rw [u3]; exact e2
    refine i_t (isW_0 e3) (c6_isSign (c := 43) (by decide) t3 ?_)
    rw [pB_r eg] at i7
    have fr : smF c1 M M3 := (i1.trans g2.sm).trans s3
    have row : ∀ k, k < 36 → M3.1 c1 k = nI (fadd f g w (k / 6) (k % 6)) := fun k hk => by
      rw [r3 k hk, g2.1 c1 c121, i4 k hk, nI_add]
      rfl
    cases k with
    | zero => omega
    | succ k =>
      by_cases z : sgA y n (tkE y n j) 43
      · refine i_f (by rw [bI_t (show tkK y n (tkE y n j) = 3 ∧ y (tkA y n (tkE y n j)) = 43 from z)]; decide) (c6_step t3 (fun M4 g4 t4 e4 => ?_))
        have gt := sg_gt gj.2 z.1
        have i7' : pSum y n i = pB (pPart y n (tkE y n (tkE y n j))) (fun x => pSumL y n k x.1 (fadd (fadd f g) x.2)) := by
          rw [i7]
          exact pSumL_y z
        rw [nI_1]
        refine hk (n - tkE y n (tkE y n j)) _ (by have := gj.1; omega) ⟨k, tkE y n (tkE y n j), fadd f g, cnt + 1, rfl, rfl, fr.trans g4.sm, t4, e4.trans e3, fun k hk => by show M4.1 c1 k = _; rw [g4.1 c1 c121]; exact row k hk, by have := gj.1; omega, by have := gj.1; omega, i7'⟩
      · refine i_t (bI_f z) ?_
        have i7' : pSum y n i = .inr (tkE y n j, fadd f g) := by
          rw [i7]
          exact pSumL_n z
        exact h1 _ i7' M3 fr t3 e3 row
  have bz : ∀ p : Prop, ¬ p → ¬ ¬ (bI p = 0) := fun p hp w => w (bI_f hp)
  by_cases k1 : isWd y n j 15
  · have eg : pPart y n j = .inr (tkE y n j, fun _ t _ => t) := by unfold pPart; rw [iF_t k1]
    refine i_f (fun u => by rw [bI_t k1] at u; exact absurd u.1 (by decide)) (c6_step i2 (fun M2 g2 t2 e2 => ?_))
    refine c1_adds (x := nI w) (d := fun k => nI (k / 6)) c121 rfl (fun k _ => by rw [if_pos (by rw [bI_t k1]; decide)]) (fun M3 s3 u3 r3 => ?_)
    exact next M2 M3 _ eg g2 t2 (e2.trans i3) s3 u3 r3
  by_cases k2 : isWd y n j 16
  · have eg : pPart y n j = .inr (tkE y n j, fun _ _ c => c) := by unfold pPart; rw [iF_f k1, iF_t k2]
    refine i_f (fun u => by rw [bI_t k2] at u; exact absurd u.2.1 (by decide)) (c6_step i2 (fun M2 g2 t2 e2 => ?_))
    refine c1_adds (x := nI w) (d := fun k => nI (k % 6)) c121 rfl (fun k _ => by rw [if_neg (bz _ k1), if_pos (by rw [bI_t k2]; decide)]) (fun M3 s3 u3 r3 => ?_)
    exact next M2 M3 _ eg g2 t2 (e2.trans i3) s3 u3 r3
  by_cases k3 : isWd y n j 17
  · have eg : pPart y n j = .inr (tkE y n j, fun _ t c => apt t c) := by unfold pPart; rw [iF_f k1, iF_f k2, iF_t k3]
    refine i_f (fun u => by rw [bI_t k3] at u; exact absurd u.2.2 (by decide)) (c6_step i2 (fun M2 g2 t2 e2 => ?_))
    refine c1_adds (x := nI w) (d := fun k => nI (apt (k / 6) (k % 6))) c121 rfl (fun k _ => by rw [if_neg (bz _ k1), if_neg (bz _ k2), if_pos (by rw [bI_t k3]; decide)]) (fun M3 s3 u3 r3 => ?_)
    exact next M2 M3 _ eg g2 t2 (e2.trans i3) s3 u3 r3
  refine i_t ⟨bI_f k1, bI_f k2, bI_f k3⟩ (c6_is i2 ?_)
  by_cases k4 : isWd y n j 14
  · have eg : pPart y n j = .inr (tkE y n j, fun w _ _ => w) := by unfold pPart; rw [iF_f k1, iF_f k2, iF_f k3, iF_t k4]
    refine i_t (by rw [bI_t k4]; decide) (c6_step i2 (fun M2 g2 t2 e2 => ?_))
    refine c1_adds (x := nI w) (d := fun k => nI w) c121 rfl (fun k _ => by rw [if_neg (bz _ k1), if_neg (bz _ k2), if_neg (bz _ k3)]) (fun M3 s3 u3 r3 => ?_)
    exact next M2 M3 _ eg g2 t2 (e2.trans i3) s3 u3 r3
  refine i_f (bz _ k4) (c6_num (mo := 999) i2 i3 (fun k5 M2 g2 t2 e2 => ?_) (fun k5 M2 g2 w2 => ?_))
  · have k5' : isNu y n j ∧ nuV y n j ≤ 999 := ⟨k5.1, (le_N (nuV_lt hj k5.1) (by decide)).mp k5.2⟩
    have eg : pPart y n j = .inr (tkE y n j, fun _ _ _ => nuV y n j) := by unfold pPart; rw [iF_f k1, iF_f k2, iF_f k3, iF_f k4, iF_t k5']
    refine c1_adds (x := nI (nuV y n j)) (d := fun k => nI (nuV y n j)) c121 rfl (fun k _ => by rw [if_neg (bz _ k1), if_neg (bz _ k2), if_neg (bz _ k3)]) (fun M3 s3 u3 r3 => ?_)
    exact next M2 M3 _ eg g2 t2 e2 s3 u3 r3
  · have k5' : ¬ (isNu y n j ∧ nuV y n j ≤ 999) := fun u => k5 ⟨u.1, (le_N (nuV_lt hj u.1) (by decide)).mpr u.2⟩
    have eg : pPart y n j = .inl (tkA y n j) := by unfold pPart; rw [iF_f k1, iF_f k2, iF_f k3, iF_f k4, iF_f k5']
    rw [pB_l eg] at i7
    refine c1_adds (x := (-1 : Int32)) (d := fun k => (-1 : Int32)) c121 rfl (fun k _ => by rw [if_neg (bz _ k1), if_neg (bz _ k2), if_neg (bz _ k3)]) (fun M3 s3 u3 r3 => ?_)
    obtain ⟨⟨j2, w3⟩, w4⟩ := w2
    have t3 : TS M3 y n j2 := TS_cg w3 (funext u3) (s3.1 122 (by decide) (fun z => c122 z.symm))
    have e3 : M3.1 121 5 = nI (tkA y n j) := by rw [u3]; exact w4
    have a4 := tkA4 i2
    refine i_f (fun u => ?_) ?_
    · rw [isW_1 (by rw [e3]; exact nI_m1 (by omega))] at u
      exact absurd u (by decide)
    · exact h0 _ i7 M3 ((i1.trans g2.sm).trans s3) ⟨⟨j2, t3⟩, e3⟩
