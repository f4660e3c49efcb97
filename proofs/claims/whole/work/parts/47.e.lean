/-! the class reads a whole text of the bank -/
theorem c0_read {M : sk_M} {Q : Int32 → sk_M → Prop} {B : BS} {y : Nat → Nat} {n : Nat} (hT : TP M y n) (hB : bsB B) (e0 : M.1 0 0 = nI B.1.1) (e1 : M.1 0 1 = nI B.1.2.1) (e2 : M.1 0 2 = nI B.1.2.2.1) (e6 : M.1 0 6 = nI B.1.2.2.2) (eV : ∀ v, v < B.1.1 → M.1 1 v = nI (B.2.1 v).1 ∧ M.1 3 v = nI (B.2.1 v).2.1 ∧ M.1 2 v = nI (B.2.1 v).2.2) (eC : ∀ c, c < B.1.2.2.1 → M.1 4 c = (B.2.2 c).1 ∧ M.1 5 c = (B.2.2 c).2.1 ∧ M.1 6 c = (B.2.2 c).2.2)
    (h1 : ∀ B', pBank y n B = .inr B' → ∀ M', bkA M M' B' → M'.1 125 5 = nI B'.1.2.2.2 → M'.1 121 5 = -1 → bsB B' → bsX B B' → Q 1 M') (h0 : ∀ a, pBank y n B = .inl a → ∀ M', bkW M M' B y n a → Q 0 M') : w_X0_read M Q := by
  unfold w_X0_read
  refine sLet_i (sLet_i (sLet_i (sLet_i ?_)))
  simp only [si_c (show (0 : Nat) ≠ 125 by decide)]
  rw [e0, e1, e2, e6]
  generalize hN : sk_si (sk_si (sk_si (sk_si M 125 2 (nI B.1.1)) 125 3 (nI B.1.2.1)) 125 4 (nI B.1.2.2.1)) 125 5 (nI B.1.2.2.2) = N
  have n1 : ∀ c, c ≠ 125 → N.1 c = M.1 c := fun c hc => by rw [← hN, si_c hc, si_c hc, si_c hc, si_c hc]
  have n2 : N.1 125 2 = nI B.1.1 := by rw [← hN, rd_si, if_neg (by omega), rd_si, if_neg (by omega), rd_si, if_neg (by omega), rd_si, if_pos ⟨rfl, rfl⟩]
  have n3 : N.1 125 3 = nI B.1.2.1 := by rw [← hN, rd_si, if_neg (by omega), rd_si, if_neg (by omega), rd_si, if_pos ⟨rfl, rfl⟩]
  have n4 : N.1 125 4 = nI B.1.2.2.1 := by rw [← hN, rd_si, if_neg (by omega), rd_si, if_pos ⟨rfl, rfl⟩]
  have n5 : N.1 125 5 = nI B.1.2.2.2 := by rw [← hN, rd_si, if_pos ⟨rfl, rfl⟩]
  have n6 : N.2 = M.2 := by rw [← hN]; rfl
  have hTN : TP N y n := ⟨by rw [n1 121 (by decide)]; exact hT.1, hT.2.1, fun j hj => by rw [n1 122 (by decide)]; exact hT.2.2 j hj⟩
  refine ⟨y, n, hTN, fun M9 g9 => ?_⟩
  obtain ⟨g1, g2⟩ := g9
  have c9 : ∀ c, c ≠ 121 → M9.1 c = N.1 c := fun c hc => by rw [g1.1 c hc, si_c hc, si_c hc]
  have k9 : ∀ k, k ≠ 2 → k ≠ 3 → k ≠ 4 → k ≠ 5 → M9.1 121 k = N.1 121 k := fun k a b d e => by rw [g1.2.2 k a b d, rd_si, if_neg (fun z => d z.2), rd_si, if_neg (fun z => e z.2)]
  have w9 : M9.1 121 5 = -1 := by rw [g1.2.2 5 (by decide) (by decide) (by decide), rd_si, if_neg (by omega), rd_si, if_pos ⟨rfl, rfl⟩]
  have t9 : TS M9 y n 0 := ⟨⟨by rw [k9 1 (by decide) (by decide) (by decide) (by decide)]; exact hTN.1, hT.2.1, fun j hj => by rw [c9 122 (by decide)]; exact hTN.2.2 j hj⟩, Nat.zero_le _, g2⟩
  have b9 : bkC M M9 B y n 0 := by
    refine ⟨⟨fun c _ a b => (c9 c a).trans (n1 c b), ?_, ?_, ?_, ?_, ?_, fun v hv => ?_, fun c hc => ?_⟩, ?_, t9, w9⟩
    · rw [g1.2.1]; exact n6
    · rw [k9 1 (by decide) (by decide) (by decide) (by decide), n1 121 (by decide)]
    · rw [c9 125 (by decide)]; exact n2
    · rw [c9 125 (by decide)]; exact n3
    · rw [c9 125 (by decide)]; exact n4
    · rw [c9 1 (by decide), c9 3 (by decide), c9 2 (by decide), n1 1 (by decide), n1 3 (by decide), n1 2 (by decide)]; exact eV v hv
    · rw [c9 4 (by decide), c9 5 (by decide), c9 6 (by decide), n1 4 (by decide), n1 5 (by decide), n1 6 (by decide)]; exact eC c hc
    · rw [c9 125 (by decide)]; exact n5
  have k4 := tk_K y n 0
  rw [g2.2.1]
  by_cases z : tkK y n 0 = 0
  · refine i_t (by rw [z]; rfl) ?_
    exact h1 B (by unfold pBank; rw [iF_t z]) M9 b9.1 b9.2.1 w9 hB bsX.refl
  refine i_f (fun w => z ((nI_eq (b := 0) (by omega) (by decide)).mp w)) ?_
  have ep : pBank y n B = pLines y n 14 0 B := by unfold pBank; rw [iF_f z]
  rw [ep] at h1 h0
  obtain ⟨L, hL⟩ : ∃ L, L = 14 := ⟨14, rfl⟩
  rw [← hL] at h1 h0
  refine lp_inx (fun j s => s.1 = nI j ∧ ∃ i B', bkC M s.2 B' y n i ∧ bsB B' ∧ bsX B B' ∧ pLines y n L 0 B = pLines y n (L - j) i B') L (by rw [hL]; decide) ⟨rfl, 0, B, b9, hB, bsX.refl, rfl⟩ (fun j hj s c hI hc => ?_)
  obtain ⟨s1, sM⟩ := s
  obtain ⟨rfl, i, B', b1, b2, b3, b4⟩ := hI
  dsimp only at b1
  have hTj := b1.2.2.1
  unfold w_X0_read_L65
  by_cases q : j < L
  · refine i_t (nI_ge (b := 14) (by omega) (by decide)) ?_
    dsimp only
    rw [show L - j = (L - (j + 1)) + 1 by omega] at b4
    refine c0_line b1 b2 ⟨fun x ex M' b' => ?_, fun a ea M' b' => ?_⟩
    · obtain ⟨q1, q2, q3⟩ := pLine_ok hTj.2.1 b2 ex
      rw [pLines_r ex] at b4
      refine i_f (by decide) ?_
      have k5 := tk_K y n x.1
      rw [b'.2.2.1.2.2.2.1]
      by_cases w : tkK y n x.1 = 0
      · rw [iF_t w] at b4
        refine i_t (by rw [w]; rfl) ?_
        exact h1 x.2 b4 M' b'.1 b'.2.1 b'.2.2.2 q1 (b3.trans q2)
      rw [iF_f w] at b4
      refine i_f (fun v => w ((nI_eq (b := 0) (by omega) (by decide)).mp v)) ?_
      refine c6_sgn (c := 59) (by decide) b'.2.2.1 b'.2.2.2 (fun v M2 g2 t2 e2 => ?_) (fun v M2 g2 w2 => ?_)
      · rw [iF_t v] at b4
        refine i_f (by decide) ?_
        rw [nI_1]
        exact hc _ q ⟨rfl, tkE y n x.1, x.2, b'.tg g2 t2 e2, q1, b3.trans q2, b4⟩
      · rw [iF_f v] at b4
        refine i_t rfl ?_
        exact h0 _ b4 M2 ⟨x.2, b3.trans q2, b'.1.tg g2, w2⟩
    · rw [pLines_l ea] at b4
      refine i_t rfl ?_
      obtain ⟨B2, x1, x2, x3⟩ := b'
      exact h0 a b4 M' ⟨B2, b3.trans x1, x2, x3⟩
  · have e : j = L := by omega
    subst e
    rw [Nat.sub_self] at b4
    refine i_f (fun z => z (nI_le (a := 14) (by omega) (by omega))) (c6_refuse ⟨Or.inl rfl, ?_⟩)
    exact h0 _ b4 _ ⟨B', b3, b1.1.tg (rf_ok hTj).1, rf_Wr hTj b1.2.2.2⟩
