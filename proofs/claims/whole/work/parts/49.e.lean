/-! lines of the law, and the class's reading of it -/
abbrev LN : Type := (Prop × Nat) × FP
noncomputable def pLawLine (y : Nat → Nat) (n i : Nat) : PR LN :=
  iF (isWd y n i 9 ∨ isWd y n i 8)
    (iF (isNu y n (tkE y n i) ∧ nuV y n (tkE y n i) ≤ 99)
      (iF (isWd y n (tkE y n (tkE y n i)) 10)
        (pB (pCond y n (pAtom y n 6) (tkE y n (tkE y n (tkE y n i)))) (fun x => .inr (x.1, ((isWd y n i 8, nuV y n (tkE y n i)), x.2))))
        (.inr (tkE y n (tkE y n i), ((isWd y n i 8, nuV y n (tkE y n i)), fun _ _ _ => True))))
      (.inl (tkA y n (tkE y n i))))
    (.inl (tkA y n i))
noncomputable def pLawL (y : Nat → Nat) (n : Nat) : Nat → Nat → List LN → Nat ⊕ List LN
  | 0, i, _ => .inl (tkA y n i)
  | k + 1, i, ls => match pLawLine y n i with
    | .inl a => .inl a
    | .inr x => iF (tkK y n x.1 = 0) (.inr (ls ++ [x.2])) (iF (sgA y n x.1 59) (pLawL y n k (tkE y n x.1) (ls ++ [x.2])) (.inl (tkA y n x.1)))
theorem pLawL_l {y : Nat → Nat} {n k i a : Nat} {ls : List LN} (h : pLawLine y n i = .inl a) : pLawL y n (k + 1) i ls = .inl a := by simp only [pLawL, h]
theorem pLawL_r {y : Nat → Nat} {n k i : Nat} {ls : List LN} {x : Nat × LN} (h : pLawLine y n i = .inr x) : pLawL y n (k + 1) i ls = iF (tkK y n x.1 = 0) (.inr (ls ++ [x.2])) (iF (sgA y n x.1 59) (pLawL y n k (tkE y n x.1) (ls ++ [x.2])) (.inl (tkA y n x.1))) := by simp only [pLawL, h]
noncomputable def pLaw (y : Nat → Nat) (n : Nat) : Nat ⊕ List LN := iF (tkK y n 0 = 0) (.inr []) (pLawL y n 12 0 [])
theorem pLawLine_ok {y : Nat → Nat} {n i : Nat} (hi : i ≤ n) : (∀ x, pLawLine y n i = .inr x → i < x.1 ∧ x.1 ≤ n ∧ x.2.1.2 ≤ 99) ∧ ∀ a, pLawLine y n i = .inl a → a ≤ n := by
  unfold pLawLine
  by_cases k1 : isWd y n i 9 ∨ isWd y n i 8
  rotate_left
  · rw [iF_f k1]
    exact ⟨fun x h => absurd h (by simp), fun a h => by rw [← Sum.inl.inj h]; exact (tkA_le hi).2⟩
  rw [iF_t k1]
  have g1 : i < tkE y n i ∧ tkE y n i ≤ n := k1.elim (fun u => wd_gt hi u) (fun u => wd_gt hi u)
  by_cases k2 : isNu y n (tkE y n i) ∧ nuV y n (tkE y n i) ≤ 99
  rotate_left
  · rw [iF_f k2]
    exact ⟨fun x h => absurd h (by simp), fun a h => by rw [← Sum.inl.inj h]; exact (tkA_le g1.2).2⟩
  rw [iF_t k2]
  have g2 := nu_gt g1.2 k2.1
  by_cases k3 : isWd y n (tkE y n (tkE y n i)) 10
  · rw [iF_t k3]
    have g3 := wd_gt g2.2 k3
    have hC := pCond_ok (y := y) (pAtom_ok (y := y) (n := n) 6)
    cases e : pCond y n (pAtom y n 6) (tkE y n (tkE y n (tkE y n i))) with
    | inl b => exact ⟨fun x h => absurd h (by simp [pB]), fun a h => by have : b = a := Sum.inl.inj h; rw [← this]; exact hC.2 _ _ g3.2 e⟩
    | inr u =>
      have g4 := hC.1 _ _ g3.2 e
      exact ⟨fun x h => by rw [← Sum.inr.inj h]; exact ⟨by show i < u.1; omega, g4.2, k2.2⟩, fun a h => absurd h (by simp [pB])⟩
  · rw [iF_f k3]
    exact ⟨fun x h => by rw [← Sum.inr.inj h]; exact ⟨by show i < tkE y n (tkE y n i); omega, g2.2, k2.2⟩, fun a h => absurd h (by simp)⟩
/-- what one line adds -/
noncomputable def lnV (l : LN) (w t c : Nat) : Int32 := iF (l.2 w t c) (iF l.1.1 (nI l.1.2) (-(nI l.1.2))) 0
noncomputable def lsV : List LN → Nat → Nat → Nat → Int32
  | [], _, _, _ => 0
  | l :: ls, w, t, c => lnV l w t c + lsV ls w t c
theorem lsV_app {l : LN} {w t c : Nat} : ∀ ls : List LN, lsV (ls ++ [l]) w t c = lsV ls w t c + lnV l w t c
  | [] => by show lnV l w t c + 0 = 0 + lnV l w t c; rw [Int32.add_zero, Int32.zero_add]
  | a :: ls => by
    show lnV a w t c + lsV (ls ++ [l]) w t c = lnV a w t c + lsV ls w t c + lnV l w t c
    rw [lsV_app ls, Int32.add_assoc]
/-- only the Tape, the sums, the clicks and the count of lines -/
def lcF (M M' : sk_M) : Prop := (∀ x, x ≠ 121 → x ≠ 126 → x ≠ 127 → x ≠ 128 → x ≠ 129 → M'.1 x = M.1 x) ∧ M'.2 = M.2 ∧ M'.1 121 1 = M.1 121 1
theorem lcF.refl {M : sk_M} : lcF M M := ⟨fun _ _ _ _ _ _ => rfl, rfl, rfl⟩
theorem lcF.trans {A B C : sk_M} (h : lcF A B) (g : lcF B C) : lcF A C := ⟨fun x a b c d e => (g.1 x a b c d e).trans (h.1 x a b c d e), g.2.1.trans h.2.1, g.2.2.trans h.2.2⟩
theorem lwF.lc {A B : sk_M} (h : lwF A B) : lcF A B := ⟨fun x a _ _ c d => h.1 x a c d, h.2.1, h.2.2⟩
theorem c1_line {M : sk_M} {Q : Int32 → sk_M → Prop} {w : Nat} {y : Nat → Nat} {n i : Nat} (hw : w < 3) (ew : M.1 126 4 = nI w) (hT : TS M y n i) (h5 : M.1 121 5 = -1)
    (h1 : ∀ x, pLawLine y n i = .inr x → ∀ M', lcF M M' → M'.1 126 = M.1 126 → TS M' y n x.1 → M'.1 121 5 = -1 → (∀ k, M'.1 127 k = if 36 * w ≤ k ∧ k < 36 * w + 36 then M.1 127 k + lnV x.2 w ((k - 36 * w) / 6) ((k - 36 * w) % 6) else M.1 127 k) → Q 1 M') (h0 : ∀ a, pLawLine y n i = .inl a → ∀ M', lcF M M' → Wr M' y n a → Q 0 M') : w_X1_line M Q := by
  have n4 := hT.1.2.1
  have hi := hT.2.1
  unfold w_X1_line
  refine c6_is hT (sLet_i ?_)
  have bz : ∀ p : Prop, ¬ p → ¬ ¬ (bI p = 0) := fun p hp w => w (bI_f hp)
  by_cases k1 : isWd y n i 9 ∨ isWd y n i 8
  rotate_left
  · refine i_t (bI_f (fun u => k1 (Or.inl u))) (c6_is hT (i_t (bI_f (fun u => k1 (Or.inr u))) (c6_refuse ⟨Or.inl rfl, ?_⟩)))
    exact h0 _ (by unfold pLawLine; rw [iF_f k1]) _ (rf_ok hT).1.lw.lc (rf_Wr hT h5)
  have run : w_X6_step M (fun M38 => w_X6_numberUpTo (99 : Int32) M38 (fun r47 M47 => sLet (fun s90_62 : Int64 × sk_M => if (¬ ((f_X6_isWrong s90_62.2) = 0)) then (Q (0 : Int32) s90_62.2) else (lp (w_X1_line_L105 (bI (isWd y n i 9)) r47 s90_62 Q) sk_F ((0 : Int32), s90_62.2))) fun j90_62 => if ((f_X6_isWrong M47) = 0) then (w_X6_is 10 M47 (fun r71 => if (¬ (r71 = 0)) then (w_X6_step M47 (fun M81 => w_X1_condition (w_X1_atomN 8) (0 : Int32) M81 (fun r86 M86 => j90_62 (r86, M86)))) else (j90_62 ((68719476735 : Int64), M47)))) else (j90_62 ((68719476735 : Int64), M47)))) := by
    refine c6_step hT (fun M1 g1 t1 e1 => ?_)
    have e15 := e1.trans h5
    refine c6_num (mo := 99) t1 e15 (fun k2 M2 g2 t2 e2 => sLet_i ?_) (fun k2 M2 g2 w2 => sLet_i ?_)
    rotate_left
    · have k2' : ¬ (isNu y n (tkE y n i) ∧ nuV y n (tkE y n i) ≤ 99) := fun u => k2 ⟨u.1, (le_N (nuV_lt t1.2.1 u.1) (by decide)).mpr u.2⟩
      have ne := isW_1 (Wr_ne w2 (tkA4 t1))
      refine i_f (fun u => by rw [ne] at u; exact absurd u (by decide)) (i_t (by rw [ne]; decide) ?_)
      exact h0 _ (by unfold pLawLine; rw [iF_t k1, iF_f k2']) _ (g1.trans g2).lw.lc w2
    have v2 := nuV_lt t1.2.1 k2.1
    have k2' : isNu y n (tkE y n i) ∧ nuV y n (tkE y n i) ≤ 99 := ⟨k2.1, (le_N v2 (by decide)).mp k2.2⟩
    have fin : ∀ (M3 : sk_M) (L : Int64) (j : Nat) (φ : FP), lwF M M3 → TS M3 y n j → M3.1 121 5 = -1 → BL L (fun k => φ w (k / 6) (k % 6)) → pLawLine y n i = .inr (j, ((isWd y n i 8, nuV y n (tkE y n i)), φ)) → if (¬ ((f_X6_isWrong M3) = 0)) then (Q (0 : Int32) M3) else (lp (w_X1_line_L105 (bI (isWd y n i 9)) (nI (nuV y n (tkE y n i))) (L, M3) Q) sk_F ((0 : Int32), M3)) := by
      intro M3 L j φ f3 t3 e3 bl eq
      refine i_f (fun u => u (isW_0 e3)) ?_
      have w3 : M3.1 126 4 = nI w := by rw [f3.1 126 (by decide) (by decide) (by decide)]; exact ew
      have r3 : M3.1 127 = M.1 127 := f3.1 127 (by decide) (by decide) (by decide)
      refine lp_inv (fun k s => s.1 = nI k ∧ (∀ c, c ≠ 127 → s.2.1 c = M3.1 c) ∧ s.2.2 = M3.2 ∧ ∀ q, s.2.1 127 q = if 36 * w ≤ q ∧ q < 36 * w + k then M.1 127 q + lnV ((isWd y n i 8, nuV y n (tkE y n i)), φ) w ((q - 36 * w) / 6) ((q - 36 * w) % 6) else M.1 127 q) 36 (by decide) ⟨rfl, fun _ _ => rfl, rfl, fun q => by rw [if_neg (by omega)]; show M3.1 127 q = _; rw [r3]⟩ (fun k hk s c hI hc => ?_) (fun s c hI => ?_)
      · obtain ⟨s1, sM⟩ := s
        obtain ⟨rfl, i1, i2, i3⟩ := hI
        dsimp only at i1 i2 i3
        unfold w_X1_line_L105
        refine i_t (nI_ge hk (by decide)) ?_
        dsimp only
        simp only [lg_cmp_eq]
        rw [i1 126 (by decide), w3, show (36 : Int32) = nI 36 from rfl, pk_mul, nI_add, nI_clamp (by omega), nI_1]
        have eb : ((L >>> ((nI k).toInt64 &&& 63)) &&& 1 = 1) ↔ φ w (k / 6) (k % 6) := by
          rw [ls_bit L (by omega), bl k (by omega)]
          exact ⟨fun u => u.2, fun u => ⟨hk, u⟩⟩
        have row : sM.1 127 (w * 36 + k) = M.1 127 (w * 36 + k) := by rw [i3, if_neg (by omega)]
        have go : ∀ (N : sk_M) (z : Int32), N = sk_si sM 127 (w * 36 + k) (M.1 127 (w * 36 + k) + z) → z = lnV ((isWd y n i 8, nuV y n (tkE y n i)), φ) w (k / 6) (k % 6) → c (nI (k + 1), N) := fun N z eN ez => by
          subst eN
          refine hc _ ⟨rfl, fun c hc => by rw [si_c hc]; exact i1 c hc, by rw [si_2]; exact i2, fun q => ?_⟩
          dsimp only
          rw [rd_si]
          by_cases u : q = w * 36 + k
          · rw [if_pos ⟨rfl, u⟩, if_pos (by omega), u, ez, show (w * 36 + k - 36 * w) / 6 = k / 6 by omega, show (w * 36 + k - 36 * w) % 6 = k % 6 by omega]
          · rw [if_neg (fun v => u v.2), i3 q]
            by_cases v : 36 * w ≤ q ∧ q < 36 * w + k
            · rw [if_pos v, if_pos (by omega)]
            · rw [if_neg v, if_neg (by omega)]
        refine i_b (fun u => ⟨vp_in_nI (by omega) (by decide), ?_⟩) (fun u => ?_)
        · have hp := eb.mp u
          rw [row]
          by_cases v : isWd y n i 9
          · have v8 : ¬ isWd y n i 8 := wd_ne (by decide) v
            refine i_t (by rw [bI_t v]; decide) ⟨vp_in_nI (by omega) (by decide), sLet_i (go _ _ rfl ?_)⟩
            unfold lnV
            rw [iF_t hp, iF_f v8]
          · have v8 : isWd y n i 8 := k1.resolve_left v
            refine i_f (bz _ v) ⟨vp_in_nI (by omega) (by decide), sLet_i (go _ _ rfl ?_)⟩
            unfold lnV
            rw [iF_t hp, iF_t v8]
        · have hp : ¬ φ w (k / 6) (k % 6) := fun x => u (eb.mpr x)
          refine hc _ ⟨rfl, i1, i2, fun q => ?_⟩
          dsimp only
          rw [i3 q]
          by_cases x : q = 36 * w + k
          · rw [if_neg (by omega), if_pos (by omega)]
            unfold lnV
            rw [x, show (36 * w + k - 36 * w) / 6 = k / 6 by omega, show (36 * w + k - 36 * w) % 6 = k % 6 by omega, iF_f hp, Int32.add_zero]
          · by_cases v : 36 * w ≤ q ∧ q < 36 * w + k
            · rw [if_pos v, if_pos (by omega)]
            · rw [if_neg v, if_neg (by omega)]
      · obtain ⟨s1, sM⟩ := s
        obtain ⟨rfl, i1, i2, i3⟩ := hI
        dsimp only at i1 i2 i3
        unfold w_X1_line_L105
        refine i_f (nn (n := 36) (by decide)) ?_
        refine h1 _ eq sM ⟨fun x a _ b d e => (i1 x b).trans (f3.1 x a d e), i2.trans f3.2.1, by rw [i1 121 (by decide)]; exact f3.2.2⟩ (by rw [i1 126 (by decide), f3.1 126 (by decide) (by decide) (by decide)]) (TS_cg t3 (i1 121 (by decide)) (i1 122 (by decide))) (by rw [i1 121 (by decide)]; exact e3) i3
    have f2 : lwF M M2 := (g1.trans g2).lw
    refine i_t (isW_0 e2) (c6_is t2 ?_)
    by_cases k3 : isWd y n (tkE y n (tkE y n i)) 10
    · refine i_t (by rw [bI_t k3]; decide) (c6_step t2 (fun M3 g3 t3 e3 => ?_))
      have f3 := f2.trans g3.lw
      have ew3 : M3.1 126 4 = nI w := by rw [f3.1 126 (by decide) (by decide) (by decide)]; exact ew
      have eP : pLawLine y n i = pB (pCond y n (pAtom y n 6) (tkE y n (tkE y n (tkE y n i)))) (fun x => .inr (x.1, ((isWd y n i 8, nuV y n (tkE y n i)), x.2))) := by unfold pLawLine; rw [iF_t k1, iF_t k2', iF_t k3]
      have hA := c1_atomN (y := y) (n := n) hw 6 8 (by omega) (by omega)
      refine c1_condition (A := w_X1_atomN 8) (a1 := 0) (pAtom_ok 6) hA M3 _ _ ew3 t3 (e3.trans e2) (fun x ex M4 L4 f4 t4 e4 bl4 => ?_) (fun a ea M4 L4 f4 w4 => ?_)
      · exact fin M4 L4 x.1 x.2 (f3.trans f4) t4 e4 bl4 (by rw [eP, pB_r ex])
      · have a4 : a ≤ 400 := Nat.le_trans ((pCond_ok (y := y) (pAtom_ok (y := y) (n := n) 6)).2 _ _ t3.2.1 ea) n4
        refine i_t (by rw [isW_1 (Wr_ne w4 a4)]; decide) ?_
        exact h0 a (by rw [eP, pB_l ea]) M4 (f3.trans f4).lc w4
    · refine i_f (bz _ k3) ?_
      exact fin M2 _ _ (fun _ _ _ => True) f2 t2 e2 BL_all (by unfold pLawLine; rw [iF_t k1, iF_t k2', iF_f k3])
  by_cases v : isWd y n i 9
  · refine i_f (by rw [bI_t v]; decide) ?_
    exact run
  · refine i_t (bI_f v) (c6_is hT (i_f (by rw [bI_t (k1.resolve_left v)]; decide) ?_))
    exact run
