/-! the reference's lines of the bank -/
def bkQ (M0 : sk_M) (nv0 np0 : Nat) (y : Nat → Nat) (n : Nat) (r : PR BS) (Q : Int32 → sk_M → Prop) : Prop := (∀ x, r = .inr x → ∀ M', bkR M0 M' nv0 np0 x.2 → RI M' y n x.1 → Q 1 M') ∧ ∀ a, r = .inl a → ∀ M', bkZ M0 M' a → Q 0 M'
theorem p0 {v : Nat} (h : v < 2 ^ 31) : (0 : Int32) ≤ nI v := nI_le (a := 0) (Nat.zero_le _) h
theorem m1_n0 : ¬ ((0 : Int32) ≤ -1) := by decide
theorem s8_of' {M : sk_M} {Q : Int32 → Prop} {v : Nat} (hv : v < 6) (h : Q (M.1 141 (11 + 4 * v))) : w_X8_of (nI v) (1 : Int32) M Q := by
  refine s8_of (k := 1) hv (by decide) ?_
  rw [show 10 + 4 * v + 1 = 11 + 4 * v by omega]
  exact h
theorem RI.st {M : sk_M} {y : Nat → Nat} {n i k : Nat} {x : Int32} (h : RI M y n i) : RI (sk_si M 141 k x) y n i := h.cg (si_c (by decide)) (by rw [si_c (by decide)]) (by rw [si_c (by decide)])
theorem r8_readVault {M0 M : sk_M} {Q : Int32 → sk_M → Prop} {nv0 np0 : Nat} {B : BS} {y : Nat → Nat} {n i : Nat} (h : bkR M0 M nv0 np0 B) (hB : bsB B) (n0 : nv0 ≤ B.1.1) (hw : RW M y n i) (k0 : isWd y n i 0) (hQ : bkQ M0 nv0 np0 y n (pVault y n i B) Q) : w_X8_readVault M Q := by
  have b6 := hB.1
  unfold w_X8_readVault
  have ev : f_X8_vaults M = nI B.1.1 := h.2.2.2.1.1
  rw [ev]
  refine sLet_i ?_
  by_cases h6 : B.1.1 < 6
  rotate_left
  · refine i_t (by rw [show B.1.1 = 6 by omega]; rfl) ?_
    exact hQ.2 _ (by unfold pVault; rw [iF_f h6]) M (h.Z rtF.refl hw.2.2)
  refine i_f (fun z => by have := (nI_eq (b := 6) (by omega) (by decide)).mp z; omega) ?_
  have hr := hw.E k0
  refine r8_codeTold hr (fun f1 M1 g1 r1 => sLet_i ?_) (fun f1 M1 g1 e1 => sLet_i ?_)
  rotate_left
  · refine i_t m1_n0 (i_t m1_n0 ?_)
    exact hQ.2 _ (by unfold pVault; rw [iF_t h6, iF_f f1]) M1 (h.Z g1 e1)
  have fv := fgV_lt f1
  refine i_f (fun z => z (p0 (by omega))) ?_
  refine r8_after (j := 1) (hi := 999) (by decide) r1 (fun p1 w1 M2 g2 r2 => ?_) (fun p1 w1 M2 g2 e2 => ?_) (fun p1 M2 g2 e2 => ?_)
  rotate_left
  · have hi3 : tkE y n (tkE y n (tkE y n i)) ≤ n := (tk_le (tk_le (tk_le hw.1).2.2.1).2.2.1).2.2.1
    have w1' : ¬ (isNu y n (tkE y n (tkE y n (tkE y n i))) ∧ nuV y n (tkE y n (tkE y n (tkE y n i))) ≤ 999) := fun u => w1 ⟨u.1, (le_N (nuV_lt hi3 u.1) (by decide)).mpr u.2⟩
    refine i_t m1_n0 ?_
    exact hQ.2 _ (by unfold pVault; rw [iF_t h6, iF_t f1, iF_t p1, iF_f w1']) M2 (h.Z (g1.trans g2) e2)
  · refine i_t m1_n0 ?_
    exact hQ.2 _ (by unfold pVault; rw [iF_t h6, iF_t f1, iF_f p1]) M2 (h.Z (g1.trans g2) e2)
  have hi3 : tkE y n (tkE y n (tkE y n i)) ≤ n := (tk_le (tk_le (tk_le hw.1).2.2.1).2.2.1).2.2.1
  have wv := nuV_lt hi3 w1.1
  have w1' : isNu y n (tkE y n (tkE y n (tkE y n i))) ∧ nuV y n (tkE y n (tkE y n (tkE y n i))) ≤ 999 := ⟨w1.1, (le_N wv (by decide)).mp w1.2⟩
  refine i_f (fun z => z (p0 (by omega))) ?_
  refine s8_sets (k := 0) h6 (by decide) (s8_sets (k := 1) h6 (by decide) (s8_sets (k := 2) h6 (by decide) (s8_sets (k := 3) h6 (by decide) ?_)))
  have v2 : vwF M M2 B.1.1 := (g1.trans g2).v
  have v3 := (((v2.st (k := 0) (x := nI (fgV y n (tkE y n i))) (by decide)).st (k := 1) (x := 0) (by decide)).st (k := 2) (x := nI (nuV y n (tkE y n (tkE y n (tkE y n i))))) (by decide)).st (k := 3) (x := 0) (by decide)
  have r3 : RI (sk_si (sk_si (sk_si (sk_si M2 141 (10 + 4 * B.1.1 + 0) (nI (fgV y n (tkE y n i)))) 141 (10 + 4 * B.1.1 + 1) 0) 141 (10 + 4 * B.1.1 + 2) (nI (nuV y n (tkE y n (tkE y n (tkE y n i)))))) 141 (10 + 4 * B.1.1 + 3) 0) y n (tkE y n (tkE y n (tkE y n (tkE y n i)))) := r2.st.st.st.st
  have c0 : ∀ N : sk_M, N = sk_si (sk_si (sk_si (sk_si M2 141 (10 + 4 * B.1.1 + 0) (nI (fgV y n (tkE y n i)))) 141 (10 + 4 * B.1.1 + 1) 0) 141 (10 + 4 * B.1.1 + 2) (nI (nuV y n (tkE y n (tkE y n (tkE y n i)))))) 141 (10 + 4 * B.1.1 + 3) 0 → N.1 141 (10 + 4 * B.1.1) = nI (fgV y n (tkE y n i)) ∧ N.1 141 (11 + 4 * B.1.1) = nI 0 ∧ N.1 141 (12 + 4 * B.1.1) = nI (nuV y n (tkE y n (tkE y n (tkE y n i)))) ∧ N.1 141 (13 + 4 * B.1.1) = 0 := fun N e => by
    subst e
    refine ⟨?_, ?_, ?_, ?_⟩
    · rw [rd_si, if_neg (by omega), rd_si, if_neg (by omega), rd_si, if_neg (by omega), rd_si, if_pos ⟨rfl, by omega⟩]
    · rw [rd_si, if_neg (by omega), rd_si, if_neg (by omega), rd_si, if_pos ⟨rfl, by omega⟩]; rfl
    · rw [rd_si, if_neg (by omega), rd_si, if_pos ⟨rfl, by omega⟩]
    · rw [rd_si, if_pos ⟨rfl, by omega⟩]
  have c1 := c0 _ rfl
  clear c0
  generalize sk_si (sk_si (sk_si (sk_si M2 141 (10 + 4 * B.1.1 + 0) (nI (fgV y n (tkE y n i)))) 141 (10 + 4 * B.1.1 + 1) 0) 141 (10 + 4 * B.1.1 + 2) (nI (nuV y n (tkE y n (tkE y n (tkE y n i)))))) 141 (10 + 4 * B.1.1 + 3) 0 = N at v3 r3 c1 ⊢
  have fin : ∀ (N2 : sk_M) (j g : Nat), vwF M N2 B.1.1 → RI N2 y n j → N2.1 141 (10 + 4 * B.1.1) = nI (fgV y n (tkE y n i)) → N2.1 141 (11 + 4 * B.1.1) = nI g → N2.1 141 (12 + 4 * B.1.1) = nI (nuV y n (tkE y n (tkE y n (tkE y n i)))) → N2.1 141 (13 + 4 * B.1.1) = 0 → pVault y n i B = .inr (j, bV B (fgV y n (tkE y n i)) (nuV y n (tkE y n (tkE y n (tkE y n i)))) g) → w_X8_allForget (nI B.1.1) N2 (fun M122 => sLet (sk_si M122 141 0 ((M122.1 141 0) + (1 : Int32))) fun M134 => Q (1 : Int32) M134) := by
    intro N2 j g f2 r2 e0 e1 e2 e3 eq
    refine s8_allForget h6 (sLet_i ?_)
    rw [knA_1, f2.2.2.2 0 (by omega), h.2.2.2.1.1, nI_1]
    refine hQ.1 _ eq _ (bkR_V h hB h6 n0 f2 e0 e1 e2 e3) ?_
    exact RI.st (r2.cg (by rw [knA_1]) (by rw [knA_1]) (by rw [knA_1]))
  refine r8_passes (j := 2) (by decide) r3 (fun w M3 g3 r4 e3 => sLet_i ?_) (fun w M3 g3 r4 e3 => sLet_i ?_)
  rotate_left
  · refine i_f (fun z => z rfl) ?_
    have e141 : M3.1 141 = N.1 141 := g3.1 141 (by decide)
    refine fin M3 _ 0 (v3.rt g3) r4 ?_ ?_ ?_ ?_ (by unfold pVault; rw [iF_t h6, iF_t f1, iF_t p1, iF_t w1', iF_f w])
    · rw [e141]; exact c1.1
    · rw [e141]; exact c1.2.1
    · rw [e141]; exact c1.2.2.1
    · rw [e141]; exact c1.2.2.2
  refine i_t (by decide) ?_
  have e141 : M3.1 141 = N.1 141 := g3.1 141 (by decide)
  obtain ⟨p4, q4, _, h4n⟩ := id r4
  have n4 := q4.2.1
  refine lp_ix (I := fun q s => ∃ k j g, g < 128 ∧ pG y n (n + 1) (tkE y n (tkE y n (tkE y n (tkE y n (tkE y n i))))) 0 = pG y n (k + 1) j g ∧ n < j + k + 1 ∧ j ≤ n ∧ q = n - j ∧ RI s y n j ∧ vwF M s B.1.1 ∧ s.1 141 (10 + 4 * B.1.1) = nI (fgV y n (tkE y n i)) ∧ s.1 141 (11 + 4 * B.1.1) = nI g ∧ s.1 141 (12 + 4 * B.1.1) = nI (nuV y n (tkE y n (tkE y n (tkE y n i)))) ∧ s.1 141 (13 + 4 * B.1.1) = 0) (fun q s c hI hc => ?_) sk_F (n - tkE y n (tkE y n (tkE y n (tkE y n (tkE y n i))))) M3 ⟨n, _, 0, by decide, rfl, by omega, h4n, rfl, r4, v3.rt g3, by rw [e141]; exact c1.1, by rw [e141]; exact c1.2.1, by rw [e141]; exact c1.2.2.1, by rw [e141]; exact c1.2.2.2⟩ (Nat.lt_of_le_of_lt (Nat.sub_le _ _) (Nat.lt_of_le_of_lt n4 (by decide)))
  obtain ⟨k, j, g, hg, eq, hk, hj, rfl, rj, fj, q0, q1, q2, q3⟩ := hI
  unfold w_X8_readVault_L80
  refine r8_number (hi := 6) rj (fun w2 N3 g3 r5 b5 => ?_) (fun w2 N3 g3 _ b5 => ?_)
  rotate_left
  · have w2' : ¬ (isNu y n j ∧ nuV y n j ≤ 6) := fun u => w2 ⟨u.1, (le_N (nuV_lt hj u.1) (by decide)).mpr u.2⟩
    rw [pG_f w2'] at eq
    refine i_t m1_n0 ?_
    exact hQ.2 _ (by unfold pVault; rw [iF_t h6, iF_t f1, iF_t p1, iF_t w1', iF_t w, eq]; rfl) N3 (h.vZ (fj.rt g3) b5)
  have v6 := nuV_lt hj w2.1
  have w6 : nuV y n j ≤ 6 := (le_N v6 (by decide)).mp w2.2
  refine i_f (fun z => z (p0 (by omega))) (s8_of' h6 (s8_sets (k := 1) h6 (by decide) ?_))
  have d3 : N3.1 141 = s.1 141 := g3.1 141 (by decide)
  rw [d3, q1, set_N (by omega)]
  have fj2 := (fj.rt g3).st (k := 1) (x := nI (g ||| 2 ^ nuV y n j)) (by decide)
  have rj2 : RI (sk_si N3 141 (10 + 4 * B.1.1 + 1) (nI (g ||| 2 ^ nuV y n j))) y n (tkE y n j) := r5.st
  refine r8_isFigure rj2 (fun N4 g4 r6 => ?_)
  have gt2 := nu_gt hj w2.1
  have d4 : N4.1 141 = (sk_si N3 141 (10 + 4 * B.1.1 + 1) (nI (g ||| 2 ^ nuV y n j))).1 141 := g4.1 141 (by decide)
  have u0 : N4.1 141 (10 + 4 * B.1.1) = nI (fgV y n (tkE y n i)) := by rw [d4, rd_si, if_neg (by omega), d3]; exact q0
  have u1 : N4.1 141 (11 + 4 * B.1.1) = nI (g ||| 2 ^ nuV y n j) := by rw [d4, rd_si, if_pos ⟨rfl, by omega⟩]
  have u2 : N4.1 141 (12 + 4 * B.1.1) = nI (nuV y n (tkE y n (tkE y n (tkE y n i)))) := by rw [d4, rd_si, if_neg (by omega), d3]; exact q2
  have u3 : N4.1 141 (13 + 4 * B.1.1) = 0 := by rw [d4, rd_si, if_neg (by omega), d3]; exact q3
  by_cases v : tkK y n (tkE y n j) = 2
  · rw [pG_m ⟨w2.1, w6⟩ v] at eq
    refine i_f (by rw [bI_t v]; decide) ?_
    cases k with
    | zero => omega
    | succ k => exact hc (n - tkE y n j) _ (by omega) ⟨k, tkE y n j, g ||| 2 ^ nuV y n j, bit7 hg w6, eq, by omega, gt2.2, rfl, r6, fj2.rt g4, u0, u1, u2, u3⟩
  · rw [pG_e ⟨w2.1, w6⟩ v] at eq
    refine i_t (bI_f v) ?_
    exact fin N4 _ _ (fj2.rt g4) r6 u0 u1 u2 u3 (by unfold pVault; rw [iF_t h6, iF_t f1, iF_t p1, iF_t w1', iF_t w, eq]; rfl)
theorem r8_readPerson {M0 M : sk_M} {Q : Int32 → sk_M → Prop} {nv0 np0 : Nat} {B : BS} {y : Nat → Nat} {n i : Nat} (h : bkR M0 M nv0 np0 B) (hB : bsB B) (n0 : np0 ≤ B.1.2.1) (hw : RW M y n i) (k3 : isWd y n i 3) (hQ : bkQ M0 nv0 np0 y n (iF (B.1.2.1 < 6) (.inr (tkE y n i, bP B)) (.inl (tkA y n i))) Q) : w_X8_readPerson M Q := by
  have b7 := hB.2.1
  unfold w_X8_readPerson
  have ev : f_X8_people M = nI B.1.2.1 := h.2.2.2.1.2.1
  rw [ev]
  by_cases h6 : B.1.2.1 < 6
  rotate_left
  · refine i_t (by rw [show B.1.2.1 = 6 by omega]; rfl) ?_
    exact hQ.2 _ (by rw [iF_f h6]) M (h.Z rtF.refl hw.2.2)
  refine i_f (fun z => by have := (nI_eq (b := 6) (by omega) (by decide)).mp z; omega) ?_
  refine lp_to (fun v => (nI v, knB M 146 B.1.2.1 v)) 6 (by decide) (fun v hv c hc => ?_) (fun c => ?_)
  · unfold w_X8_readPerson_L13
    refine i_t (nI_ge hv (by decide)) ?_
    dsimp only
    have ep : f_X8_people (knB M 146 B.1.2.1 v) = nI B.1.2.1 := by unfold f_X8_people; rw [knB_1]; exact h.2.2.2.1.2.1
    rw [ep]
    refine s8_forgets h6 hv ?_
    rw [nI_1]
    exact hc
  · unfold w_X8_readPerson_L13
    refine i_f (nn (n := 6) (by decide)) (sLet_i ?_)
    dsimp only
    rw [knB_1, h.2.2.2.1.2.1, nI_1]
    refine hQ.1 _ (by rw [iF_t h6]) _ (bkR_P h hB n0) ?_
    exact RI.st ((hw.E k3).cg (by rw [knB_1]) (by rw [knB_1]) (by rw [knB_1]))
theorem r8_readContract {M0 M : sk_M} {Q : Int32 → sk_M → Prop} {nv0 np0 : Nat} {B : BS} {y : Nat → Nat} {n i j : Nat} {o : Prop} {a1 : Int32} (ho : ¬ (a1 = 0) ↔ o) (h : bkR M0 M nv0 np0 B) (hB : bsB B) (hw : RW M y n i) (k0 : isWd y n i j) (hQ : bkQ M0 nv0 np0 y n (pCon y n i o B) Q) : w_X8_readContract a1 M Q := by
  obtain ⟨b6, b7, b8, _⟩ := id hB
  unfold w_X8_readContract
  have ec : f_X8_contracts M = nI B.1.2.2.1 := h.2.2.2.1.2.2.1
  rw [ec]
  by_cases h6 : B.1.2.2.1 < 12
  rotate_left
  · refine i_t (by rw [show B.1.2.2.1 = 12 by omega]; rfl) ?_
    exact hQ.2 _ (by unfold pCon; rw [iF_f h6]) M (h.Z rtF.refl hw.2.2)
  refine i_f (fun z => by have := (nI_eq (b := 12) (by omega) (by decide)).mp z; omega) ?_
  have hr := hw.E k0
  have h1n := (wd_gt hw.1 k0).2
  unfold w_X8_personTold
  have ep : f_X8_people M = nI B.1.2.1 := h.2.2.2.1.2.1
  rw [ep]
  refine r8_number hr (fun f1 M1 g1 r1 _ => sLet_i ?_) (fun f1 M1 g1 _ e1 => sLet_i ?_)
  rotate_left
  · have f1' : ¬ (isNu y n (tkE y n i) ∧ nuV y n (tkE y n i) < B.1.2.1) := fun u => f1 ⟨u.1, (le_p1 (nuV_lt h1n u.1) (by omega)).mpr u.2⟩
    refine i_t m1_n0 (i_t m1_n0 ?_)
    exact hQ.2 _ (by unfold pCon; rw [iF_t h6, iF_f f1']) M1 (h.Z g1 e1)
  have v1 := nuV_lt h1n f1.1
  have f1' : isNu y n (tkE y n i) ∧ nuV y n (tkE y n i) < B.1.2.1 := ⟨f1.1, (le_p1 v1 (by omega)).mp f1.2⟩
  have h2n := (nu_gt h1n f1.1).2
  refine i_f (fun z => z (p0 (by omega))) ?_
  have hM1 := h.rt g1
  unfold w_X8_vaultTold
  have ev : f_X8_vaults M1 = nI B.1.1 := hM1.2.2.2.1.1
  rw [ev]
  refine r8_number r1 (fun f2 M2 g2 r2 _ => ?_) (fun f2 M2 g2 _ e2 => ?_)
  rotate_left
  · have f2' : ¬ (isNu y n (tkE y n (tkE y n i)) ∧ nuV y n (tkE y n (tkE y n i)) < B.1.1) := fun u => f2 ⟨u.1, (le_p1 (nuV_lt h2n u.1) (by omega)).mpr u.2⟩
    refine i_t m1_n0 ?_
    exact hQ.2 _ (by unfold pCon; rw [iF_t h6, iF_t f1', iF_f f2']) M2 (h.Z (g1.trans g2) e2)
  have v2 := nuV_lt h2n f2.1
  have f2' : isNu y n (tkE y n (tkE y n i)) ∧ nuV y n (tkE y n (tkE y n i)) < B.1.1 := ⟨f2.1, (le_p1 v2 (by omega)).mp f2.2⟩
  have h3n := (nu_gt h2n f2.1).2
  refine i_f (fun z => z (p0 (by omega))) (sLet_i ?_)
  have hM2 := hM1.rt g2
  have fin : ∀ (M5 : sk_M) (x : Nat) (d : Int32), bkR M0 M5 nv0 np0 B → RI M5 y n x → (¬ (a1 = 0) → ∃ k, k < 1000 ∧ d = nI k) → (a1 = 0 → d = -1) → pCon y n i o B = .inr (x, bC B (nI (nuV y n (tkE y n i)), nI (nuV y n (tkE y n (tkE y n i))), d)) → if (¬ (a1 = 0) ∧ (¬ (0 ≤ d))) then Q (0 : Int32) M5 else (sLet ((34 : Int32) + ((4 : Int32) * (f_X8_contracts M5))) fun y75 => sLet (if (¬ (a1 = 0)) then (1 : Int32) else (0 : Int32) : Int32) fun s94_86 => vp_in (y75 + (0 : Int32)) 2260 ∧ sLet (sk_si M5 141 (y75 + (0 : Int32)).toNatClampNeg s94_86) fun M94 => vp_in (y75 + (1 : Int32)) 2260 ∧ sLet (sk_si M94 141 (y75 + (1 : Int32)).toNatClampNeg (nI (nuV y n (tkE y n i)))) fun M104 => vp_in (y75 + (2 : Int32)) 2260 ∧ sLet (sk_si M104 141 (y75 + (2 : Int32)).toNatClampNeg (nI (nuV y n (tkE y n (tkE y n i))))) fun M114 => vp_in (y75 + (3 : Int32)) 2260 ∧ sLet (sk_si M114 141 (y75 + (3 : Int32)).toNatClampNeg d) fun M125 => sLet (sk_si M125 141 2 ((M125.1 141 2) + (1 : Int32))) fun M135 => Q (1 : Int32) M135) := by
    intro M5 x d b5 r5 hd1 hd0 eq
    refine i_f (fun z => ?_) ?_
    · obtain ⟨k, hk, e⟩ := hd1 z.1
      rw [e] at z
      exact z.2 (p0 (by omega))
    · have e5 : f_X8_contracts M5 = nI B.1.2.2.1 := b5.2.2.2.1.2.2.1
      rw [e5]
      refine sLet_i (sLet_i ?_)
      generalize hb9 : (if (¬ (a1 = 0)) then (1 : Int32) else (0 : Int32)) = b9
      simp (disch := omega) only [sk_lit, pk_mul, nI_add, nI_clamp, vpT]
      refine ⟨trivial, sLet_i ⟨trivial, sLet_i ⟨trivial, sLet_i ⟨trivial, sLet_i (sLet_i ?_)⟩⟩⟩⟩
      rw [show 34 + 4 * B.1.2.2.1 + 0 = 34 + 4 * B.1.2.2.1 by omega, show 34 + 4 * B.1.2.2.1 + 1 = 35 + 4 * B.1.2.2.1 by omega, show 34 + 4 * B.1.2.2.1 + 2 = 36 + 4 * B.1.2.2.1 by omega, show 34 + 4 * B.1.2.2.1 + 3 = 37 + 4 * B.1.2.2.1 by omega]
      have e2 : (sk_si (sk_si (sk_si (sk_si M5 141 (34 + 4 * B.1.2.2.1) b9) 141 (35 + 4 * B.1.2.2.1) (nI (nuV y n (tkE y n i)))) 141 (36 + 4 * B.1.2.2.1) (nI (nuV y n (tkE y n (tkE y n i))))) 141 (37 + 4 * B.1.2.2.1) d).1 141 2 = nI B.1.2.2.1 := by
        rw [rd_si, if_neg (by omega), rd_si, if_neg (by omega), rd_si, if_neg (by omega), rd_si, if_neg (by omega)]
        exact e5
      rw [e2, nI_add]
      refine hQ.1 _ eq _ (bkR_C (x := (nI (nuV y n (tkE y n i)), nI (nuV y n (tkE y n (tkE y n i))), d)) b5 hB h6 ?_) r5.st.st.st.st.st
      show b9 = bI (¬ d = -1)
      rw [← hb9]
      by_cases z : a1 = 0
      · rw [if_neg (fun w => w z), bI_f (fun w => w (hd0 z))]
      · obtain ⟨k, hk, e⟩ := hd1 z
        rw [if_pos z, bI_t (by rw [e]; exact nI_m1 (by omega))]
  by_cases z : a1 = 0
  · have no : ¬ o := fun w => ho.mpr w z
    refine i_f (fun w => w z) ?_
    exact fin M2 _ _ hM2 r2 (fun w => absurd z w) (fun _ => rfl) (by unfold pCon; rw [iF_t h6, iF_t f1', iF_t f2', iF_f no])
  · have yo : o := ho.mp z
    refine i_t z ?_
    refine r8_after (j := 6) (hi := 999) (by decide) r2 (fun p1 f4 M3 g3 r3 => ?_) (fun p1 f4 M3 g3 e3 => ?_) (fun p1 M3 g3 e3 => ?_)
    · have h4n := (wd_gt h3n p1).2
      have v4 := nuV_lt h4n f4.1
      have f4' : isNu y n (tkE y n (tkE y n (tkE y n (tkE y n i)))) ∧ nuV y n (tkE y n (tkE y n (tkE y n (tkE y n i)))) ≤ 999 := ⟨f4.1, (le_N v4 (by decide)).mp f4.2⟩
      exact fin M3 _ _ (hM2.rt g3) r3 (fun _ => ⟨_, v4, rfl⟩) (fun w => absurd w z) (by unfold pCon; rw [iF_t h6, iF_t f1', iF_t f2', iF_t yo, iF_t p1, iF_t f4'])
    · have h4n := (wd_gt h3n p1).2
      have f4' : ¬ (isNu y n (tkE y n (tkE y n (tkE y n (tkE y n i)))) ∧ nuV y n (tkE y n (tkE y n (tkE y n (tkE y n i)))) ≤ 999) := fun u => f4 ⟨u.1, (le_N (nuV_lt h4n u.1) (by decide)).mpr u.2⟩
      refine i_t ⟨z, m1_n0⟩ ?_
      exact hQ.2 _ (by unfold pCon; rw [iF_t h6, iF_t f1', iF_t f2', iF_t yo, iF_t p1, iF_f f4']) M3 (h.Z ((g1.trans g2).trans g3) e3)
    · refine i_t ⟨z, m1_n0⟩ ?_
      exact hQ.2 _ (by unfold pCon; rw [iF_t h6, iF_t f1', iF_t f2', iF_t yo, iF_f p1]) M3 (h.Z ((g1.trans g2).trans g3) e3)
