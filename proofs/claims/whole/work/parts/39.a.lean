/-! clicks laid, click, sound, deaf -/
def layF (M M' : sk_M) (cl : Nat → Int32) : Prop := (∀ c, c ≠ 153 → c ≠ 154 → M'.1 c = M.1 c) ∧ M'.2 = M.2 ∧ ∀ i, i < 108 → M'.1 154 i = cl i
def layI (M M' : sk_M) (cl : Nat → Int32) (n : Nat) : Prop := (∀ c, c ≠ 153 → c ≠ 154 → M'.1 c = M.1 c) ∧ M'.2 = M.2 ∧ ∀ i, i < n → M'.1 154 i = cl i
theorem layI_step {M M' M'' : sk_M} {cl : Nat → Int32} {n : Nat} (h : layI M M' cl n) (h1 : ∀ c, c ≠ 153 → M''.1 c = M'.1 c) (h2 : M''.2 = M'.2) : layI M (sk_si M'' 154 n (cl n)) cl (n + 1) := by
  refine ⟨fun c q1 q2 => by rw [si_c q2, h1 c q1, h.1 c q1 q2], by rw [si_2, h2, h.2.1], fun i hi => ?_⟩
  rw [rd_si]
  by_cases q : i = n
  · subst q; rw [if_pos ⟨rfl, rfl⟩]
  · rw [if_neg (by omega), h1 154 (by omega)]
    exact h.2.2 i (by omega)
theorem s8_laysClicks {M : sk_M} {Q : sk_M → Prop} {cl : Nat → Int32} (hcl : clkS (M.1 141) cl) (h : ∀ M', layF M M' cl → Q M') : w_X8_laysClicks M Q := by
  unfold w_X8_laysClicks
  refine lp_inv (fun w s => s.1 = nI w ∧ layI M s.2 cl (36 * w)) 3 (by decide) ⟨rfl, fun _ _ _ => rfl, rfl, fun i hi => absurd hi (by omega)⟩ (fun w hw s c hI hc => ?_) (fun s c hI => ?_)
  · obtain ⟨sw, sM⟩ := s
    obtain ⟨rfl, hI⟩ := hI
    unfold w_X8_laysClicks_L2
    refine i_t (nI_ge hw (by decide)) ?_
    refine lp_inv (fun t s => s.1 = nI t ∧ layI M s.2 cl (36 * w + 6 * t)) 6 (by decide) ⟨rfl, hI⟩ (fun t ht s c2 hI2 hc2 => ?_) (fun s c2 hI2 => ?_)
    · obtain ⟨st, sN⟩ := s
      obtain ⟨rfl, hI2⟩ := hI2
      unfold w_X8_laysClicks_L9
      refine i_t (nI_ge ht (by decide)) ?_
      refine lp_inv (fun x s => s.1 = nI x ∧ layI M s.2 cl (36 * w + 6 * t + x)) 6 (by decide) ⟨rfl, hI2⟩ (fun x hx s c3 hI3 hc3 => ?_) (fun s c3 hI3 => ?_)
      · obtain ⟨sx, sO⟩ := s
        obtain ⟨rfl, hI3⟩ := hI3
        unfold w_X8_laysClicks_L17
        refine i_t (nI_ge hx (by decide)) ?_
        refine hcl w hw t ht x hx _ _ (by rw [hI3.1 141 (by decide) (by decide)]) (fun k _ _ => by rw [hI3.1 141 (by decide) (by decide)]) (fun M' h1 h2 => ?_)
        show vp_in (f_X8_clickAt (nI w) (nI t) (nI x)) 108 ∧ sLet (sk_si M' 154 (f_X8_clickAt (nI w) (nI t) (nI x)).toNatClampNeg _) fun M40 => c3 (nI x + 1, M40)
        rw [clk_N]
        refine ⟨vp_in_nI (by omega) (by decide), sLet_i ?_⟩
        rw [nI_clamp (by omega), nI_1, show 6 * (6 * w + t) + x = 36 * w + 6 * t + x by omega]
        exact hc3 _ ⟨rfl, layI_step hI3 h1 h2⟩
      · obtain ⟨sx, sO⟩ := s
        obtain ⟨rfl, hI3⟩ := hI3
        unfold w_X8_laysClicks_L17
        refine i_f (nn (n := 6) (by decide)) ?_
        show c2 (nI t + 1, sO)
        rw [nI_1]
        exact hc2 _ ⟨rfl, hI3⟩
    · obtain ⟨st, sN⟩ := s
      obtain ⟨rfl, hI2⟩ := hI2
      unfold w_X8_laysClicks_L9
      refine i_f (nn (n := 6) (by decide)) ?_
      show c (nI w + 1, sN)
      rw [nI_1]
      exact hc _ ⟨rfl, hI2⟩
  · obtain ⟨sw, sM⟩ := s
    obtain ⟨rfl, hI⟩ := hI
    unfold w_X8_laysClicks_L2
    exact i_f (nn (n := 3) (by decide)) (h _ hI)
theorem layF.toR {M M' : sk_M} {cl : Nat → Int32} (h : layF M M' cl) : scR M M' :=
  ⟨fun c hc => h.1 c (by omega) (by omega), fun k _ => by rw [h.1 140 (by omega) (by omega)], fun c _ => by rw [h.2.1], fun hz i hi => by rw [h.1 155 (by omega) (by omega)]; exact hz i hi⟩
theorem layF.sc0 {M M' : sk_M} {cl : Nat → Int32} (h : layF (sk_si M 140 0 0) M' cl) : scR M M' ∧ M'.1 140 0 = 0 := ⟨scR_th.trans h.toR, by rw [h.1 140 (by omega) (by omega)]; exact th_0⟩
theorem sndC_cg {f g : Nat → Int32} (h : ∀ i, i < 108 → f i = g i) {t c : Nat} (ht : t < 216) (hc : c < 216) : sndC f t c = sndC g t c := by
  unfold sndC
  rw [h _ (by omega), h _ (by omega), h _ (by omega)]
theorem st_click {M : sk_M} (h : Inv M) (a b d : Int32) : StI Inv (fun Q X => w_X7_click a b d M (fun r => Q r M) (fun e => X e M)) (w_X8_click a b d) ["java/lang/IndexOutOfBoundsException", "java/lang/IllegalArgumentException"] := by
  unfold StI w_X7_click
  have hL := h.1.2
  by_cases ha : vp_in a 3
  · refine n7_W_y ha ?_
    have g1 : (if ((f_X8_in a (0 : Int32) (2 : Int32)) = 0) then (1 : Int32) else (0 : Int32)) = 0 := by rw [inN_y 3 (by decide) (by decide) ha, if_neg (by decide)]
    by_cases hbd : vp_in b 6 ∧ vp_in d 6
    · obtain ⟨hb, hd⟩ := hbd
      have g2 : (if (((f_X8_in b (0 : Int32) (5 : Int32)) = 0) ∨ ((f_X8_in d (0 : Int32) (5 : Int32)) = 0)) then (1 : Int32) else (0 : Int32)) = 0 := by rw [inN_y 6 (by decide) (by decide) hb, inN_y 6 (by decide) (by decide) hd, if_neg (by decide)]
      obtain ⟨w, hw, rfl⟩ := vp_in_of ha (by decide)
      obtain ⟨t, ht, rfl⟩ := vp_in_of hb (by decide)
      obtain ⟨c, hc, rfl⟩ := vp_in_of hd (by decide)
      refine i_f ?_ ?_
      · rintro (q | q | q | q)
        · exact nI_pos (by omega) q
        · exact nI_ge ht (by decide) q
        · exact nI_pos (by omega) q
        · exact q (nI_lt hc (by decide))
      have ei : (((nI w * (36 : Int32)) + (nI t * (6 : Int32))) + nI c) = nI (36 * w + 6 * t + c) := by
        simp only [sk_lit, pk_mul, nI_add]
        congr 1
        omega
      rw [ei]
      refine ⟨vp_in_nI (by omega) (by decide), ?_⟩
      rw [nI_clamp (by omega), Nat.zero_add]
      unfold w_X8_click
      refine sLet_i (sLet_i (gY' g1 (sLet_i (gY g2 ?_))))
      refine hL.2.1 w hw t ht c hc _ _ rfl (fun _ _ _ => rfl) (fun M' h1 h2 => ?_)
      refine due h ⟨fun c' hc' => ?_, fun k hk => ?_, fun c' hc' => ?_, fun hz i hi => ?_⟩ ?_ rfl
      · rw [h1 c' (by omega), si_c (by omega)]
      · rw [h1 140 (by omega), rd_si, if_neg (by omega)]
      · rw [h2]; rfl
      · rw [h1 155 (by omega), si_c (by omega)]
        exact hz i hi
      · rw [h1 140 (by omega)]
        exact th_0
    · refine i_t ?_ ⟨1, rfl, ?_⟩
      · by_cases hb : vp_in b 6
        · rcases vp_no (n := 6) (by decide) (fun q => hbd ⟨hb, q⟩) with q | q
          · exact Or.inr (Or.inr (Or.inl q))
          · exact Or.inr (Or.inr (Or.inr q))
        · rcases vp_no (n := 6) (by decide) hb with q | q
          · exact Or.inl q
          · exact Or.inr (Or.inl (Classical.byContradiction fun z => q (nlt_le.mp z)))
      · unfold w_X8_click
        refine sLet_i (sLet_i (gY' g1 (sLet_i (gN (if_pos ?_) (dueX h rfl)))))
        by_cases hb : vp_in b 6
        · exact Or.inr (inN_n 6 (by decide) (by decide) (fun q => hbd ⟨hb, q⟩))
        · exact Or.inl (inN_n 6 (by decide) (by decide) hb)
  · refine n7_W_n ha ⟨0, rfl, ?_⟩
    unfold w_X8_click
    refine sLet_i (sLet_i (gN' (if_pos ?_) (dueX h rfl)))
    exact inN_n 3 (by decide) (by decide) ha
theorem st_sound {M : sk_M} (h : Inv M) (a b : Int32) : StI Inv (fun Q X => w_X7_sound a b M (fun r => Q r M) (fun e => X e M)) (w_X8_sound a b) ["java/lang/IndexOutOfBoundsException"] := by
  unfold StI w_X7_sound
  have hL := h.1.2
  have no : ¬ vp_in a 216 ∨ ¬ vp_in b 216 → w_X8_sound a b M (fun _ M2 => M2.1 140 0 = nI (0 + 1) ∧ Inv M2) := by
    intro q
    unfold w_X8_sound
    refine sLet_i (sLet_i (gN (if_pos ?_) (dueX h rfl)))
    by_cases hp : vp_in a 216
    · rw [noC_n (q.resolve_left (fun x => x hp))]
      exact Or.inr (by decide)
    · rw [noC_n hp]
      exact Or.inl (by decide)
  refine n7_C (fun t ht e => n7_C (fun c hc e' => ?_) (fun q => ⟨0, rfl, no (Or.inr q)⟩)) (fun q => ⟨0, rfl, no (Or.inl q)⟩)
  subst e e'
  refine c5_soundOf ht hc ?_
  unfold w_X8_sound
  refine sLet_i (sLet_i (gY (if_neg ?_) ?_))
  · rw [noC_y (vp_in_nI ht (by decide)), noC_y (vp_in_nI hc (by decide))]
    decide
  · refine s8_laysClicks (cl := M.1 7) hL.2.1 (fun M' hM' => s8_soundOf ht hc ?_)
    obtain ⟨s1, s2⟩ := hM'.sc0
    exact due h s1 s2 (sndC_cg (fun i hi => (hM'.2.2 i hi).symm) ht hc)
theorem le_totI (x y : Int32) : x ≤ y ∨ y ≤ x := by
  rw [Int32.le_iff_toInt_le, Int32.le_iff_toInt_le]
  omega
theorem le_refI (x : Int32) : x ≤ x := by rw [Int32.le_iff_toInt_le]; omega
theorem le_trI {x y z : Int32} (h : x ≤ y) (g : y ≤ z) : x ≤ z := by
  rw [Int32.le_iff_toInt_le] at *
  omega
theorem le_asI {x y : Int32} (h : x ≤ y) (g : y ≤ x) : x = y := by
  rw [Int32.le_iff_toInt_le] at *
  exact Int32.toInt_inj.mp (by omega)
theorem mxR_s {f : Nat → Int32} {a n : Nat} : mxR f a (n + 1) = mxI (mxR f a n) (f (a + (n + 1))) := rfl
theorem mnR_s {f : Nat → Int32} {a n : Nat} : mnR f a (n + 1) = mnI (mnR f a n) (f (a + (n + 1))) := rfl
theorem mxI_le {x y : Int32} : x ≤ mxI x y ∧ y ≤ mxI x y ∧ (mxI x y = x ∨ mxI x y = y) := by
  unfold mxI
  by_cases q : x < y
  · rw [if_pos q]
    exact ⟨(le_totI x y).elim id (fun z => absurd q (by rw [Int32.lt_iff_toInt_lt]; rw [Int32.le_iff_toInt_le] at z; omega)), le_refI y, Or.inr rfl⟩
  · rw [if_neg q]
    exact ⟨le_refI x, (le_totI y x).elim id (fun z => by rw [Int32.le_iff_toInt_le] at *; rw [Int32.lt_iff_toInt_lt] at q; omega), Or.inl rfl⟩
theorem mnI_le {x y : Int32} : mnI x y ≤ x ∧ mnI x y ≤ y ∧ (mnI x y = x ∨ mnI x y = y) := by
  unfold mnI
  by_cases q : y < x
  · rw [if_pos q]
    exact ⟨(le_totI y x).elim id (fun z => absurd q (by rw [Int32.lt_iff_toInt_lt]; rw [Int32.le_iff_toInt_le] at z; omega)), le_refI y, Or.inr rfl⟩
  · rw [if_neg q]
    exact ⟨le_refI x, (le_totI x y).elim id (fun z => by rw [Int32.le_iff_toInt_le] at *; rw [Int32.lt_iff_toInt_lt] at q; omega), Or.inl rfl⟩
theorem mxR_p {f : Nat → Int32} {a : Nat} : ∀ n, (∀ i, i ≤ n → f (a + i) ≤ mxR f a n) ∧ ∃ i, i ≤ n ∧ mxR f a n = f (a + i)
  | 0 => ⟨fun i hi => by have : i = 0 := by omega
                         subst this; exact le_refI _, 0, by omega, rfl⟩
  | n + 1 => by
    obtain ⟨h1, j, hj, h2⟩ := mxR_p (f := f) (a := a) n
    rw [mxR_s]
    obtain ⟨q1, q2, q3⟩ := mxI_le (x := mxR f a n) (y := f (a + (n + 1)))
    refine ⟨fun i hi => ?_, ?_⟩
    · rcases Nat.lt_or_ge i (n + 1) with z | z
      · exact le_trI (h1 i (by omega)) q1
      · have : i = n + 1 := by omega
        subst this; exact q2
    · rcases q3 with q | q
      · exact ⟨j, by omega, by rw [q, h2]⟩
      · exact ⟨n + 1, by omega, q⟩
theorem mnR_p {f : Nat → Int32} {a : Nat} : ∀ n, (∀ i, i ≤ n → mnR f a n ≤ f (a + i)) ∧ ∃ i, i ≤ n ∧ mnR f a n = f (a + i)
  | 0 => ⟨fun i hi => by have : i = 0 := by omega
                         subst this; exact le_refI _, 0, by omega, rfl⟩
  | n + 1 => by
    obtain ⟨h1, j, hj, h2⟩ := mnR_p (f := f) (a := a) n
    rw [mnR_s]
    obtain ⟨q1, q2, q3⟩ := mnI_le (x := mnR f a n) (y := f (a + (n + 1)))
    refine ⟨fun i hi => ?_, ?_⟩
    · rcases Nat.lt_or_ge i (n + 1) with z | z
      · exact le_trI q1 (h1 i (by omega))
      · have : i = n + 1 := by omega
        subst this; exact q2
    · rcases q3 with q | q
      · exact ⟨j, by omega, by rw [q, h2]⟩
      · exact ⟨n + 1, by omega, q⟩
theorem sub0I {x y : Int32} : x - y = 0 ↔ x = y := by
  constructor
  · intro h
    have := congrArg (fun z => z + y) h
    simpa using this
  · intro h
    rw [h]
    exact Int32.sub_self y
/-- a wheel told t sounds the same whatever is in the code -/
def eqW (cl : Nat → Int32) (w t : Nat) : Prop := ∀ c, c < 6 → cl (36 * w + 6 * t + c) = cl (36 * w + 6 * t)
theorem wRng_0 {cl : Nat → Int32} {w t : Nat} : wRng cl w t = 0 ↔ eqW cl w t := by
  unfold wRng
  rw [sub0I]
  obtain ⟨a1, i, hi, a2⟩ := mxR_p (f := cl) (a := 36 * w + 6 * t) 5
  obtain ⟨b1, j, hj, b2⟩ := mnR_p (f := cl) (a := 36 * w + 6 * t) 5
  constructor
  · intro h c hc
    have c1 := a1 c (by omega)
    have c2 := b1 c (by omega)
    have d1 := a1 0 (by omega)
    have d2 := b1 0 (by omega)
    rw [h] at c1 d1
    rw [le_asI c1 c2, ← le_asI d1 d2, Nat.add_zero]
  · intro h
    rw [a2, b2, h i (by omega), h j (by omega)]
