/-! turnings that sound alike but for how loud they are; their leaders -/
def alk (f : Nat → Int32) (w x y : Nat) : Prop := ∀ i, i < 6 → f (36 * w + 6 * x + i) - f (36 * w + 6 * x) = f (36 * w + 6 * y + i) - f (36 * w + 6 * y)
noncomputable def ldr (f : Nat → Int32) (w x : Nat) : Nat := sc (fun y => ¬ alk f w y x) x 0
theorem sc_stop {p : Nat → Prop} {n : Nat} : ∀ k i, i + k = n → sc p n i < n → ¬ p (sc p n i)
  | 0, i, h, h2 => by rw [sc_end (by omega)] at h2; omega
  | k + 1, i, h, h2 => by
    by_cases q : p i
    · rw [sc_go (by omega) q] at h2 ⊢
      exact sc_stop k (i + 1) (by omega) h2
    · rw [sc_no q]; exact q
theorem ldr_le {f : Nat → Int32} {w x : Nat} : ldr f w x ≤ x := (sc_le x 0 (by omega)).2
theorem ldr_al {f : Nat → Int32} {w x : Nat} : alk f w (ldr f w x) x := by
  by_cases z : ldr f w x < x
  · exact Classical.not_not.mp (sc_stop (p := fun y => ¬ alk f w y x) (n := x) x 0 (by omega) z)
  · have e : ldr f w x = x := by
      have := ldr_le (f := f) (w := w) (x := x)
      omega
    rw [e]
    exact fun i _ => rfl
theorem ldr_no {f : Nat → Int32} {w x y : Nat} (h : y < ldr f w x) : ¬ alk f w y x := sc_all (p := fun y => ¬ alk f w y x) (n := x) x 0 (by omega) y (Nat.zero_le _) h
theorem ldr_id {f : Nat → Int32} {w x : Nat} : ldr f w (ldr f w x) = ldr f w x := by
  have h1 := ldr_le (f := f) (w := w) (x := ldr f w x)
  refine Classical.byContradiction fun z => ?_
  have h2 : ldr f w (ldr f w x) < ldr f w x := by omega
  have h3 := ldr_al (f := f) (w := w) (x := ldr f w x)
  have h4 := ldr_al (f := f) (w := w) (x := x)
  exact ldr_no h2 (fun i hi => (h3 i hi).trans (h4 i hi))
/-- the leader of a turning -/
noncomputable def ldT (f : Nat → Int32) (t : Nat) : Nat := 36 * ldr f 0 (t / 36) + 6 * ldr f 1 (t / 6 % 6) + ldr f 2 (t % 6)
theorem add4 (a b c d e g : Int32) : (a + d) + (b + e) + (c + g) = (a + b + c) + (d + e + g) := by ac_rfl
theorem alk_d {f : Nat → Int32} {w x y i : Nat} (h : alk f w x y) (hi : i < 6) : f (36 * w + 6 * y + i) = f (36 * w + 6 * x + i) + (f (36 * w + 6 * y) - f (36 * w + 6 * x)) := by
  have h1 := h i hi
  generalize f (36 * w + 6 * y + i) = a at h1 ⊢
  generalize f (36 * w + 6 * x + i) = b at h1 ⊢
  generalize f (36 * w + 6 * x) = c at h1 ⊢
  generalize f (36 * w + 6 * y) = d at h1 ⊢
  have h2 : a = (b - c) + d := by rw [h1, Int32.sub_add_cancel]
  rw [h2, Int32.sub_eq_add_neg, Int32.sub_eq_add_neg]
  ac_rfl
theorem snd_d {f : Nat → Int32} {t u : Nat} (h0 : alk f 0 (u / 36) (t / 36)) (h1 : alk f 1 (u / 6 % 6) (t / 6 % 6)) (h2 : alk f 2 (u % 6) (t % 6)) : ∃ d, ∀ c, c < 216 → sndC f t c = sndC f u c + d := by
  refine ⟨(f (36 * 0 + 6 * (t / 36)) - f (36 * 0 + 6 * (u / 36))) + (f (36 * 1 + 6 * (t / 6 % 6)) - f (36 * 1 + 6 * (u / 6 % 6))) + (f (36 * 2 + 6 * (t % 6)) - f (36 * 2 + 6 * (u % 6))), fun c hc => ?_⟩
  unfold sndC
  have e0 := alk_d h0 (i := c / 36) (by omega)
  have e1 := alk_d h1 (i := c / 6 % 6) (by omega)
  have e2 := alk_d h2 (i := c % 6) (by omega)
  rw [show t / 36 * 6 + c / 36 = 36 * 0 + 6 * (t / 36) + c / 36 by omega, show 36 + t / 6 % 6 * 6 + c / 6 % 6 = 36 * 1 + 6 * (t / 6 % 6) + c / 6 % 6 by omega, show 72 + t % 6 * 6 + c % 6 = 36 * 2 + 6 * (t % 6) + c % 6 by omega, e0, e1, e2]
  rw [show u / 36 * 6 + c / 36 = 36 * 0 + 6 * (u / 36) + c / 36 by omega, show 36 + u / 6 % 6 * 6 + c / 6 % 6 = 36 * 1 + 6 * (u / 6 % 6) + c / 6 % 6 by omega, show 72 + u % 6 * 6 + c % 6 = 36 * 2 + 6 * (u % 6) + c % 6 by omega]
  exact add4 _ _ _ _ _ _
theorem ldT_dig {f : Nat → Int32} {t : Nat} (ht : t < 216) : ldT f t < 216 ∧ ldT f t ≤ t ∧ ldT f t / 36 = ldr f 0 (t / 36) ∧ ldT f t / 6 % 6 = ldr f 1 (t / 6 % 6) ∧ ldT f t % 6 = ldr f 2 (t % 6) := by
  have h0 := ldr_le (f := f) (w := 0) (x := t / 36)
  have h1 := ldr_le (f := f) (w := 1) (x := t / 6 % 6)
  have h2 := ldr_le (f := f) (w := 2) (x := t % 6)
  unfold ldT
  generalize ldr f 0 (t / 36) = a at h0 ⊢
  generalize ldr f 1 (t / 6 % 6) = b at h1 ⊢
  generalize ldr f 2 (t % 6) = c at h2 ⊢
  omega
theorem ldT_al {f : Nat → Int32} (hB : clB f) {t : Nat} (ht : t < 216) : alT f t (ldT f t) := by
  obtain ⟨g0, g1, g2, g3, g4⟩ := ldT_dig (f := f) ht
  obtain ⟨d, hd⟩ := snd_d (f := f) (t := t) (u := ldT f t) (by rw [g2]; exact ldr_al) (by rw [g3]; exact ldr_al) (by rw [g4]; exact ldr_al)
  intro c c' hc hc'
  rw [← sl_eq hB ht hc hc', ← sl_eq hB g0 hc hc', hd c hc, hd c' hc']
  constructor
  · intro z
    have w := congrArg (fun x => x - d) z
    rwa [Int32.add_sub_cancel, Int32.add_sub_cancel] at w
  · intro z; rw [z]
theorem c4_alike {M : sk_M} {Q : Int32 → Prop} {w x y : Nat} (hw : w < 3) (hx : x < 6) (hy : y < 6) (h : Q (bI (alk (M.1 7) w x y))) : w_X4_soundsAlike (nI w) (nI x) (nI y) M Q := by
  unfold w_X4_soundsAlike
  refine sLet_i (sLet_i ?_)
  simp only [sk_lit, pk_mul, nI_add]
  have e0 : (nI 1 : Int32) = nI (0 + 1) := rfl
  rw [e0]
  refine lp_inx (fun i s => s = nI (i + 1) ∧ ∀ j, j < i + 1 → (M.1 7) (36 * w + 6 * x + j) - (M.1 7) (36 * w + 6 * x) = (M.1 7) (36 * w + 6 * y + j) - (M.1 7) (36 * w + 6 * y)) 5 (by decide) ⟨rfl, fun j hj => ?_⟩ (fun i hi s c hI hc => ?_)
  · have : j = 0 := by omega
    subst this
    rw [Nat.add_zero, Nat.add_zero, Int32.sub_self, Int32.sub_self]
  · obtain ⟨rfl, i1⟩ := hI
    unfold w_X4_soundsAlike_L34
    by_cases q : i < 5
    · refine i_t (nI_ge (b := 6) (by omega) (by decide)) ?_
      simp (disch := omega) only [sk_lit, nI_add, pk_mul, pk_divN, rmN, pk_sub, nI_clamp, nI_leI, nI_ltI, nI_eq, vpT, mnN, mxN, Nat.zero_add]
      rw [show w * 36 + x * 6 + (i + 1) = 36 * w + 6 * x + (i + 1) by omega, show w * 36 + x * 6 = 36 * w + 6 * x by omega, show w * 36 + y * 6 + (i + 1) = 36 * w + 6 * y + (i + 1) by omega, show w * 36 + y * 6 = 36 * w + 6 * y by omega]
      refine ⟨trivial, trivial, trivial, trivial, i_b (fun q2 => ?_) (fun q2 => ?_)⟩
      · rw [bI_f (show ¬ alk (M.1 7) w x y from fun z => q2 (z (i + 1) (by omega)))] at h
        exact h
      · refine hc _ q ⟨rfl, fun j hj => ?_⟩
        by_cases z : j = i + 1
        · rw [z]; exact Classical.not_not.mp q2
        · exact i1 j (by omega)
    · have e : i = 5 := by omega
      subst e
      refine i_f (nn (n := 6) (by decide)) ?_
      rw [bI_t (show alk (M.1 7) w x y from fun j hj => i1 j (by omega))] at h
      exact h
/-- the leaders stand in their row -/
def LdR (f : Nat → Int32) (M : sk_M) : Prop := ∀ w, w < 3 → ∀ x, x < 6 → M.1 137 (6 * w + x) = nI (ldr f w x)
theorem c4_findLeaders {M : sk_M} {Q : sk_M → Prop} (h : ∀ M', (∀ c, c ≠ 137 → M'.1 c = M.1 c) → M'.2 = M.2 → LdR (M.1 7) M' → Q M') : w_X4_findLeaders M Q := by
  unfold w_X4_findLeaders
  refine lp_inv (fun w s => s.1 = nI w ∧ (∀ c, c ≠ 137 → s.2.1 c = M.1 c) ∧ s.2.2 = M.2 ∧ ∀ w', w' < w → ∀ x, x < 6 → s.2.1 137 (6 * w' + x) = nI (ldr (M.1 7) w' x)) 3 (by decide) ⟨rfl, fun _ _ => rfl, rfl, fun w' hw' => absurd hw' (by omega)⟩ (fun w hw s c hI hc => ?_) (fun s c hI => ?_)
  · obtain ⟨s1, sM⟩ := s
    obtain ⟨rfl, i1, i2, i3⟩ := hI
    unfold w_X4_findLeaders_L2
    refine i_t (nI_ge hw (by decide)) ?_
    refine lp_inv (fun x s => s.1 = nI x ∧ (∀ c, c ≠ 137 → s.2.1 c = M.1 c) ∧ s.2.2 = M.2 ∧ (∀ w', w' < w → ∀ x, x < 6 → s.2.1 137 (6 * w' + x) = nI (ldr (M.1 7) w' x)) ∧ ∀ x', x' < x → s.2.1 137 (6 * w + x') = nI (ldr (M.1 7) w x')) 6 (by decide) ⟨rfl, i1, i2, i3, fun x' hx' => absurd hx' (by omega)⟩ (fun x hx s c2 hJ hc2 => ?_) (fun s c2 hJ => ?_)
    · obtain ⟨t1, tM⟩ := s
      obtain ⟨rfl, j1, j2, j3, j4⟩ := hJ
      unfold w_X4_findLeaders_L9
      refine i_t (nI_ge hx (by decide)) ?_
      have lx := ldr_le (f := M.1 7) (w := w) (x := x)
      have e7 : tM.1 7 = M.1 7 := j1 7 (by omega)
      refine lp_to (fun j => nI j) (ldr (M.1 7) w x) (Nat.lt_of_le_of_lt lx (Nat.lt_of_lt_of_le hx (by decide))) (fun j hj k hk => ?_) (fun k => ?_)
      · unfold w_X4_findLeaders_L17
        refine i_t (nI_ge (by omega) (by omega)) (c4_alike hw (by omega) hx ?_)
        dsimp only
        rw [e7, bI_f (ldr_no hj)]
        refine i_t rfl ?_
        rw [nI_1]
        exact hk
      · have fin : vp_in ((nI w * (6 : Int32)) + nI x) 18 ∧ sLet (sk_si tM 137 ((nI w * (6 : Int32)) + nI x).toNatClampNeg (nI (ldr (M.1 7) w x))) fun M49 => c2 ((nI x + (1 : Int32)), M49) := by
          simp (disch := omega) only [sk_lit, nI_add, pk_mul, pk_divN, rmN, pk_sub, nI_clamp, nI_leI, nI_ltI, nI_eq, vpT, mnN, mxN]
          refine ⟨trivial, sLet_i (hc2 _ ⟨rfl, fun c hc => by rw [si_c hc]; exact j1 c hc, by rw [si_2]; exact j2, fun w' hw' x' hx' => ?_, fun x' hx' => ?_⟩)⟩
          · rw [rd_si, if_neg (fun z => by omega)]
            exact j3 w' hw' x' hx'
          · by_cases z : x' = x
            · rw [rd_si, if_pos ⟨rfl, by omega⟩, z]
            · rw [rd_si, if_neg (fun y => by omega)]
              exact j4 x' (by omega)
        unfold w_X4_findLeaders_L17
        refine i_b (fun q => c4_alike hw (by omega) hx ?_) (fun q => fin)
        dsimp only
        rw [e7, bI_t ldr_al]
        exact i_f (by decide) fin
    · obtain ⟨t1, tM⟩ := s
      obtain ⟨rfl, j1, j2, j3, j4⟩ := hJ
      unfold w_X4_findLeaders_L9
      refine i_f (nn (n := 6) (by decide)) ?_
      dsimp only
      rw [nI_1]
      refine hc _ ⟨rfl, j1, j2, fun w' hw' x hx => ?_⟩
      by_cases z : w' = w
      · subst z; exact j4 x hx
      · exact j3 w' (by omega) x hx
  · obtain ⟨s1, sM⟩ := s
    obtain ⟨rfl, i1, i2, i3⟩ := hI
    unfold w_X4_findLeaders_L2
    refine i_f (nn (n := 3) (by decide)) ?_
    exact h sM i1 i2 i3
theorem c4_leads {M : sk_M} {f : Nat → Int32} {Q : Int32 → Prop} {t : Nat} (ht : t < 216) (hL : LdR f M) (h : Q (bI (ldT f t = t))) : w_X4_leads (nI t) M Q := by
  unfold w_X4_leads
  have l0 := hL 0 (by omega) (t / 36) (by omega)
  have l1 := hL 1 (by omega) (t / 6 % 6) (by omega)
  have l2 := hL 2 (by omega) (t % 6) (by omega)
  obtain ⟨g0, g1, g2, g3, g4⟩ := ldT_dig (f := f) ht
  have b0 := ldr_le (f := f) (w := 0) (x := t / 36)
  have b1 := ldr_le (f := f) (w := 1) (x := t / 6 % 6)
  have b2 := ldr_le (f := f) (w := 2) (x := t % 6)
  have h0 : t / 36 < 18 := by omega
  have h1 : 6 + t / 6 % 6 < 18 := by omega
  have h2 : 12 + t % 6 < 18 := by omega
  simp (disch := omega) only [sk_lit, pk_divN, rmN, nI_add, nI_clamp, vpT]
  rw [show 6 * 0 + t / 36 = t / 36 by omega] at l0
  rw [show 6 * 1 + t / 6 % 6 = 6 + t / 6 % 6 by omega] at l1
  rw [show 6 * 2 + t % 6 = 12 + t % 6 by omega] at l2
  rw [l0, l1, l2]
  refine ⟨trivial, i_b (fun q0 => ⟨trivial, i_b (fun q1 => ⟨trivial, i_b (fun q2 => ?_) (fun q2 => ?_)⟩) (fun q1 => ?_)⟩) (fun q0 => ?_)⟩
  · rw [nI_eq (by omega) (by omega)] at q0 q1 q2
    rw [bI_t (show ldT f t = t by unfold ldT; rw [q0, q1, q2]; omega)] at h
    exact h
  · rw [bI_f (fun z => q2 (by rw [← g4, z]))] at h
    exact h
  · rw [bI_f (fun z => q1 (by rw [← g3, z]))] at h
    exact h
  · rw [bI_f (fun z => q0 (by rw [← g2, z]))] at h
    exact h
