/-! the Sieve parts all codes, and weighs a turning -/
def paF (M0 M : sk_M) : Prop := (∀ c, c ≠ 130 → c ≠ 133 → c ≠ 134 → M.1 c = M0.1 c) ∧ M.2 = M0.2 ∧ ∀ k, k < 9 ∨ 13 ≤ k → M.1 130 k = M0.1 130 k
theorem cL_take {f : Nat → Int32} {t s i : Nat} {l : List Nat} : cL f t (l.take i) s ≤ cL f t l s := by
  have e : cL f t l s = cL f t (l.take i ++ l.drop i) s := by rw [List.take_append_drop]
  rw [e]
  unfold cL fP
  rw [List.filter_append, List.length_append]
  exact Nat.le_add_right _ _
theorem c4_partAll {M : sk_M} {Q : Int32 → sk_M → Prop} {f : Nat → Int32} {t lim : Nat} {l : List Nat} (ht : t < 216) (h7 : M.1 7 = f) (hB : clB f) (hT : TB M) (hV : SV M l) (hl0 : 0 < lim) (hl : lim < 1000)
    (h1 : ∀ M' fl g gp, paF M M' → faced M' t → TA M' fl (cL f t l) → M'.1 130 11 = nI g → M'.1 130 12 = nI gp → PA (cL f t l) g gp → g ≤ 216 → gp ≤ 216 → Q 1 M')
    (h0 : ∀ M', paF M M' → TB M' → (∃ s, lim ≤ cL f t l s) → Q 0 M') : w_X4_partAll (nI t) (nI lim) M Q := by
  unfold w_X4_partAll w_X4_face
  refine ⟨vp_in_nI ht (by decide), fun M2 f2 => ?_⟩
  rw [nI_clamp (by omega)] at f2
  unfold w_X4_startTally
  refine ⟨TB_fc hT f2, ?_⟩
  rintro M6 ⟨t6, fl, a6⟩
  have len := hV.2.1
  have s6 : swF M M6 := swF_tl (swF_fc f2) t6
  refine lp_inx (fun i s => ∃ g gp sM, s = (nI g, nI gp, nI i, sM) ∧ swF M sM ∧ faced sM t ∧ TA sM fl (cL f t (l.take i)) ∧ PA (cL f t (l.take i)) g gp ∧ g ≤ 216 ∧ gp ≤ i) l.length (Nat.lt_of_le_of_lt len (by decide)) ⟨0, 0, M6, rfl, s6, faced_tl f2.2.2.2 t6, ?_, ?_, by omega, by omega⟩ (fun i hi s c hI hc => ?_)
  · have : cL f t (l.take 0) = fun _ => 0 := by funext s; simp [cL, fP]
    rw [this]; exact a6
  · have : cL f t (l.take 0) = fun _ => 0 := by funext s; simp [cL, fP]
    rw [this]; exact PA_0
  · obtain ⟨g, gp, sM, rfl, i1, i2, i3, i4, i5, i6⟩ := hI
    have hV2 := SV_sw hV i1
    have e7 : sM.1 (0 + 7) = f := (i1.1 _ (by decide) (by decide) (by decide)).trans h7
    have fb := i3.2.1
    unfold w_X4_partAll_L26
    dsimp only
    rw [hV2.1]
    by_cases q : i < l.length ∧ g < lim
    · obtain ⟨q1, q2⟩ := q
      refine i_t ⟨nI_ge q1 (by omega), nI_ge q2 (by omega)⟩ ⟨vp_in_nI (by omega) (by decide), sLet_i ?_⟩
      obtain ⟨el, hc0⟩ := hV2.2.2.1 i q1
      rw [nI_clamp (by omega), el, i2.1]
      have tl := tk_s q1
      generalize l.getD i 0 = c0 at el hc0 tl ⊢
      have h6 : c0 / 6 < 36 := by omega
      have h8 : 72 + t % 6 * 6 + c0 % 6 < 108 := by omega
      simp (disch := omega) only [sk_lit, pk_divN, rmN, nI_add, nI_clamp, vpT]
      refine ⟨trivial, trivial, sLet_i ?_⟩
      obtain ⟨es, hs⟩ := slN_ok hB ht hc0
      have ey : sM.1 133 (c0 / 6) + sM.1 (0 + 7) (72 + t % 6 * 6 + c0 % 6) = nI (slN f t c0) := by
        rw [← es, i2.2 _ h6, e7]
        simp only [slt, sndC, show c0 / 6 / 6 = c0 / 36 by omega]
        ac_rfl
      rw [ey, nI_clamp (by omega)]
      have vin := vp_in_nI hs (by decide)
      refine ⟨vin, sLet_i (sLet_i ⟨vin, sLet_i ?_⟩)⟩
      obtain ⟨ts, et, en, eb⟩ := i3.2.2 _ hs
      have ct : cL f t (l.take i) (slN f t c0) ≤ i := by
        have := cL_le (f := f) (t := t) (s := slN f t c0) (l := l.take i)
        rw [tk_len hi] at this
        exact this
      rw [et, i3.1]
      have ep : (if (¬ (nI ts ≤ nI fl)) then ((nI ts - nI fl) + nI 1) else nI 1) = nI (cL f t (l.take i) (slN f t c0) + 1) := by
        by_cases z : ts ≤ fl
        · rw [if_neg (fun y => y (nI_le z (by omega))), show cL f t (l.take i) (slN f t c0) = 0 by omega]
        · rw [if_pos (nI_ge (by omega) (by omega)), pk_sub (by omega), nI_add, en]
      rw [ep, nI_add]
      have nb : cL f t (l.take (i + 1)) = bmp (cL f t (l.take i)) (slN f t c0) := by rw [tl, cL_app]
      have ta : TA (sk_si sM 134 (slN f t c0) (nI (fl + (cL f t (l.take i) (slN f t c0) + 1)))) fl (cL f t (l.take (i + 1))) := by
        rw [nb]
        refine ⟨by rw [si_c (by decide)]; exact i3.1, fb, fun j hj => ?_⟩
        rw [sk_si_at]
        exact cO2 i3.2.2 (by omega) j hj
      have sw : swF M (sk_si sM 134 (slN f t c0) (nI (fl + (cL f t (l.take i) (slN f t c0) + 1)))) := ⟨fun c a b d => by rw [si_c d]; exact i1.1 c a b d, by rw [si_2]; exact i1.2.1, fun k a b => by rw [si_c (by decide)]; exact i1.2.2 k a b⟩
      have fc : faced (sk_si sM 134 (slN f t c0) (nI (fl + (cL f t (l.take i) (slN f t c0) + 1)))) t := faced_cg i2 (by rw [si_c (by decide)]) (si_c (by decide)) (si_c (by decide))
      generalize sk_si sM 134 (slN f t c0) (nI (fl + (cL f t (l.take i) (slN f t c0) + 1))) = N at ta sw fc ⊢
      generalize hk : cL f t (l.take i) (slN f t c0) = k at ct ⊢
      refine i_b (fun z => ?_) (fun z => i_b (fun y => ?_) (fun y => ?_))
      · have z1 : g < k + 1 := by
          refine Classical.byContradiction fun w => z (nI_le (by omega) (by omega))
        refine hc _ q1 ⟨k + 1, 1, N, rfl, sw, fc, ta, ?_, by omega, by omega⟩
        rw [nb, ← hk]
        exact PA_gt i4 (by omega)
      · have z1 : k + 1 = g := (nI_eq (by omega) (by omega)).mp y
        refine hc _ q1 ⟨g, gp + 1, N, rfl, sw, fc, ta, ?_, i5, by omega⟩
        rw [nb]
        exact PA_eq i4 (by omega)
      · have z1 : k + 1 ≤ g := (nI_leI (by omega) (by omega)).mp (Classical.not_not.mp z)
        have z2 : k + 1 ≠ g := fun w => y (by rw [w])
        refine hc _ q1 ⟨g, gp, N, rfl, sw, fc, ta, ?_, i5, by omega⟩
        rw [nb]
        exact PA_lt i4 (by omega)
    · refine i_f (fun y => q ?_) (sLet_i (sLet_i ?_))
      · refine ⟨Classical.byContradiction fun z => y.1 (nI_le (by omega) (by omega)), Classical.byContradiction fun z => y.2 (nI_le (by omega) (by omega))⟩
      · have pf : paF M (sk_si (sk_si sM 130 11 (nI g)) 130 12 (nI gp)) := ⟨fun c a b d => by rw [si_c a, si_c a]; exact i1.1 c a b d, by rw [si_2, si_2]; exact i1.2.1, fun k hk => by rw [rd_si, if_neg (by omega), rd_si, if_neg (by omega)]; exact i1.2.2 k (by omega) (by omega)⟩
        have ta : TA (sk_si (sk_si sM 130 11 (nI g)) 130 12 (nI gp)) fl (cL f t (l.take i)) := ⟨by rw [rd_si, if_neg (by omega), rd_si, if_neg (by omega)]; exact i3.1, fb, fun j hj => by rw [si_c (by decide), si_c (by decide)]; exact i3.2.2 j hj⟩
        refine i_b (fun z => ?_) (fun z => ?_)
        · have z1 : g < lim := Classical.byContradiction fun w => z (nI_le (by omega) (by omega))
          have e : i = l.length := by
            have : ¬ i < l.length := fun w => q ⟨w, z1⟩
            omega
          subst e
          rw [List.take_length] at ta i4
          refine h1 _ fl g gp pf ?_ ta ?_ ?_ i4 i5 (by omega)
          · exact faced_cg i2 (by rw [rd_si, if_neg (by omega), rd_si, if_neg (by omega)]) (by rw [si_c (by decide), si_c (by decide)]) (by rw [si_c (by decide), si_c (by decide)])
          · rw [rd_si, if_neg (by omega), rd_si, if_pos ⟨rfl, rfl⟩]
          · rw [rd_si, if_pos ⟨rfl, rfl⟩]
        · have z1 : lim ≤ g := (nI_leI (by omega) (by omega)).mp (Classical.not_not.mp z)
          refine h0 _ pf ⟨fl, _, ta⟩ ?_
          obtain ⟨⟨x, hx⟩, _⟩ := i4.2 (by omega)
          have := cL_take (f := f) (t := t) (s := x) (i := i) (l := l)
          exact ⟨x, by omega⟩
/-- the keys by which turnings are chosen -/
noncomputable def k3 (bp : Nat) (bc : Prop) (b : Nat) : Nat := 216 * (2 * bp + ind (¬ bc)) + b
noncomputable def kyT (f : Nat → Int32) (S : Nat → Prop) (t : Nat) : Nat := k3 (gP f S t) (S t) t
def isB (f : Nat → Int32) (S : Nat → Prop) (b : Nat) : Prop := b < 216 ∧ ∀ t, t < 216 → kyT f S b ≤ kyT f S t
theorem ind_n {P : Prop} (h : P) : ind (¬ P) = 0 := ind_f (fun z => z h)
theorem k3_t {bp b : Nat} {bc : Prop} (h : bc) : k3 bp bc b = 432 * bp + b := by unfold k3; rw [ind_n h]; omega
theorem k3_f {bp b : Nat} {bc : Prop} (h : ¬ bc) : k3 bp bc b = 432 * bp + 216 + b := by unfold k3; rw [ind_t h]; omega
theorem isB_uq {f : Nat → Int32} {S : Nat → Prop} {b b' : Nat} (h : isB f S b) (h' : isB f S b') : b = b' := by
  have h1 := h.2 b' h'.1
  have h2 := h'.2 b h.1
  have := h.1
  have := h'.1
  unfold kyT at h1 h2
  by_cases z : S b <;> by_cases y : S b'
  · rw [k3_t z, k3_t y] at h1 h2; omega
  · rw [k3_t z, k3_f y] at h1 h2; omega
  · rw [k3_f z, k3_t y] at h1 h2; omega
  · rw [k3_f z, k3_f y] at h1 h2; omega
theorem wg_s {A B : Prop} {b t : Nat} (hb : b < 216) (ht : t < 216) : (¬ ((if bI A = bI B then (if nI b ≤ nI t then (0 : Int32) else (1 : Int32)) else bI A) = 0)) ↔ (((A ↔ B) ∧ t < b) ∨ (A ∧ ¬ B)) := by
  have same : (A ↔ B) → ((¬ ((if bI A = bI B then (if nI b ≤ nI t then (0 : Int32) else (1 : Int32)) else bI A) = 0)) ↔ (((A ↔ B) ∧ t < b) ∨ (A ∧ ¬ B))) := fun e => by
    rw [if_pos (bI_cg e)]
    by_cases z : b ≤ t
    · rw [if_pos (nI_le z (by omega))]
      refine ⟨fun y => absurd rfl y, fun y => ?_⟩
      rcases y with y | y
      · omega
      · exact absurd (e.mp y.1) y.2
    · rw [if_neg (nI_ge (by omega) (by omega))]
      exact ⟨fun _ => Or.inl ⟨e, by omega⟩, fun _ => by decide⟩
  by_cases a : A <;> by_cases b : B
  · exact same ⟨fun _ => b, fun _ => a⟩
  · rw [bI_t a, bI_f b, if_neg (by decide)]
    exact ⟨fun _ => Or.inr ⟨a, b⟩, fun _ => by decide⟩
  · rw [bI_f a, bI_t b, if_neg (by decide)]
    refine ⟨fun y => absurd rfl y, fun y => ?_⟩
    rcases y with y | y
    · exact absurd (y.1.mpr b) a
    · exact absurd y.1 a
  · exact same ⟨fun y => absurd y a, fun y => absurd y b⟩
theorem wg_k {A B : Prop} {p bp b t : Nat} (hb : b < 216) (ht : t < 216) : (p < bp ∨ (p = bp ∧ (((A ↔ B) ∧ t < b) ∨ (A ∧ ¬ B)))) ↔ k3 p A t < k3 bp B b := by
  by_cases a : A <;> by_cases d : B
  · rw [k3_t a, k3_t d]; simp only [a, d]; simp; omega
  · rw [k3_t a, k3_f d]; simp only [a, d]; simp; omega
  · rw [k3_f a, k3_t d]; simp only [a, d]; simp; omega
  · rw [k3_f a, k3_f d]; simp only [a, d]; simp; omega
def bsI (f : Nat → Int32) (S : Nat → Prop) (M : sk_M) (D : Nat → Prop) : Prop := ∃ (b bp : Nat) (bc : Prop), M.1 130 13 = nI b ∧ M.1 130 14 = nI bp ∧ M.1 130 15 = bI bc ∧ b < 216 ∧ bp ≤ 217 ∧ ((bp = 217 ∧ ¬ bc ∧ b = 0) ∨ (bp = gP f S b ∧ (bc ↔ S b))) ∧ ∀ t, t < 216 → D t → k3 bp bc b ≤ kyT f S t
theorem bsI.mono {f : Nat → Int32} {S : Nat → Prop} {M : sk_M} {D D' : Nat → Prop} (h : bsI f S M D) (hd : ∀ t, t < 216 → D' t → D t) : bsI f S M D' := by
  obtain ⟨b, bp, bc, a1, a2, a3, a4, a5, a6, a7⟩ := h
  exact ⟨b, bp, bc, a1, a2, a3, a4, a5, a6, fun t ht hD => a7 t ht (hd t ht hD)⟩
def wgF (M0 M : sk_M) : Prop := (∀ c, c ≠ 130 → M.1 c = M0.1 c) ∧ M.2 = M0.2 ∧ ∀ k, k < 13 → M.1 130 k = M0.1 130 k
theorem wgF.refl {M : sk_M} : wgF M M := ⟨fun _ _ => rfl, rfl, fun _ _ => rfl⟩
theorem wgF.trans {A B C : sk_M} (h : wgF A B) (g : wgF B C) : wgF A C := ⟨fun c hc => (g.1 c hc).trans (h.1 c hc), g.2.1.trans h.2.1, fun k hk => (g.2.2 k hk).trans (h.2.2 k hk)⟩
/-- all parted by u -/
def WS (f : Nat → Int32) (S : Nat → Prop) (M : sk_M) (u fl g gp : Nat) : Prop := M.1 7 = f ∧ SV M (enl S 216) ∧ faced M u ∧ TA M fl (cL f u (enl S 216)) ∧ M.1 130 11 = nI g ∧ M.1 130 12 = nI gp ∧ PA (cL f u (enl S 216)) g gp ∧ g ≤ 216 ∧ gp ≤ 216
theorem WS.wg {f : Nat → Int32} {S : Nat → Prop} {M M' : sk_M} {u fl g gp : Nat} (h : WS f S M u fl g gp) (w : wgF M M') : WS f S M' u fl g gp := by
  obtain ⟨a1, ⟨v1, v2, v3, v4⟩, a3, ⟨t1, t2, t3⟩, a5, a6, a7⟩ := h
  refine ⟨by rw [w.1 7 (by decide)]; exact a1, ⟨by rw [w.2.2 8 (by decide)]; exact v1, v2, fun i hi => by rw [w.1 131 (by decide)]; exact v3 i hi, fun c hc => by rw [w.1 132 (by decide)]; exact v4 c hc⟩, ?_, ⟨by rw [w.2.2 10 (by decide)]; exact t1, t2, fun s hs => by rw [w.1 134 (by decide)]; exact t3 s hs⟩, by rw [w.2.2 11 (by decide)]; exact a5, by rw [w.2.2 12 (by decide)]; exact a6, a7⟩
  exact faced_cg a3 (w.2.2 9 (by decide)) (w.1 133 (by decide)) (w.1 7 (by decide))
theorem c4_weigh {M : sk_M} {Q : sk_M → Prop} {f : Nat → Int32} {S D : Nat → Prop} {u fl g gp t : Nat} (ht : t < 216) (hu : u < 216) (hB : clB f) (hW : WS f S M u fl g gp) (hl : ldT f t = u) (hb : bsI f S M D)
    (h : ∀ M', wgF M M' → bsI f S M' (fun x => D x ∨ x = t) → Q M') : w_X4_weigh (nI t) M Q := by
  obtain ⟨a1, hV, a3, hTA, a5, a6, a7, a8, a9⟩ := hW
  have hG : gP f S t = wgP S t g gp (cL f u (enl S 216) (slN f u t)) := gP_al (by rw [← hl]; exact ldT_al hB ht) ht a7
  obtain ⟨b, bp, bc, b1, b2, b3, b4, b5, b6, b7⟩ := hb
  have gb := gP_le (f := f) (S := S) (t := t)
  unfold w_X4_weigh
  rw [nI_clamp (by omega), hV.2.2.2 t ht, a5, a6, b1, b2, b3]
  have eS : bI (t ∈ enl S 216) = bI (S t) := bI_cg (by rw [enl_mem]; exact ⟨fun z => z.2, fun z => ⟨ht, z⟩⟩)
  rw [eS]
  refine ⟨vp_in_nI ht (by decide), sLet_i (sLet_i (sLet_i ?_))⟩
  have fin : sLet (if (bI (S t) = bI bc) then (if nI b ≤ nI t then (0 : Int32) else (1 : Int32)) else bI (S t) : Int32) fun s76_56 =>
      if ((nI (gP f S t) < nI bp) ∨ ((nI (gP f S t) = nI bp) ∧ (¬ (s76_56 = 0)))) then (
      sLet (sk_si M 130 13 (nI t)) fun M101 =>
      sLet (sk_si M101 130 14 (nI (gP f S t))) fun M106 =>
      (bI (S t) = 0 ∨ bI (S t) = 1) ∧ sLet (sk_si M106 130 15 (bI (S t))) fun M111 =>
      Q M111)
      else (
      Q M) := by
    refine sLet_i ?_
    have e : ((nI (gP f S t) < nI bp) ∨ ((nI (gP f S t) = nI bp) ∧ (¬ ((if (bI (S t) = bI bc) then (if nI b ≤ nI t then (0 : Int32) else (1 : Int32)) else bI (S t) : Int32) = 0)))) ↔ kyT f S t < k3 bp bc b := by
      rw [wg_s b4 ht, nI_ltI (by omega) (by omega), nI_eq (by omega) (by omega)]
      exact wg_k b4 ht
    refine i_b (fun z => sLet_i (sLet_i ⟨bI_01 _, sLet_i (h _ ?_ ?_)⟩)) (fun z => h _ wgF.refl ?_)
    · exact ⟨fun c hc => by rw [si_c hc, si_c hc, si_c hc], by rw [si_2, si_2, si_2], fun k hk => by rw [rd_si, if_neg (by omega), rd_si, if_neg (by omega), rd_si, if_neg (by omega)]⟩
    · have z1 := e.mp z
      refine ⟨t, gP f S t, S t, ?_, ?_, ?_, ht, by omega, Or.inr ⟨rfl, Iff.rfl⟩, fun x hx hD => ?_⟩
      · rw [rd_si, if_neg (by omega), rd_si, if_neg (by omega), rd_si, if_pos ⟨rfl, rfl⟩]
      · rw [rd_si, if_neg (by omega), rd_si, if_pos ⟨rfl, rfl⟩]
      · rw [rd_si, if_pos ⟨rfl, rfl⟩]
      · rcases hD with hD | hD
        · have := b7 x hx hD
          exact Nat.le_of_lt (Nat.lt_of_lt_of_le z1 this)
        · rw [hD]; exact Nat.le_refl _
    · refine ⟨b, bp, bc, b1, b2, b3, b4, b5, b6, fun x hx hD => ?_⟩
      rcases hD with hD | hD
      · exact b7 x hx hD
      · rw [hD]
        exact Nat.le_of_not_lt (fun y => z (e.mpr y))
  by_cases q : S t ∧ gp = 1 ∧ 1 < g
  · obtain ⟨q1, q2, q3⟩ := q
    refine i_t ⟨bI_n.mpr q1, by rw [q2]; rfl, nI_ge (a := 1) q3 (by omega)⟩ ?_
    unfold w_X4_slotOf
    refine ⟨vp_in_nI ht (by decide), u, a3, ?_⟩
    rw [nI_clamp (by omega), show M.1 (0 + 7) = f from a1]
    obtain ⟨es, hs⟩ := slN_ok hB hu ht
    rw [es, nI_clamp (by omega)]
    refine ⟨vp_in_nI hs (by decide), ?_⟩
    obtain ⟨ts, et, en, eb⟩ := hTA.2.2 _ hs
    have fb := hTA.2.1
    rw [et, hTA.1, nI_add]
    by_cases z : cL f u (enl S 216) (slN f u t) = g
    · refine i_t (by rw [show ts = fl + g by omega]) ?_
      have eg : nI g + (-1 : Int32) = nI (gP f S t) := by
        rw [hG]
        unfold wgP
        rw [ind_t ⟨q1, q2, q3, z⟩, ← Int32.sub_eq_add_neg]
        exact pk_sub (a := g) (b := 1) (by omega)
      rw [eg]
      exact fin
    · refine i_f (fun y => z ?_) ?_
      · have := (nI_eq (by omega) (by omega)).mp y
        omega
      · have eg : nI g = nI (gP f S t) := by
          rw [hG]
          unfold wgP
          rw [ind_f (fun y => z y.2.2.2), Nat.sub_zero]
        rw [eg]
        exact fin
  · refine i_f (fun y => q ⟨bI_n.mp y.1, (nI_eq (b := 1) (by omega) (by decide)).mp y.2.1, Classical.byContradiction fun w => y.2.2 (nI_le (b := 1) (by omega) (by decide))⟩) ?_
    have eg : nI g = nI (gP f S t) := by
      rw [hG]
      unfold wgP
      rw [ind_f (fun y => q ⟨y.1, y.2.1, y.2.2.1⟩), Nat.sub_zero]
    rw [eg]
    exact fin
