/-! the code whose sound most share: quietest -/
def qS (g : Nat → Nat) (q : Int32 × Nat) (c : Nat) : Int32 × Nat := if q.2 < g c then (nI c, g c) else q
theorem qS_le {g : Nat → Nat} {b : Nat} (hg : ∀ c, g c ≤ b) : ∀ (l : List Nat) (q : Int32 × Nat), q.2 ≤ b → (l.foldl (qS g) q).2 ≤ b
  | [], _, h => h
  | c :: l, q, h => by
    refine qS_le hg l (qS g q c) ?_
    unfold qS
    by_cases z : q.2 < g c
    · rw [if_pos z]; exact hg c
    · rw [if_neg z]; exact h
theorem gd_mem {l : List Nat} {i : Nat} (h : i < l.length) : l.getD i 0 ∈ l := by
  rw [List.getD_eq_getElem?_getD, List.getElem?_eq_getElem h]
  exact List.getElem_mem h
/-- how many sound like c at t -/
noncomputable def shN (f : Nat → Int32) (t c : Nat) : Nat := (pD f t (fun x => x ≠ t) 216).1 (slN f t c)
theorem sl_eq {f : Nat → Int32} (hB : clB f) {t c c' : Nat} (ht : t < 216) (hc : c < 216) (hc' : c' < 216) : sndC f t c = sndC f t c' ↔ slN f t c = slN f t c' := by
  obtain ⟨e, b⟩ := slN_ok hB ht hc
  obtain ⟨e', b'⟩ := slN_ok hB ht hc'
  unfold slt at e e'
  constructor
  · intro z
    rw [z] at e
    exact (nI_eq (by omega) (by omega)).mp (e.symm.trans e')
  · intro z
    rw [z] at e
    have w := congrArg (fun x => x - 3564) (e.trans e'.symm)
    rwa [Int32.add_sub_cancel, Int32.add_sub_cancel] at w
theorem s8_sharedBy {M : sk_M} {Q : Int32 → Prop} {cl : Nat → Int32} {t c : Nat} (ht : t < 216) (hc : c < 216) (hcl : ∀ i, i < 108 → M.1 154 i = cl i) (hB : clB cl) (h : Q (nI (shN cl t c))) : w_X8_sharedBy (nI t) (nI c) M Q := by
  unfold w_X8_sharedBy
  have e0 : ((0 : Int32), (0 : Int32)) = (nI ((pD cl t (fun x => x ≠ t) 0).1 (slN cl t c)), nI 0) := rfl
  rw [e0]
  refine lp_to (fun i => (nI ((pD cl t (fun x => x ≠ t) i).1 (slN cl t c)), nI i)) 216 (by decide) (fun i hi k hk => ?_) (fun k => ?_)
  · unfold w_X8_sharedBy_L5
    refine i_t (nI_ge hi (by decide)) (i_b (fun q => ?_) (fun q => ?_))
    · have ct : i ≠ t := fun e => q (by show nI i = nI t; rw [e])
      refine s8_soundOf ht hi (s8_soundOf ht hc ?_)
      rw [sndC_cg hcl ht hi, sndC_cg hcl ht hc]
      rw [pD_t (n := i) (t := t) (S := fun x => x ≠ t) ⟨ct, ct⟩] at hk
      dsimp only at hk ⊢
      by_cases z : slN cl t i = slN cl t c
      · refine i_t ((sl_eq hB ht hi hc).mpr z) (sLet_i ?_)
        have eb : bmp (pD cl t (fun x => x ≠ t) i).1 (slN cl t i) (slN cl t c) = (pD cl t (fun x => x ≠ t) i).1 (slN cl t c) + 1 := by
          unfold bmp
          rw [if_pos z.symm, z]
        rw [eb] at hk
        rw [nI_1, nI_1]
        exact hk
      · refine i_f (fun y => z ((sl_eq hB ht hi hc).mp y)) (sLet_i ?_)
        have eb : bmp (pD cl t (fun x => x ≠ t) i).1 (slN cl t i) (slN cl t c) = (pD cl t (fun x => x ≠ t) i).1 (slN cl t c) := if_neg (fun y => z y.symm)
        rw [eb] at hk
        rw [nI_1, Int32.add_zero]
        exact hk
    · have ct : i = t := Classical.byContradiction fun y => q (fun e => y ((nI_eq (by omega) (by omega)).mp e))
      rw [pD_f (n := i) (t := t) (S := fun x => x ≠ t) (fun y => y.2 ct)] at hk
      refine sLet_i ?_
      dsimp only at hk ⊢
      rw [nI_1, Int32.add_zero]
      exact hk
  · unfold w_X8_sharedBy_L5
    exact i_f (nn (n := 216) (by decide)) h
theorem shN_le {f : Nat → Int32} {t c : Nat} : shN f t c ≤ 216 := (pD_le 216).1 _
theorem c4_mostShared {M : sk_M} {Q : Int32 → sk_M → Prop} {t : Nat} (ht : t < 216) (hB : clB (M.1 7)) (hT : TB M) (hV : SV M (enl (fun c => c ≠ t) 216))
    (h : ∀ M', swF M M' → TB M' → Q ((enl (fun c => c ≠ t) 216).foldl (qS (shN (M.1 7) t)) (-1, 0)).1 M') : w_X4_mostShared (nI t) M Q := by
  unfold w_X4_mostShared w_X4_face
  refine ⟨vp_in_nI ht (by decide), fun M2 f2 => ?_⟩
  rw [nI_clamp (by omega)] at f2
  unfold w_X4_startTally
  refine ⟨TB_fc hT f2, ?_⟩
  rintro M6 ⟨t6, fl, a6⟩
  have etr : (trF (M.1 7) t (enl (fun c => c ≠ t) 216)).1 = (pD (M.1 7) t (fun x => x ≠ t) 216).1 := by rw [tr_pD]
  have hg : ∀ c, (trF (M.1 7) t (enl (fun c => c ≠ t) 216)).1 (slN (M.1 7) t c) = shN (M.1 7) t c := fun c => by rw [etr]; rfl
  have hne : ∀ c, c ∈ enl (fun c => c ≠ t) 216 → c ≠ t := fun c hc => ((enl_mem 216).mp hc).2
  generalize enl (fun c => c ≠ t) 216 = l at h hV etr hg hne
  have len := hV.2.1
  have p0 : ptI M M6 t l 0 fl := ⟨swF_tl (swF_fc f2) t6, faced_tl f2.2.2.2 t6, a6⟩
  refine lp_inv (fun i s => s.1 = nI i ∧ ptI M s.2 t l i fl) l.length (Nat.lt_of_le_of_lt len (by decide)) ⟨rfl, p0⟩ (fun i hi s c hI hc => ?_) (fun s c hI => ?_)
  · obtain ⟨s1, sM⟩ := s
    obtain ⟨rfl, i1⟩ := hI
    have hV2 := SV_sw hV i1.1
    have e7 : sM.1 (0 + 7) = M.1 7 := i1.1.1 _ (by decide) (by decide) (by decide)
    unfold w_X4_mostShared_L11
    dsimp only
    rw [hV2.1]
    refine i_t (nI_ge hi (by omega)) ⟨vp_in_nI (by omega) (by decide), ?_⟩
    rw [nI_clamp (by omega)]
    obtain ⟨el, hl⟩ := hV2.2.2.1 i hi
    rw [el]
    unfold w_X4_slotOf
    refine ⟨vp_in_nI hl (by decide), t, i1.2.1, ?_⟩
    rw [nI_clamp (by omega), e7]
    obtain ⟨es, hs⟩ := slN_ok hB ht hl
    rw [es]
    unfold w_X4_countOne
    have hle := trF_le (f := (M.1 7)) (t := t) (l := l) i (by omega)
    refine ⟨vp_in_nI hs (by decide), fl, _, i1.2.2, ?_, ?_⟩
    · rw [nI_clamp (by omega)]
      have := hle.1 (slN (M.1 7) t (l.getD i 0))
      exact Nat.lt_of_le_of_lt this (by omega)
    · rintro M9 ⟨t9, a9⟩
      rw [nI_clamp (by omega)] at a9
      rw [nI_1]
      exact hc _ ⟨rfl, pt_b i1 hi (hne _ (gd_mem hi)) t9 a9⟩
  · obtain ⟨s1, sM⟩ := s
    obtain ⟨rfl, i1⟩ := hI
    have hV2 := SV_sw hV i1.1
    have e7 : sM.1 (0 + 7) = M.1 7 := i1.1.1 _ (by decide) (by decide) (by decide)
    have hTA : TA sM fl (trF (M.1 7) t l).1 := by
      have := i1.2.2
      rw [List.take_length] at this
      exact this
    unfold w_X4_mostShared_L11
    dsimp only
    rw [hV2.1]
    refine i_f (fun z => z (Int32.le_refl _)) (sLet_i ?_)
    rw [hTA.1]
    have fin := h sM i1.1 ⟨fl, _, hTA⟩
    have b0 : ∀ i, ((l.take i).foldl (qS (shN (M.1 7) t)) (-1, 0)).2 ≤ 216 := fun i => qS_le (fun c => shN_le) _ _ (Nat.zero_le _)
    have fb := hTA.2.1
    have e0 : ((-1 : Int32), nI fl, (0 : Int32)) = (((l.take 0).foldl (qS (shN (M.1 7) t)) (-1, 0)).1, nI (fl + ((l.take 0).foldl (qS (shN (M.1 7) t)) (-1, 0)).2), nI 0) := rfl
    rw [e0]
    refine lp_to (fun i => (((l.take i).foldl (qS (shN (M.1 7) t)) (-1, 0)).1, nI (fl + ((l.take i).foldl (qS (shN (M.1 7) t)) (-1, 0)).2), nI i)) l.length (Nat.lt_of_le_of_lt len (by decide)) (fun i hi k hk => ?_) (fun k => ?_)
    · rw [fo_s hi] at hk
      have bi := b0 i
      generalize (l.take i).foldl (qS (shN (M.1 7) t)) (-1, 0) = q at hk bi ⊢
      unfold w_X4_mostShared_L50
      dsimp only
      rw [hV2.1]
      refine i_t (nI_ge hi (by omega)) ⟨vp_in_nI (by omega) (by decide), ?_⟩
      rw [nI_clamp (by omega)]
      obtain ⟨el, hl⟩ := hV2.2.2.1 i hi
      rw [el]
      unfold w_X4_slotOf
      refine ⟨vp_in_nI hl (by decide), t, i1.2.1, ?_⟩
      rw [nI_clamp (by omega), e7]
      obtain ⟨es, hs⟩ := slN_ok hB ht hl
      rw [es, nI_clamp (by omega)]
      refine ⟨vp_in_nI hs (by decide), sLet_i ?_⟩
      obtain ⟨ts, et, en, eb⟩ := hTA.2.2 _ hs
      rw [hg] at en
      rw [et, nI_1]
      unfold qS at hk
      by_cases z : q.2 < shN (M.1 7) t (l.getD i 0)
      · rw [if_pos z] at hk
        refine i_t (nI_ge (by omega) (by omega)) ⟨vp_in_nI (by omega) (by decide), sLet_i ?_⟩
        have : ts = fl + shN (M.1 7) t (l.getD i 0) := by omega
        rw [this]
        exact hk
      · rw [if_neg z] at hk
        refine i_f (fun y => y (nI_le (by omega) (by omega))) ?_
        exact hk
    · unfold w_X4_mostShared_L50
      dsimp only
      rw [hV2.1]
      refine i_f (fun z => z (Int32.le_refl _)) ?_
      rw [List.take_length]
      exact fin
theorem st_quietest {M : sk_M} (h : Inv M) (a : Int32) : StI Inv (fun Q X => w_X7_quietest a M Q X) (w_X8_quietest a) ["java/lang/IndexOutOfBoundsException"] := by
  unfold StI w_X7_quietest
  have hLw := h.1.2
  refine n7_C (fun t ht e => ?_) (fun q => ?_)
  · subst e
    unfold w_X4_loadAllBut
    refine ⟨vp_in_nI ht (by decide), ?_⟩
    rintro M1 ⟨s1, l1⟩
    rw [nI_clamp (by omega)] at l1
    have sc := s1.toC
    have hI := h.scC sc
    have c7 : M1.1 7 = M.1 7 := sc.1 7 (by omega)
    refine c4_mostShared ht (by rw [c7]; exact hLw.1) hI.2.2.2.2.1 l1 (fun M2 w2 t2 => ?_)
    rw [c7]
    have sc2 := sc.trans (w2.toC t2)
    have hI2 := h.scC sc2
    have w1 : M2.1 141 = M.1 141 := sc2.1 141 (by omega)
    generalize hx : ((enl (fun c => c ≠ t) 216).foldl (qS (shN (M.1 7) t)) (-1, 0)).1 = x
    unfold w_X8_quietest
    refine sLet_i (gY (noC_y (vp_in_nI ht (by decide))) ?_)
    refine s8_laysClicks (cl := M.1 7) (by show clkS (M2.1 141) _; rw [w1]; exact hLw.2.1) (fun M3 l3 => ?_)
    obtain ⟨r1, r2⟩ := l3.sc0
    have b0 : ∀ i, ((enl (fun c => c ≠ t) i).foldl (qS (shN (M.1 7) t)) (-1, 0)).2 ≤ 216 := fun i => qS_le (fun c => shN_le) _ _ (Nat.zero_le _)
    have e0 : ((-1 : Int32), (0 : Int32), (0 : Int32)) = (((enl (fun c => c ≠ t) 0).foldl (qS (shN (M.1 7) t)) (-1, 0)).1, nI ((enl (fun c => c ≠ t) 0).foldl (qS (shN (M.1 7) t)) (-1, 0)).2, nI 0) := rfl
    rw [e0]
    refine lp_to (fun i => (((enl (fun c => c ≠ t) i).foldl (qS (shN (M.1 7) t)) (-1, 0)).1, nI ((enl (fun c => c ≠ t) i).foldl (qS (shN (M.1 7) t)) (-1, 0)).2, nI i)) 216 (by decide) (fun i hi k hk => ?_) (fun k => ?_)
    · have bi := b0 i
      unfold w_X8_quietest_L30
      refine i_t (nI_ge hi (by decide)) (sLet_i ?_)
      by_cases z : i = t
      · rw [enl_f (fun y => y z)] at hk
        refine i_t (by show nI i = nI t; rw [z]) ?_
        refine i_t (fun y => ?_) ?_
        · exact nI_nlt (a := ((enl (fun c => c ≠ t) i).foldl (qS (shN (M.1 7) t)) (-1, 0)).2) (b := 0) (Nat.zero_le _) (by omega) y
        · dsimp only
          rw [nI_1]
          exact hk
      · rw [enl_t z, List.foldl_append] at hk
        refine i_f (fun y => z ((nI_eq (by omega) (by omega)).mp y)) ?_
        refine s8_sharedBy (cl := M.1 7) ht hi l3.2.2 hLw.1 ?_
        have sb := shN_le (f := M.1 7) (t := t) (c := i)
        generalize (enl (fun c => c ≠ t) i).foldl (qS (shN (M.1 7) t)) (-1, 0) = q at hk bi ⊢
        dsimp only [List.foldl] at hk ⊢
        rw [nI_1]
        unfold qS at hk
        by_cases y : q.2 < shN (M.1 7) t i
        · rw [if_pos y] at hk
          refine i_f (fun w => w (nI_lt y (by omega))) ?_
          exact hk
        · rw [if_neg y] at hk
          refine i_t (nI_nlt (by omega) (by omega)) ?_
          exact hk
    · unfold w_X8_quietest_L30
      refine i_f (nn (n := 216) (by decide)) ?_
      refine due hI2 r1 r2 hx.symm
  · refine ⟨0, rfl, ?_⟩
    unfold w_X8_quietest
    exact sLet_i (gN (noC_n q) (dueX h rfl))
