/-! together, gains, price, richest -/
def StB (I : sk_M → Prop) (w7 : (Int32 → sk_M → Prop) → (String → sk_M → Prop) → Prop) (w8 : sk_M → (Int32 → sk_M → Prop) → Prop) (es : List String) : Prop :=
  w7 (fun r M1 => w8 (sk_sl M1 158 0 (if r = 0 then 0 else 1)) (fun b M2 => M2.1 140 0 = 0 ∧ M2.2 158 0 = (if b = 0 then 0 else 1) ∧ I M2)) (fun e M1 => ∃ i, es[i]? = some e ∧ w8 M1 (fun _ M2 => M2.1 140 0 = nI (i + 1) ∧ I M2))
theorem dueY {M M2 : sk_M} {y z : Int64} (h : Inv M) (s : scR (sk_sl M 158 0 y) M2) (h0 : M2.1 140 0 = 0) (hy : y = z) : M2.1 140 0 = 0 ∧ M2.2 158 0 = z ∧ Inv M2 := by
  refine ⟨h0, ?_, (Inv.out h).scR s⟩
  rw [s.2.2.1 158 (by omega), rd_sl, if_pos (by omega), hy]
theorem dueY0 {M : sk_M} {y z : Int64} (h : Inv M) (hy : y = z) : (sk_si (sk_sl M 158 0 y) 140 0 0).1 140 0 = 0 ∧ (sk_si (sk_sl M 158 0 y) 140 0 0).2 158 0 = z ∧ Inv (sk_si (sk_sl M 158 0 y) 140 0 0) := dueY h scR_th th_0 hy
theorem st_together {M : sk_M} (h : Inv M) (a b : Int32) : StB Inv (fun Q X => w_X7_together a b M (fun r => Q r M) (fun e => X e M)) (w_X8_together a b) ["java/lang/IndexOutOfBoundsException"] := by
  unfold StB w_X7_together
  obtain ⟨nv, np, nc, tx, dy, ch, lg, nr, op, hR⟩ := h.1.1
  obtain ⟨hN, hF, hW, hS, hV, hC, hL, hK, hT⟩ := id hR
  have n1 := hN.1
  have n2 := hN.2.1
  refine n7_V hF.1 n1 (fun v hv e => ?_) (fun hv => ⟨0, rfl, ?_⟩)
  · subst e
    refine c5_leftOfAll (by omega) (np := np) hF.2.1 n2 ?_
    have key : ∀ y : Int64, w_X8_together a (nI v) (sk_sl M 158 0 y) (fun b M2 => M2.1 140 0 = 0 ∧ M2.2 158 0 = (if b = 0 then 0 else 1) ∧ Inv M2) ↔ w_X8_together a (nI v) (sk_sl M 158 0 y) (fun b M2 => M2.1 140 0 = 0 ∧ M2.2 158 0 = (if b = 0 then 0 else 1) ∧ Inv M2) := fun _ => Iff.rfl
    have go : ∀ y : Int64, y = (if laP (M.2 9) a v np 4 = 1 then 1 else 0) → w_X8_together a (nI v) (sk_sl M 158 0 y) (fun b M2 => M2.1 140 0 = 0 ∧ M2.2 158 0 = (if b = 0 then 0 else 1) ∧ Inv M2) := by
      intro y hy
      unfold w_X8_together
      refine g8_V_y' (nv := nv) hW.1 n1 hv ?_
      refine s8_leftBy (np := np) (by omega) hW.2.1 n2 ?_
      have e1 : f_X8_allPeople (sk_si (sk_sl M 158 0 y) 140 0 0) = nI (2 ^ np - 1) := by
        unfold f_X8_allPeople f_X8_people
        rw [show (sk_si (sk_sl M 158 0 y) 140 0 0).1 141 1 = nI np from hW.2.1]
        exact all_N (by omega)
      rw [e1, show (sk_si (sk_sl M 158 0 y) 140 0 0).2 146 = M.2 146 from rfl, laP_set (fun p hp => mask_set n2 hp) 4, ← hR.leftAll hv]
      refine i_b (fun q => ?_) (fun q => ?_)
      · rw [if_pos q] at hy
        exact dueY0 h hy
      · rw [if_neg q] at hy
        exact dueY0 h hy
    refine i_b (fun q => go _ ?_) (fun q => go _ ?_)
    · rw [if_pos (show laP (M.2 9) a v np 4 = 1 from q)]; rfl
    · rw [if_neg (show ¬ laP (M.2 9) a v np 4 = 1 from q)]; rfl
  · unfold w_X8_together
    exact g8_V_n' hW.1 n1 hv (dueX h rfl)
/-- what a person could carry off at a stroke -/
def shr (k : Nat → Int64) (w : Int32) (a : Nat) : Int32 := if leftP k a 4 = 0 then 0 else w / leftP k a 4
theorem s8_worthOf {M : sk_M} {Q : Int32 → Prop} {p v : Nat} (hp : p < 6) (hv : v < 6) (h : Q (shr (M.2 146) (M.1 141 (12 + 4 * v)) (4 * (6 * p + v)))) : w_X8_worthOf (nI p) (nI v) M Q := by
  unfold w_X8_worthOf
  refine s8_leftOf hp hv ?_
  unfold shr at h
  refine i_b (fun q => ?_) (fun q => ?_)
  · rw [if_pos q] at h; exact h
  · rw [if_neg q] at h
    refine s8_of (k := 2) hv (by decide) ⟨q, ?_⟩
    rw [show 10 + 4 * v + 2 = 12 + 4 * v by omega]
    exact h
theorem Rel.share {F : Nat → Nat → Int32} {KF : Nat → Int64} {W : Nat → Int32} {K : Nat → Int64} {nv np nc tx dy ch lg nr op : Nat} (h : Rel F KF W K nv np nc tx dy ch lg nr op) {p v : Nat} (hp : p < np) (hv : v < nv) : shr KF (F 3 v) (4 * (6 * p + v)) = shr K (W (12 + 4 * v)) (4 * (6 * p + v)) := by
  obtain ⟨w, -, e1, e2⟩ := (h.2.2.2.2.1 v hv).2.2.1
  unfold shr
  rw [h.left hp hv, e1, e2]
theorem c5_share {M : sk_M} {Q : Int32 → Prop} {p v : Nat} (hp : p < 6) (hv : v < 6) (h : Q (shr (M.2 9) (M.1 3 v) (4 * (6 * p + v)))) : w_X5_shareOf 0 (nI p) (nI v) M Q := c5_shareOf hp hv h
theorem st_price {M : sk_M} (h : Inv M) (a : Int32) : StI Inv (fun Q X => w_X7_price a M (fun r => Q r M) (fun e => X e M)) (w_X8_price a) ["java/lang/IndexOutOfBoundsException"] := by
  unfold StI w_X7_price
  obtain ⟨nv, np, nc, tx, dy, ch, lg, nr, op, hR⟩ := h.1.1
  obtain ⟨hN, hF, hW, hS, hV, hC, hL, hK, hT⟩ := id hR
  have n1 := hN.1
  have n2 := hN.2.1
  refine n7_P hF.2.1 n2 (fun p hp e => ?_) (fun hv => ⟨0, rfl, ?_⟩)
  · subst e
    refine lp_to (fun i => (sumI (fun v => shr (M.2 9) (M.1 3 v) (4 * (6 * p + v))) i, nI i)) nv (by unfold sk_F; omega) (fun i hi c hc => ?_) (fun c => ?_)
    · unfold w_X7_price_L9
      rw [hF.1]
      refine i_t (nI_ge hi (by omega)) (c5_share (by omega) (by omega) (sLet_i ?_))
      rw [nI_1]
      exact hc
    · unfold w_X7_price_L9
      rw [hF.1]
      refine i_f (nn (by omega)) ?_
      unfold w_X8_price
      refine g8_P_y (nv := np) hW.2.1 n2 hp ?_
      refine lp_to (fun i => (sumI (fun v => shr (M.2 146) (M.1 141 (12 + 4 * v)) (4 * (6 * p + v))) i, nI i)) nv (by unfold sk_F; omega) (fun i hi c hc => ?_) (fun c => ?_)
      · unfold w_X8_price_L24 f_X8_vaults
        rw [show (sk_si (sk_sl M 158 0 _) 140 0 0).1 141 0 = nI nv from hW.1]
        refine i_t (nI_ge hi (by omega)) (s8_worthOf (by omega) (by omega) (sLet_i ?_))
        rw [nI_1]
        exact hc
      · unfold w_X8_price_L24 f_X8_vaults
        rw [show (sk_si (sk_sl M 158 0 _) 140 0 0).1 141 0 = nI nv from hW.1]
        refine i_f (nn (by omega)) ?_
        exact due0 h (sumI_cg nv (fun j hj => hR.share hp hj))
  · unfold w_X8_price
    exact g8_P_n hW.2.1 n2 hv (dueX h rfl)
theorem s8_isGuarded {M : sk_M} {Q : Int32 → Prop} {v d : Nat} (hv : v < 6) (hd : d ≤ 9999) (h : Q (bI ((M.1 141 (11 + 4 * v) >>> (nI (d % 7) &&& 31)) &&& 1 = 1))) : w_X8_isGuarded (nI v) (nI d) M Q := by
  unfold w_X8_isGuarded
  refine s8_of (k := 1) hv (by decide) ?_
  have e : rmI (nI d) 7 = nI (d % 7) := rmN (a := d) (d := 7) (by omega) (by decide) (by decide)
  rw [e, show 10 + 4 * v + 1 = 11 + 4 * v by omega, has_N]
  exact ⟨bI_01 _, h⟩
/-- the greatest of those not barred, the first of equals -/
noncomputable def rcF (g : Nat → Prop) (f : Nat → Int32) : Nat → Int32 × Int32
  | 0 => (-1, 0)
  | n + 1 => by
    classical
    exact if g n then rcF g f n else if (rcF g f n).1 = -1 ∨ (rcF g f n).2 < f n then (nI n, f n) else rcF g f n
theorem rcF_g {g : Nat → Prop} {f : Nat → Int32} {n : Nat} (h : g n) : rcF g f (n + 1) = rcF g f n := by simp [rcF, h]
theorem rcF_t {g : Nat → Prop} {f : Nat → Int32} {n : Nat} (h : ¬ g n) (h2 : (rcF g f n).1 = -1 ∨ (rcF g f n).2 < f n) : rcF g f (n + 1) = (nI n, f n) := by simp only [rcF, h, if_false, h2, if_true]
theorem rcF_f {g : Nat → Prop} {f : Nat → Int32} {n : Nat} (h : ¬ g n) (h2 : ¬ ((rcF g f n).1 = -1 ∨ (rcF g f n).2 < f n)) : rcF g f (n + 1) = rcF g f n := by simp only [rcF, h, if_false, h2]
theorem rcF_rng {g : Nat → Prop} {f : Nat → Int32} : ∀ n, (rcF g f n).1 = -1 ∨ ∃ j, j < n ∧ (rcF g f n).1 = nI j
  | 0 => Or.inl rfl
  | n + 1 => by
    have ih := rcF_rng (g := g) (f := f) n
    by_cases h : g n
    · rw [rcF_g h]
      exact ih.imp id (fun ⟨j, a, b⟩ => ⟨j, by omega, b⟩)
    · by_cases h2 : (rcF g f n).1 = -1 ∨ (rcF g f n).2 < f n
      · rw [rcF_t h h2]
        exact Or.inr ⟨n, by omega, rfl⟩
      · rw [rcF_f h h2]
        exact ih.imp id (fun ⟨j, a, b⟩ => ⟨j, by omega, b⟩)
theorem rcF_cg {g g' : Nat → Prop} {f f' : Nat → Int32} : ∀ n, (∀ j, j < n → (g j ↔ g' j)) → (∀ j, j < n → f j = f' j) → rcF g f n = rcF g' f' n
  | 0, _, _ => rfl
  | n + 1, h1, h2 => by
    have ih := rcF_cg (g := g) (g' := g') (f := f) (f' := f') n (fun j hj => h1 j (by omega)) (fun j hj => h2 j (by omega))
    by_cases q : g n
    · rw [rcF_g q, rcF_g ((h1 n (by omega)).mp q), ih]
    · have q' : ¬ g' n := fun z => q ((h1 n (by omega)).mpr z)
      by_cases r : (rcF g f n).1 = -1 ∨ (rcF g f n).2 < f n
      · rw [rcF_t q r, rcF_t q' (by rw [← ih, ← h2 n (by omega)]; exact r), h2 n (by omega)]
      · rw [rcF_f q r, rcF_f q' (by rw [← ih, ← h2 n (by omega)]; exact r), ih]
theorem nlt_le {x y : Int32} : ¬ (x ≤ y) ↔ y < x := by
  rw [Int32.le_iff_toInt_le, Int32.lt_iff_toInt_lt]
  omega
theorem st_richest {M : sk_M} (h : Inv M) (a b : Int32) : StI Inv (fun Q X => w_X7_richest a b M (fun r => Q r M) (fun e => X e M)) (w_X8_richest a b) ["java/lang/IndexOutOfBoundsException"] := by
  unfold StI w_X7_richest
  obtain ⟨nv, np, nc, tx, dy, ch, lg, nr, op, hR⟩ := h.1.1
  obtain ⟨hN, hF, hW, hS, hV, hC, hL, hK, hT⟩ := id hR
  have n1 := hN.1
  have n2 := hN.2.1
  have n5 := hN.2.2.2.2.1
  refine n7_P hF.2.1 n2 (fun p hp e => ?_) (fun hv => ⟨0, rfl, ?_⟩)
  · subst e
    let f7 : Nat → Int32 := fun v => if ¬ (b = 0) then - leftP (M.2 9) (4 * (6 * p + v)) 4 else shr (M.2 9) (M.1 3 v) (4 * (6 * p + v))
    let f8 : Nat → Int32 := fun v => if ¬ (b = 0) then - leftP (M.2 146) (4 * (6 * p + v)) 4 else shr (M.2 146) (M.1 141 (12 + 4 * v)) (4 * (6 * p + v))
    let g7 : Nat → Prop := fun v => isG M 0 dy v
    let g8 : Nat → Prop := fun v => (M.1 141 (11 + 4 * v) >>> (nI (dy % 7) &&& 31)) &&& 1 = 1
    refine lp_to (fun i => ((rcF g7 f7 i).1, (rcF g7 f7 i).2, nI i)) nv (by unfold sk_F; omega) (fun i hi c hc => ?_) (fun c => ?_)
    · unfold w_X7_richest_L13
      rw [hF.1]
      refine i_t (nI_ge hi (by omega)) (c5_isGuarded (by omega) hF.2.2.2.2.1 n5 ?_)
      refine i_b (fun q => ?_) (fun q => sLet_i ?_)
      · have q2 : g7 i := bI_n.mp q
        rw [rcF_g q2] at hc
        show c (_, _, nI i + 1)
        rw [nI_1]
        exact hc
      · have q2 : ¬ g7 i := fun z => q (bI_n.mpr z)
        have go : ∀ x : Int32, x = f7 i → if ((rcF g7 f7 i).1 = (-1 : Int32)) ∨ (¬ (x ≤ (rcF g7 f7 i).2)) then c (nI i, x, nI i + 1) else c ((rcF g7 f7 i).1, (rcF g7 f7 i).2, nI i + 1) := by
          intro x hx
          rw [nI_1]
          refine i_b (fun z => ?_) (fun z => ?_)
          · rw [nlt_le, hx] at z
            rw [rcF_t q2 z] at hc
            rw [hx]
            exact hc
          · rw [nlt_le, hx] at z
            rw [rcF_f q2 z] at hc
            exact hc
        refine i_b (fun z => c5_leftOf (by omega) (by omega) (go _ ?_)) (fun z => c5_share (by omega) (by omega) (go _ ?_))
        · exact (if_pos z).symm
        · exact (if_neg z).symm
    · unfold w_X7_richest_L13
      rw [hF.1]
      refine i_f (nn (by omega)) ?_
      unfold w_X8_richest
      refine g8_P_y (nv := np) hW.2.1 n2 hp ?_
      refine lp_to (fun i => ((rcF g8 f8 i).1, (rcF g8 f8 i).2, nI i)) nv (by unfold sk_F; omega) (fun i hi c hc => ?_) (fun c => ?_)
      · unfold w_X8_richest_L28 f_X8_vaults
        rw [show (sk_si (sk_sl M 158 0 _) 140 0 0).1 141 0 = nI nv from hW.1]
        refine i_t (nI_ge hi (by omega)) (sLet_i ?_)
        have go : ∀ x : Int32, x = f8 i → w_X8_isGuarded (nI i) ((sk_si (sk_sl M 158 0 (rcF g7 f7 nv).1.toInt64) 140 0 0).1 141 5) (sk_si (sk_sl M 158 0 (rcF g7 f7 nv).1.toInt64) 140 0 0) (fun r70 => if (r70 = 0) then (if (¬ ((rcF g8 f8 i).1 < 0) ∧ (¬ ((rcF g8 f8 i).2 < x))) then c ((rcF g8 f8 i).1, (rcF g8 f8 i).2, nI i + 1) else c (nI i, x, nI i + 1)) else c ((rcF g8 f8 i).1, (rcF g8 f8 i).2, nI i + 1)) := by
          intro x hx
          rw [show (sk_si (sk_sl M 158 0 (rcF g7 f7 nv).1.toInt64) 140 0 0).1 141 5 = nI dy from hW.2.2.2.2.1, nI_1]
          refine s8_isGuarded (by omega) n5 ?_
          refine i_b (fun q => ?_) (fun q => ?_)
          · have q2 : ¬ g8 i := bI_z.mp q
            have neg : ((rcF g8 f8 i).1 < 0) ↔ ((rcF g8 f8 i).1 = -1) := by
              rcases rcF_rng (g := g8) (f := f8) i with r | ⟨j, hj, r⟩
              · rw [r]; decide
              · rw [r]
                exact ⟨fun z => absurd z (nI_pos (by omega)), fun z => absurd z (nI_m1 (by omega))⟩
            refine i_b (fun z => ?_) (fun z => ?_)
            · rw [neg, hx] at z
              rw [rcF_f q2 (fun y => y.elim z.1 z.2)] at hc
              exact hc
            · rw [neg, hx] at z
              have z2 : (rcF g8 f8 i).1 = -1 ∨ (rcF g8 f8 i).2 < f8 i := by
                by_cases y : (rcF g8 f8 i).1 = -1
                · exact Or.inl y
                · exact Or.inr (Classical.byContradiction fun y2 => z ⟨y, y2⟩)
              rw [rcF_t q2 z2] at hc
              rw [hx]
              exact hc
          · have q2 : g8 i := bI_n.mp q
            rw [rcF_g q2] at hc
            exact hc
        refine i_b (fun z => s8_leftOf (by omega) (by omega) (go _ ?_)) (fun z => s8_worthOf (by omega) (by omega) (go _ ?_))
        · exact (if_pos z).symm
        · exact (if_neg z).symm
      · unfold w_X8_richest_L28 f_X8_vaults
        rw [show (sk_si (sk_sl M 158 0 _) 140 0 0).1 141 0 = nI nv from hW.1]
        refine i_f (nn (by omega)) ?_
        have hh : rcF g7 f7 nv = rcF g8 f8 nv := by
          refine rcF_cg nv (fun j hj => ?_) (fun j hj => ?_)
          · obtain ⟨g, -, e1, e2⟩ := (hV j hj).2.1
            show (M.1 (0 + 2) j >>> _) &&& 1 = 1 ↔ _
            rw [Nat.zero_add, e1]
            show _ ↔ (M.1 141 (11 + 4 * j) >>> _) &&& 1 = 1
            rw [e2]
          · show (if ¬ (b = 0) then _ else _) = (if ¬ (b = 0) then _ else _)
            rw [hR.left hp hj, hR.share hp hj]
        exact due0 h (show (rcF g7 f7 nv).1 = (rcF g8 f8 nv).1 by rw [hh])
  · unfold w_X8_richest
    exact g8_P_n hW.2.1 n2 hv (dueX h rfl)
