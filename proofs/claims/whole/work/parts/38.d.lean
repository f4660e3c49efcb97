/-! log, first, turned, count -/
theorem s8_ofLog {M : sk_M} {Q : Int32 → Prop} {a k : Nat} (ha : a < 80) (hk : k < 6) (h : Q (M.1 141 (82 + 6 * a + k))) : w_X8_ofLog (nI a) (nI k) M Q := by
  unfold w_X8_ofLog
  simp (disch := omega) only [sk_lit, nI_add, pk_mul, nI_clamp, vpT]
  exact ⟨trivial, h⟩
theorem c5_row {M : sk_M} {Q : Int32 → Prop} {a k lg nr : Nat} {W : Nat → Int32} (ha : a < lg) (hlg : lg ≤ 80) (hk : k < 6) (e : M.1 0 11 = nI nr) (hn : nr < 80) (hL : RlL (M.1 8) W lg nr) (h : Q (W (82 + 6 * a + k))) : w_X5_rowCell 0 (nI a) (nI k) M Q := by
  refine c5_rowCell (by omega) hk e hn ?_
  rw [Nat.zero_add, hL a ha k hk]
  exact h
theorem st_log {M : sk_M} (h : Inv M) (a b : Int32) : StI Inv (fun Q X => w_X7_log a b M (fun r => Q r M) (fun e => X e M)) (w_X8_log a b) ["java/util/NoSuchElementException"] := by
  unfold StI w_X7_log
  obtain ⟨nv, np, nc, tx, dy, ch, lg, nr, op, hR⟩ := h.1.1
  obtain ⟨hN, hF, hW, hS, hV, hC, hL, hK, hT⟩ := id hR
  have n7 := hN.2.2.2.2.2.2.1
  have n8 := hN.2.2.2.2.2.2.2.1
  by_cases hb : vp_in b 6
  · refine i_f (vp_yes (n := 6) (by decide) hb) ?_
    have in5 : f_X8_in b 0 5 = 1 := inN_y 6 (by decide) (by decide) hb
    obtain ⟨k, hk, rfl⟩ := vp_in_of hb (by decide)
    rw [hF.2.2.2.2.2.2.1]
    by_cases ha : vp_in a lg
    · obtain ⟨i, hi, rfl⟩ := vp_in_of ha (by omega)
      refine i_t ⟨nI_pos (by omega), nI_ge hi (by omega)⟩ ?_
      refine c5_row (lg := lg) hi n7 hk hF.2.2.2.2.2.2.2.1 n8 hL ?_
      unfold w_X8_log
      refine sLet_i (sLet_i (gY (if_neg (by rw [in5]; decide)) ?_))
      refine i_t ?_ (s8_ofLog (by omega) hk ?_)
      · show ¬ (f_X8_in (nI i) 0 (M.1 141 8 - 1) = 0)
        rw [hW.2.2.2.2.2.2, in_y (by omega) ha]
        decide
      · exact due0 h rfl
    · refine i_f ?_ ?_
      · rintro ⟨q1, q2⟩
        rcases vp_no (by omega) ha with q | q
        · exact q1 q
        · exact q (nlt_le.mp q2)
      · unfold w_X8_log
        refine sLet_i (sLet_i (gY (if_neg (by rw [in5]; decide)) ?_))
        refine i_f ?_ (due0 h rfl)
        show ¬ ¬ (f_X8_in a 0 (M.1 141 8 - 1) = 0)
        rw [hW.2.2.2.2.2.2, in_n (by omega) ha]
        decide
  · refine i_t (vp_no (n := 6) (by decide) hb) ⟨0, rfl, ?_⟩
    unfold w_X8_log
    refine sLet_i (sLet_i (gN (if_pos ?_) (dueX h rfl)))
    exact inN_n 6 (by decide) (by decide) hb
/-- who of the rows first did it: the last row that says so -/
noncomputable def fdF (P : Nat → Prop) (f : Nat → Int32) : Nat → Int32
  | 0 => -1
  | n + 1 => by
    classical
    exact if P n then f n else fdF P f n
theorem fdF_t {P : Nat → Prop} {f : Nat → Int32} {n : Nat} (h : P n) : fdF P f (n + 1) = f n := by simp [fdF, h]
theorem fdF_f {P : Nat → Prop} {f : Nat → Int32} {n : Nat} (h : ¬ P n) : fdF P f (n + 1) = fdF P f n := by simp [fdF, h]
theorem st_first {M : sk_M} (h : Inv M) (a : Int32) : StI Inv (fun Q X => w_X7_first a M (fun r => Q r M) (fun e => X e M)) (w_X8_first a) ["java/lang/IndexOutOfBoundsException"] := by
  unfold StI w_X7_first
  obtain ⟨nv, np, nc, tx, dy, ch, lg, nr, op, hR⟩ := h.1.1
  obtain ⟨hN, hF, hW, hS, hV, hC, hL, hK, hT⟩ := id hR
  have n1 := hN.1
  have n7 := hN.2.2.2.2.2.2.1
  have n8 := hN.2.2.2.2.2.2.2.1
  refine n7_V hF.1 n1 (fun v hv e => ?_) (fun hv => ⟨0, rfl, ?_⟩)
  · subst e
    let P : Nat → Prop := fun k => M.1 141 (82 + 6 * k + 2) = nI v ∧ M.1 141 (82 + 6 * k + 5) = 1
    let f : Nat → Int32 := fun k => M.1 141 (82 + 6 * k + 1)
    have fin : w_X8_first (nI v) (sk_sl M 158 0 (fdF P f lg).toInt64) (fun b M2 => M2.1 140 0 = 0 ∧ M2.2 158 0 = b.toInt64 ∧ Inv M2) := by
      unfold w_X8_first
      refine g8_V_y (nv := nv) hW.1 n1 hv ?_
      refine lp_to (fun i => (fdF P f i, nI i)) lg (by unfold sk_F; omega) (fun i hi c hc => ?_) (fun c => ?_)
      · unfold w_X8_first_L24
        rw [show (sk_si (sk_sl M 158 0 _) 140 0 0).1 141 8 = nI lg from hW.2.2.2.2.2.2]
        refine i_t (nI_ge hi (by omega)) (s8_ofLog (k := 2) (by omega) (by decide) ?_)
        rw [nI_1]
        refine i_b (fun q => s8_ofLog (k := 5) (by omega) (by decide) (i_b (fun q2 => s8_ofLog (k := 1) (by omega) (by decide) ?_) (fun q2 => ?_))) (fun q => ?_)
        · rw [fdF_t (P := P) ⟨q, q2⟩] at hc
          exact hc
        · rw [fdF_f (P := P) (fun z => q2 z.2)] at hc
          exact hc
        · rw [fdF_f (P := P) (fun z => q z.1)] at hc
          exact hc
      · unfold w_X8_first_L24
        rw [show (sk_si (sk_sl M 158 0 _) 140 0 0).1 141 8 = nI lg from hW.2.2.2.2.2.2]
        refine i_f (nn (by omega)) ?_
        exact due0 h rfl
    refine sLet_i ?_
    rw [hF.2.2.2.2.2.2.1]
    refine lp_inx (fun j s => s = nI (lg - j) - 1 ∧ fdF P f (lg - j) = fdF P f lg) lg (by unfold sk_F; omega) ⟨rfl, rfl⟩ (fun j hj s c hI hc => ?_)
    obtain ⟨rfl, hf⟩ := hI
    unfold w_X7_first_L15
    by_cases hz : lg - j = 0
    · refine i_f ?_ ?_
      · rw [hz]
        decide
      · rw [hz] at hf
        show w_X8_first (nI v) (sk_sl M 158 0 (Int32.toInt64 (-1))) _
        rw [show (-1 : Int32) = fdF P f lg from hf]
        exact fin
    · have e : nI (lg - j) - 1 = nI (lg - j - 1) := pk_sub (a := lg - j) (b := 1) (by omega)
      have e2 : nI (lg - j - 1) + (-1) = nI (lg - (j + 1)) - 1 := by
        rw [show lg - (j + 1) = lg - j - 1 by omega]
        exact (Int32.sub_eq_add_neg _ _).symm
      have e3 : lg - j = (lg - j - 1) + 1 := by omega
      have e4 : lg - (j + 1) = lg - j - 1 := by omega
      rw [e, e2]
      have no : ¬ P (lg - j - 1) → fdF P f (lg - (j + 1)) = fdF P f lg := fun z => by
        rw [e4, ← hf, e3, fdF_f z]
        simp
      refine i_t (nI_pos (by omega)) (c5_row (lg := lg) (k := 2) (by omega) n7 (by decide) hF.2.2.2.2.2.2.2.1 n8 hL ?_)
      refine i_b (fun q => c5_row (lg := lg) (k := 5) (by omega) n7 (by decide) hF.2.2.2.2.2.2.2.1 n8 hL (i_b (fun q2 => c5_row (lg := lg) (k := 1) (by omega) n7 (by decide) hF.2.2.2.2.2.2.2.1 n8 hL ?_) (fun q2 => ?_))) (fun q => ?_)
      · rw [show M.1 141 (82 + 6 * (lg - j - 1) + 1) = fdF P f lg by rw [← hf, e3, fdF_t (P := P) ⟨q, q2⟩]; rfl]
        exact fin
      · exact hc _ (by omega) ⟨rfl, no (fun z => q2 z.2)⟩
      · exact hc _ (by omega) ⟨rfl, no (fun z => q z.1)⟩
  · unfold w_X8_first
    exact g8_V_n hW.1 n1 hv (dueX h rfl)
/-- how many rows -/
noncomputable def ctI (P : Nat → Prop) : Nat → Int32
  | 0 => 0
  | n + 1 => by
    classical
    exact if P n then ctI P n + 1 else ctI P n
theorem ctI_t {P : Nat → Prop} {n : Nat} (h : P n) : ctI P (n + 1) = ctI P n + 1 := by simp [ctI, h]
theorem ctI_f {P : Nat → Prop} {n : Nat} (h : ¬ P n) : ctI P (n + 1) = ctI P n := by simp [ctI, h]
theorem add0I (x : Int32) : x + 0 = x := Int32.add_zero x
theorem st_turned {M : sk_M} (h : Inv M) (a b : Int32) : StI Inv (fun Q X => w_X7_turned a b M (fun r => Q r M) (fun e => X e M)) (w_X8_turned a b) ["java/lang/IndexOutOfBoundsException"] := by
  unfold StI w_X7_turned
  obtain ⟨nv, np, nc, tx, dy, ch, lg, nr, op, hR⟩ := h.1.1
  obtain ⟨hN, hF, hW, hS, hV, hC, hL, hK, hT⟩ := id hR
  have n1 := hN.1
  have n2 := hN.2.1
  have n7 := hN.2.2.2.2.2.2.1
  have n8 := hN.2.2.2.2.2.2.2.1
  have no : ¬ vp_in a nv ∨ (¬ (b = -1) ∧ ¬ vp_in b np) → w_X8_turned a b M (fun _ M2 => M2.1 140 0 = nI (0 + 1) ∧ Inv M2) := by
    intro q
    unfold w_X8_turned
    refine sLet_i (sLet_i (gN (if_pos ?_) (dueX h rfl)))
    by_cases hv : vp_in a nv
    · have q2 := q.resolve_left (fun x => x hv)
      rw [noP_nt hW.2.1 n2 q2.2]
      exact Or.inr ⟨q2.1, by decide⟩
    · rw [noV_nt hW.1 n1 hv]
      exact Or.inl (by decide)
  refine n7_V hF.1 n1 (fun v hv e => sLet_i ?_) (fun hv => ⟨0, rfl, no (Or.inl hv)⟩)
  subst e
  let P : Nat → Prop := fun k => M.1 141 (82 + 6 * k + 2) = nI v ∧ (b = -1 ∨ M.1 141 (82 + 6 * k + 1) = b)
  have go : (b = -1 ∨ vp_in b np) → lp (w_X7_turned_L20 (nI v) b M (fun r => w_X8_turned (nI v) b (sk_sl M 158 0 r.toInt64) (fun b M2 => M2.1 140 0 = 0 ∧ M2.2 158 0 = b.toInt64 ∧ Inv M2))) sk_F ((0 : Int32), (0 : Int32)) := by
    intro hb
    refine lp_to (fun i => (ctI P i, nI i)) lg (by unfold sk_F; omega) (fun i hi c hc => ?_) (fun c => ?_)
    · unfold w_X7_turned_L20
      rw [hF.2.2.2.2.2.2.1]
      refine i_t (nI_ge hi (by omega)) (c5_row (lg := lg) (k := 2) hi n7 (by decide) hF.2.2.2.2.2.2.2.1 n8 hL (sLet_i ?_))
      rw [nI_1]
      by_cases q : M.1 141 (82 + 6 * i + 2) = nI v
      · rw [if_pos q]
        refine i_t (by decide) (i_b (fun q2 => c5_row (lg := lg) (k := 1) hi n7 (by decide) hF.2.2.2.2.2.2.2.1 n8 hL (i_b (fun q3 => ?_) (fun q3 => ?_))) (fun q2 => ?_))
        · rw [ctI_t (P := P) ⟨q, Or.inr q3⟩] at hc
          exact hc
        · rw [ctI_f (P := P) (fun z => z.2.elim q2 q3)] at hc
          exact hc
        · rw [ctI_t (P := P) ⟨q, Or.inl (Classical.byContradiction q2)⟩] at hc
          exact hc
      · rw [if_neg q]
        refine i_f (by decide) ?_
        rw [ctI_f (P := P) (fun z => q z.1)] at hc
        exact hc
    · unfold w_X7_turned_L20
      rw [hF.2.2.2.2.2.2.1]
      refine i_f (nn (by omega)) ?_
      unfold w_X8_turned
      refine sLet_i (sLet_i (gY (if_neg ?_) ?_))
      · rw [noV_yt (M := sk_sl M 158 0 _) (n := nv) hW.1 n1 (vp_in_nI hv (by omega))]
        rintro (q | ⟨q1, q2⟩)
        · exact q rfl
        · exact q2 (noP_yt (M := sk_sl M 158 0 _) (n := np) hW.2.1 n2 (hb.resolve_left q1))
      · refine lp_to (fun i => (ctI P i, nI i)) lg (by unfold sk_F; omega) (fun i hi c hc => ?_) (fun c => ?_)
        · unfold w_X8_turned_L46
          rw [show (sk_si (sk_sl M 158 0 _) 140 0 0).1 141 8 = nI lg from hW.2.2.2.2.2.2]
          refine i_t (nI_ge hi (by omega)) (s8_ofLog (k := 2) (by omega) (by decide) ?_)
          rw [nI_1]
          refine i_b (fun q => i_b (fun q2 => s8_ofLog (k := 1) (by omega) (by decide) (i_b (fun q3 => sLet_i ?_) (fun q3 => sLet_i ?_))) (fun q2 => sLet_i ?_)) (fun q => sLet_i ?_)
          · rw [ctI_t (P := P) ⟨q, Or.inr q3⟩] at hc
            exact hc
          · rw [ctI_f (P := P) (fun z => z.2.elim q2 q3)] at hc
            rw [add0I]
            exact hc
          · rw [ctI_t (P := P) ⟨q, Or.inl (Classical.byContradiction q2)⟩] at hc
            exact hc
          · rw [ctI_f (P := P) (fun z => q z.1)] at hc
            rw [add0I]
            exact hc
        · unfold w_X8_turned_L46
          rw [show (sk_si (sk_sl M 158 0 _) 140 0 0).1 141 8 = nI lg from hW.2.2.2.2.2.2]
          refine i_f (nn (by omega)) ?_
          exact due0 h rfl
  refine i_b (fun q => n7_P hF.2.1 n2 (fun p hp e => go (Or.inr (by rw [e]; exact vp_in_nI hp (by omega)))) (fun q2 => ⟨0, rfl, no (Or.inr ⟨q, q2⟩)⟩)) (fun q => go (Or.inl (Classical.byContradiction q)))
