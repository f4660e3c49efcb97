/-! calls of both sides: the first ones -/
theorem gY {M : sk_M} {N B : sk_M → Prop} {b c : Int32} (hb : b = 0) (h : B M) : w_X8_throwsIf b c M (fun r M' => if ¬ (r = 0) then N M' else B M') := g8_ok hb (i_f (fun q => q rfl) h)
theorem gN {M : sk_M} {N B : sk_M → Prop} {b c : Int32} (hb : b = 1) (h : N (sk_si M 140 0 c)) : w_X8_throwsIf b c M (fun r M' => if ¬ (r = 0) then N M' else B M') := g8_no hb (i_t (by decide) h)
theorem gY' {M : sk_M} {N B : sk_M → Prop} {b c : Int32} (hb : b = 0) (h : B M) : w_X8_throwsIf b c M (fun r M' => if r = 0 then B M' else N M') := g8_ok hb (i_t rfl h)
theorem gN' {M : sk_M} {N B : sk_M → Prop} {b c : Int32} (hb : b = 1) (h : N (sk_si M 140 0 c)) : w_X8_throwsIf b c M (fun r M' => if r = 0 then B M' else N M') := g8_no hb (i_f (by decide) h)
theorem scR_th {M : sk_M} {c : Int32} : scR M (sk_si M 140 0 c) := ⟨fun c' hc => si_c (by omega), fun k hk => by rw [rd_si, if_neg (by omega)], fun _ _ => rfl, fun h i hi => by rw [si_c (by omega)]; exact h i hi⟩
theorem th_0 {M : sk_M} {c : Int32} : (sk_si M 140 0 c).1 140 0 = c := by rw [rd_si, if_pos (by omega)]
/-- what is due once both have answered alike and nothing but the reference's scratch has changed -/
theorem due {M M2 : sk_M} {x b : Int32} (h : Inv M) (s : scR (sk_sl M 158 0 x.toInt64) M2) (h0 : M2.1 140 0 = 0) (hx : x = b) : M2.1 140 0 = 0 ∧ M2.2 158 0 = b.toInt64 ∧ Inv M2 := by
  refine ⟨h0, ?_, (Inv.out h).scR s⟩
  rw [s.2.2.1 158 (by omega), rd_sl, if_pos (by omega), hx]
theorem due0 {M : sk_M} {x b : Int32} (h : Inv M) (hx : x = b) : (sk_si (sk_sl M 158 0 x.toInt64) 140 0 0).1 140 0 = 0 ∧ (sk_si (sk_sl M 158 0 x.toInt64) 140 0 0).2 158 0 = b.toInt64 ∧ Inv (sk_si (sk_sl M 158 0 x.toInt64) 140 0 0) := due h scR_th th_0 hx
theorem dueX {M : sk_M} {i : Nat} {c : Int32} (h : Inv M) (hc : c = nI (i + 1)) : (sk_si (sk_si M 140 0 0) 140 0 c).1 140 0 = nI (i + 1) ∧ Inv (sk_si (sk_si M 140 0 0) 140 0 c) := ⟨by rw [th_0, hc], (h.scR scR_th).scR scR_th⟩
theorem noV_yt {M : sk_M} {a c : Int32} {n : Nat} (e : M.1 141 0 = nI n) (hn : n ≤ 6) (h : vp_in a n) : f_X8_noVault a (sk_si M 140 0 c) = 0 := noV_y (n := n) (by rw [si_c (by decide)]; exact e) hn h
theorem noV_nt {M : sk_M} {a c : Int32} {n : Nat} (e : M.1 141 0 = nI n) (hn : n ≤ 6) (h : ¬ vp_in a n) : f_X8_noVault a (sk_si M 140 0 c) = 1 := noV_n (n := n) (by rw [si_c (by decide)]; exact e) hn h
theorem noP_yt {M : sk_M} {a c : Int32} {n : Nat} (e : M.1 141 1 = nI n) (hn : n ≤ 6) (h : vp_in a n) : f_X8_noPerson a (sk_si M 140 0 c) = 0 := noP_y (n := n) (by rw [si_c (by decide)]; exact e) hn h
theorem noP_nt {M : sk_M} {a c : Int32} {n : Nat} (e : M.1 141 1 = nI n) (hn : n ≤ 6) (h : ¬ vp_in a n) : f_X8_noPerson a (sk_si M 140 0 c) = 1 := noP_n (n := n) (by rw [si_c (by decide)]; exact e) hn h
theorem st_fault {M : sk_M} (h : Inv M) : StN Inv (fun Q => Q (f_X7_fault M) M) w_X8_fault := by
  unfold StN w_X8_fault
  simp only [sLet]
  refine ⟨?_, h.scR scR_th⟩
  rw [rd_si, if_neg (by omega)]
  exact h.2.1.2
theorem r8_left {M : sk_M} {Q : Int32 → sk_M → Prop} {nv np nc tx dy ch lg nr op p v : Nat} (hN : RlN nv np nc tx dy ch lg nr op) (hW : RlW (M.1 141) nv np nc tx dy ch lg) (hp : p < np) (hv : v < nv) (h : Q (leftP (M.2 146) (4 * (6 * p + v)) 4) (sk_si M 140 0 0)) : w_X8_left (nI p) (nI v) M Q := by
  obtain ⟨n1, n2, -⟩ := hN
  unfold w_X8_left
  simp only [sLet]
  refine gY (if_neg ?_) ?_
  · rw [noP_yt hW.2.1 n2 (vp_in_nI hp (by omega)), noV_yt hW.1 n1 (vp_in_nI hv (by omega))]
    decide
  · exact s8_leftOf (by omega) (by omega) h
theorem st_left {M : sk_M} (h : Inv M) (a b : Int32) : StI Inv (fun Q X => w_X7_left a b M (fun r => Q r M) (fun e => X e M)) (w_X8_left a b) ["java/lang/IndexOutOfBoundsException"] := by
  unfold StI w_X7_left
  obtain ⟨nv, np, nc, tx, dy, ch, lg, nr, op, hR⟩ := h.1.1
  obtain ⟨hN, hF, hW, hS, hV, hC, hL, hK, hT⟩ := id hR
  have n1 := hN.1
  have n2 := hN.2.1
  have no : ¬ vp_in a np ∨ ¬ vp_in b nv → w_X8_left a b M (fun _ M2 => M2.1 140 0 = nI (0 + 1) ∧ Inv M2) := by
    intro q
    unfold w_X8_left
    simp only [sLet]
    refine gN (if_pos ?_) (dueX h rfl)
    by_cases hp : vp_in a np
    · have hv : ¬ vp_in b nv := q.resolve_left (fun x => x hp)
      rw [noV_nt hW.1 n1 hv]
      exact Or.inr (by decide)
    · rw [noP_nt hW.2.1 n2 hp]
      exact Or.inl (by decide)
  by_cases hp : vp_in a np
  · refine n7_P_y hF.2.1 n2 hp ?_
    by_cases hv : vp_in b nv
    · refine n7_V_y hF.1 n1 hv ?_
      obtain ⟨p, hp', rfl⟩ := vp_in_of hp (by omega)
      obtain ⟨v, hv', rfl⟩ := vp_in_of hv (by omega)
      refine c5_leftOf (by omega) (by omega) ?_
      exact r8_left hN hW hp' hv' (due0 h (hR.left hp' hv'))
    · exact n7_V_n hF.1 n1 hv ⟨0, rfl, no (Or.inr hv)⟩
  · exact n7_P_n hF.2.1 n2 hp ⟨0, rfl, no (Or.inl hp)⟩
