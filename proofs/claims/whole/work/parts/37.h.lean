/-! tell, change, guard: the calls -/
theorem s8_anew {M : sk_M} {Q : sk_M → Prop} {v : Nat} {c : Int32} (hv : v < 6) (h : Q (sk_si (knA (sk_si (sk_si M 141 (10 + 4 * v) c) 141 (13 + 4 * v) 0) 146 v 6) 141 7 (M.1 141 7 + 1))) : w_X8_anew (nI v) c M Q := by
  unfold w_X8_anew
  refine s8_sets (k := 0) hv (by decide) (s8_sets (k := 3) hv (by decide) (s8_allForget hv ?_))
  simp only [sLet]
  have e1 : 10 + 4 * v + 0 = 10 + 4 * v := rfl
  have e2 : 10 + 4 * v + 3 = 13 + 4 * v := by omega
  rw [e1, e2]
  have e3 : (knA (sk_si (sk_si M 141 (10 + 4 * v) c) 141 (13 + 4 * v) 0) 146 v 6).1 141 7 = M.1 141 7 := by
    rw [knA_1, rd_si, if_neg (by omega), rd_si, if_neg (by omega)]
  rw [e3]
  exact h
theorem c5_tellAnew {M : sk_M} {Q : sk_M → Prop} {b v np : Nat} {c : Int32} (hv : v < 6) (e : M.1 b 1 = nI np) (hn : np ≤ 6) (h : Q (knA (tA M b v c) (b + 9) v np)) : w_X5_tellAnew b (nI v) c M Q := by
  unfold w_X5_tellAnew
  rw [e]
  simp (disch := omega) only [vpT, nI_clamp]
  exact ⟨trivial, trivial, h⟩
theorem c5_learnFrom {M : sk_M} {Q : sk_M → Prop} {b t f v : Nat} (ht : t < 6) (hf : f < 6) (hv : v < 6) (h : Q (lf M (b + 9) (4 * (6 * t + v)) (4 * (6 * f + v)) 4)) : w_X5_learnFrom b (nI t) (nI f) (nI v) M Q := by
  unfold w_X5_learnFrom
  simp (disch := omega) only [vpT, nI_clamp]
  exact ⟨trivial, trivial, trivial, h⟩
theorem st_change {M : sk_M} (h : Inv M) (a b : Int32) : StI Inv (fun Q X => w_X7_change a b M Q X) (w_X8_change a b) ["java/lang/IndexOutOfBoundsException"] := by
  unfold StI w_X7_change
  obtain ⟨nv, np, nc, tx, dy, ch, lg, nr, op, hR⟩ := h.1.1
  obtain ⟨hN, hF, hW, hS, hV, hC, hL, hK, hT⟩ := id hR
  obtain ⟨sz, ns, hsz, hns, e1, e2, e3⟩ := h.2.2.2.1.get
  have n1 := hN.1
  have n2 := hN.2.1
  have no : ¬ vp_in a nv ∨ ¬ vp_in b 216 → w_X8_change a b M (fun _ M2 => M2.1 140 0 = nI (0 + 1) ∧ Inv M2) := by
    intro q
    unfold w_X8_change
    simp only [sLet]
    refine gN (if_pos ?_) (dueX h rfl)
    by_cases hp : vp_in a nv
    · have hv : ¬ vp_in b 216 := q.resolve_left (fun x => x hp)
      rw [noC_n hv]
      exact Or.inr (by decide)
    · rw [noV_nt hW.1 n1 hp]
      exact Or.inl (by decide)
  by_cases hv : vp_in a nv
  · refine n7_V_y hF.1 n1 hv ?_
    by_cases hb : vp_in b 216
    · refine n7_C_y hb ?_
      obtain ⟨v, hv', rfl⟩ := vp_in_of hv (by omega)
      obtain ⟨c, hc', rfl⟩ := vp_in_of hb (by omega)
      refine c3_keep hsz hns e1 e2 ⟨vp_in_nI (by omega) (by decide), sLet_i ?_⟩
      rw [nI_clamp (by omega)]
      refine c5_tellAnew (by omega) (np := np) (by rw [kpM_lo (by omega)]; exact hF.2.1) n2 (sLet_i ?_)
      generalize hM0 : knA (tA (kpM M sz ns) 0 v (nI c)) (0 + 9) v np = M0
      generalize hM1 : sk_si M0 0 8 (M0.1 0 8 + 1) = M1
      have m0 : ∀ c, 10 ≤ c → M1.1 c = (kpM M sz ns).1 c := fun c hc => by rw [← hM1, si_c (by omega), ← hM0, knA_1]; unfold tA; rw [si_c (by omega), si_c (by omega)]
      have m2 : ∀ c, c ≠ 9 → M1.2 c = (kpM M sz ns).2 c := fun c hc => by rw [← hM1, si_2, ← hM0]; exact knA_ne hc np
      have m3 : ∀ c, 1 < c → c < 10 → M1.1 c = M.1 c := fun c h1 h2 => by rw [← hM1, si_c (by omega), ← hM0, knA_1]; unfold tA; rw [si_c (by omega), si_c (by omega), kpM_lo h2]
      have m4 : ∀ k, k ≠ 8 → k ≠ 9 → M1.1 0 k = M.1 0 k := fun k h1 h2 => by rw [← hM1, rd_si, if_neg (by omega), ← hM0, knA_1]; unfold tA; rw [rd_si, if_neg (by omega), si_c (by omega), kpM_lo (by omega)]
      have m5 : M1.1 0 9 = nI (clr op v) := by
        rw [← hM1, rd_si, if_neg (by omega), ← hM0, knA_1]
        unfold tA
        rw [rd_si, if_pos ⟨rfl, rfl⟩, kpM_lo (by omega), hF.2.2.2.2.2.2.2.2]
        exact clr_N (by omega)
      have m6 : M1.1 0 8 = M.1 0 8 + 1 := by
        rw [← hM1, rd_si, if_pos ⟨rfl, rfl⟩, ← hM0, knA_1]
        unfold tA
        rw [rd_si, if_neg (by omega), si_c (by omega), kpM_lo (by omega)]
      have m7 : ∀ i, M1.1 1 i = if i = v then nI c else M.1 1 i := fun i => by
        rw [← hM1, si_c (by omega), ← hM0, knA_1]
        unfold tA
        rw [si_c (by omega), rd_si, kpM_lo (by omega)]
        simp only [Nat.zero_add, true_and]
      have ac : actC M M1 sz ns := actC_of hns (fun c h1 _ => m0 c h1) m2 (fun i _ => by rw [m3 7 (by omega) (by omega)]) (m4 4 (by omega) (by omega)) (TB_cg h.2.2.2.2.1 (by rw [m0 130 (by omega), kpM_hi (by omega) hns]) (by rw [m0 134 (by omega), kpM_hi (by omega) hns]))
      have p1 : ∀ c, 140 ≤ c → M1.1 c = M.1 c := fun c hc => by rw [m0 c (by omega), kpM_hi (by omega) hns]
      have p2 : ∀ c, 140 ≤ c → M1.2 c = M.2 c := fun c hc => by rw [m2 c (by omega), kpM_2 (by omega) hns]
      generalize hx : (kpM M sz ns).1 (0 + 1) v = x
      unfold w_X8_change
      simp only [sLet]
      refine gY (if_neg ?_) ?_
      · rw [noV_yt (M := sk_sl M1 158 0 x.toInt64) (n := nv) (by show M1.1 141 0 = _; rw [p1 141 (by omega)]; exact hW.1) n1 hv, noC_y hb]
        decide
      · refine s8_remembers (sz := sz) ?_ hsz (fun N f r => ?_)
        · rw [rd_si, if_neg (by omega)]
          show M1.1 140 12 = _
          rw [p1 140 (by omega)]
          exact e3
        · obtain ⟨w1, k6, t0, o0, lo, lo2⟩ := remN p1 p2 f
          refine s8_of (k := 0) (by omega) (by omega) (s8_anew (by omega) ?_)
          generalize hN1 : sk_si (knA (sk_si (sk_si N 141 (10 + 4 * v) (nI c)) 141 (13 + 4 * v) 0) 146 v 6) 141 7 (N.1 141 7 + 1) = N1
          have g1 : ∀ c, c ≠ 141 → N1.1 c = N.1 c := fun c hc => by rw [← hN1, si_c hc, knA_1, si_c hc, si_c hc]
          have g2 : ∀ c, c ≠ 146 → N1.2 c = N.2 c := fun c hc => by rw [← hN1, si_2, knA_ne hc]; rfl
          have g3 : ∀ k, k ≠ 7 → k ≠ 10 + 4 * v → k ≠ 13 + 4 * v → N1.1 141 k = N.1 141 k := fun k h1 h2 h3 => by rw [← hN1, rd_si, if_neg (by omega), knA_1, rd_si, if_neg (by omega), rd_si, if_neg (by omega)]
          have ar : actR (sk_sl M1 158 0 x.toInt64) N1 sz := actR_of f r (fun c h1 _ => g1 c h1) g2 (g3 4 (by omega) (by omega) (by omega)) (fun k h1 _ => g3 k (by omega) (by omega) (by omega)) (fun hz i hi => by rw [g1 155 (by omega)]; exact hz i hi)
          refine dueA h hsz hns e1 e2 ac ar ⟨nv, np, nc, tx, dy, ch, lg, nr, clr op v, ?_⟩ ?_ ?_ ?_
          · have q1 : ∀ c, c < 140 → N1.1 c = M1.1 c := fun c hc => by rw [g1 c (by omega), lo c hc]
            refine hR.anew hv' hc' (fun k _ h1 h2 => by rw [q1 0 (by omega), m4 k h1 h2]) (by rw [q1 0 (by omega), m5]) ?_ (fun i _ => by rw [q1 1 (by omega), m7 i]) (by rw [q1 2 (by omega), m3 2 (by omega) (by omega)]) (by rw [q1 3 (by omega), m3 3 (by omega) (by omega)]) (by rw [q1 4 (by omega), m3 4 (by omega) (by omega)]) (by rw [q1 5 (by omega), m3 5 (by omega) (by omega)]) (by rw [q1 6 (by omega), m3 6 (by omega) (by omega)]) (by rw [q1 8 (by omega), m3 8 (by omega) (by omega)]) (fun k _ h1 h2 h3 => by rw [g3 k h1 h2 h3, w1]) ?_ ?_ (fun i hi => ?_) (fun i hi => ?_)
            · rw [q1 0 (by omega), m6, ← hN1, rd_si, if_pos ⟨rfl, rfl⟩, w1, hS.2]
            · rw [← hN1, rd_si, if_neg (by omega), knA_1, rd_si, if_neg (by omega), rd_si, if_pos ⟨rfl, rfl⟩]
            · rw [← hN1, rd_si, if_neg (by omega), knA_1, rd_si, if_pos ⟨rfl, rfl⟩]
            · rw [g2 9 (by omega), lo2 9 (by omega), ← hM1, si_2, ← hM0]
              show (knA (tA (kpM M sz ns) 0 v (nI c)) 9 v np).2 9 i = _
              rw [knA_at (by omega)]
              unfold tA
              rw [si_2, si_2, kpM_2 (by omega) hns]
            · rw [← hN1, si_2, knA_at (by omega), si_2, si_2, k6]
          · rw [g1 140 (by omega)]; exact t0
          · rw [g2 158 (by omega)]; exact o0
          · rw [← hx, w1, kpM_lo (by omega)]
            obtain ⟨d, -, q1, q2⟩ := (hV v hv').1
            show M.1 1 v = M.1 141 (10 + 4 * v)
            rw [q1, q2]
    · exact n7_C_n hb ⟨0, rfl, no (Or.inr hb)⟩
  · exact n7_V_n hF.1 n1 hv ⟨0, rfl, no (Or.inl hv)⟩
