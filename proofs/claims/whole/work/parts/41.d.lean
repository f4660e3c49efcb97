/-! turn -/
theorem st_turn {M : sk_M} (h : Inv M) (a b d : Int32) : StI Inv (fun Q X => w_X7_turn a b d M Q X) (w_X8_turn a b d) ["java/lang/IndexOutOfBoundsException", "java/lang/IllegalStateException"] := by
  unfold StI w_X7_turn
  obtain ⟨nv, np, nc, tx, dy, ch, lg, nr, op, hR⟩ := h.1.1
  obtain ⟨hN, hF, hW, hS, hV, hC, hL, hK, hT⟩ := id hR
  obtain ⟨sz, ns, hsz, hns, e1, e2, e3⟩ := h.2.2.2.1.get
  obtain ⟨n1, n2, n3, n4, n5, n6, n7, n8, n9⟩ := id hN
  have hLw := h.1.2
  have no : ¬ vp_in a np ∨ ¬ vp_in b nv ∨ ¬ vp_in d 216 → w_X8_turn a b d M (fun _ M2 => M2.1 140 0 = nI (0 + 1) ∧ Inv M2) := by
    intro q
    unfold w_X8_turn
    refine sLet_i (sLet_i (gN' (if_pos ?_) (dueX h rfl)))
    by_cases hp : vp_in a np
    · by_cases hb : vp_in b nv
      · have hv : ¬ vp_in d 216 := (q.resolve_left (fun x => x hp)).resolve_left (fun x => x hb)
        rw [noC_n hv]
        exact Or.inr (Or.inr (by decide))
      · rw [noV_nt hW.1 n1 hb]
        exact Or.inr (Or.inl (by decide))
    · rw [noP_nt hW.2.1 n2 hp]
      exact Or.inl (by decide)
  refine n7_PV hF.2.1 hF.1 n2 n1 (fun p v hp hv e e' => ?_) (fun q => ⟨0, rfl, no (q.imp id Or.inl)⟩)
  subst e e'
  refine n7_C (fun t ht e => ?_) (fun q => ⟨0, rfl, no (Or.inr (Or.inr q))⟩)
  subst e
  have gd : ∀ M' : sk_M, M'.1 141 = M.1 141 → ¬ (¬ ((f_X8_noPerson (nI p) (sk_si M' 140 0 0)) = 0) ∨ (¬ ((f_X8_noVault (nI v) (sk_si M' 140 0 0)) = 0) ∨ (¬ ((f_X8_noCode (nI t)) = 0)))) := by
    intro M' hM
    rw [noP_yt (n := np) (by rw [hM]; exact hW.2.1) n2 (vp_in_nI hp (by omega)), noV_yt (n := nv) (by rw [hM]; exact hW.1) n1 (vp_in_nI hv (by omega)), noC_y (vp_in_nI ht (by decide))]
    decide
  have gI : ∀ (M' : sk_M) (Q : Int32 → Prop), M'.1 141 = M.1 141 → Q (bI (isG M 0 dy v)) → w_X8_isGuarded (nI v) (M'.1 141 5) M' Q := fun M' Q hM hq => by
    rw [hM, hW.2.2.2.2.1]
    refine s8_isGuarded (by omega) n5 ?_
    rw [hM, ← hR.guard hv]
    exact hq
  refine c5_isGuarded (by omega) hF.2.2.2.2.1 n5 ?_
  by_cases hg : isG M 0 dy v
  · refine i_t (by rw [bI_t hg]; decide) ⟨1, rfl, ?_⟩
    unfold w_X8_turn
    refine sLet_i (sLet_i (gY' (if_neg (gd M rfl)) ?_))
    refine gI _ _ (si_c (by omega)) (gN (bI_t hg) ?_)
    exact dueX h rfl
  · refine i_f (fun z => z (by rw [bI_f hg])) ?_
    refine c3_keep hsz hns e1 e2 ⟨vp_in_nI (by omega) (by decide), sLet_i ?_⟩
    rw [nI_clamp (by omega)]
    obtain ⟨u, hu, eF, eW⟩ := (hV v hv).1
    have ey : (kpM M sz ns).1 (0 + 1) v = nI u := by rw [show 0 + 1 = 1 from rfl, kpM_lo (by omega)]; exact eF
    rw [ey]
    unfold w_X5_soundOf
    refine ⟨vp_in_nI ht (by decide), vp_in_nI hu (by decide), ?_⟩
    rw [nI_clamp (by omega), nI_clamp (by omega), show (kpM M sz ns).1 (0 + 7) = M.1 7 from kpM_lo (by omega)]
    refine c4_load (by omega) (by omega) (fun M3 s3 l3 => ?_)
    rw [kpM_2 (by omega) hns, hR.lfts hp hv] at l3
    have c3 : ∀ c, c ≠ 130 → c ≠ 131 → c ≠ 132 → M3.1 c = (kpM M sz ns).1 c := s3.1
    unfold w_X4_hear
    refine ⟨vp_in_nI ht (by decide), vp_in_nI hu (by decide), _, l3, ?_⟩
    rintro M4 ⟨h4, l4⟩
    rw [nI_clamp (by omega), nI_clamp (by omega), show M3.1 (0 + 7) = M.1 7 from (c3 7 (by omega) (by omega) (by omega)).trans (kpM_lo (by omega))] at l4
    refine c5_know (by omega) (by omega) l4 (fun M5 m5 k5 o5 b5 => sLet_i ?_)
    -- M5 is the kept memory but for the row of what is known
    have q1 : ∀ c, c < 130 ∨ 140 ≤ c → M5.1 c = (kpM M sz ns).1 c := fun c hc => by
      rw [m5, h4.1 c (by omega) (by omega) (by omega) (by omega), c3 c (by omega) (by omega) (by omega)]
    have q2 : ∀ c, c ≠ 9 → M5.2 c = (kpM M sz ns).2 c := fun c hc => by rw [k5 c hc, h4.2.1, s3.2.1]
    have q3 : ∀ i, ¬ (4 * (6 * p + v) ≤ i ∧ i < 4 * (6 * p + v) + 4) → M5.2 9 i = M.2 9 i := fun i hi => by
      rw [o5 i (by omega), h4.2.1, s3.2.1, kpM_2 (by omega) hns]
    have q4 : TB M5 := by
      refine TB_c2 h.2.2.2.2.1 ?_ ?_
      · rw [m5, h4.2.2 10 (by omega) (by omega), s3.2.2 10 (by omega), kpM_hi (by omega) hns]
      · rw [m5, h4.1 134 (by omega) (by omega) (by omega) (by omega), c3 134 (by omega) (by omega) (by omega), kpM_hi (by omega) hns]
    have q5 : ∀ x, x < 256 → (kb (M5.2 9) (4 * (6 * p + v)) x = true ↔ x < 216 ∧ kbit (M.2 146) (4 * (6 * p + v)) x ∧ stP (M.1 7) t u x) := fun x hx => by
      rw [b5 x hx, fP_mem]
      unfold lft
      rw [enl_mem, and_assoc]
    obtain ⟨op', eo⟩ : ∃ op', op' = if t = u then op ||| 2 ^ v else op := ⟨_, rfl⟩
    have hop : op' < 2 ^ nv := by
      rw [eo]
      by_cases z : t = u
      · rw [if_pos z]; exact set_lt n9 hv
      · rw [if_neg z]; exact n9
    generalize hx : sndC (M.1 7) t u = x
    -- what is left behind both branches
    have run : ∀ M6 : sk_M, (∀ c, c ≠ 0 → M6.1 c = M5.1 c) → M6.2 = M5.2 → M6.1 0 9 = nI op' → (∀ k, k ≠ 9 → M6.1 0 k = M5.1 0 k) → w_X5_write 0 (nI p) (nI v) (nI t) x M6 (fun M131 => w_X8_turn (nI p) (nI v) (nI t) (sk_sl M131 158 0 x.toInt64) (fun b M2 => M2.1 140 0 = 0 ∧ M2.2 158 0 = b.toInt64 ∧ Inv M2)) := by
      intro M6 a1 a2 a3 a4
      have z0 : M5.1 0 = M.1 0 := by rw [q1 0 (by omega), kpM_lo (by omega)]
      have y5 : M6.1 0 5 = nI dy := by rw [a4 5 (by omega), z0]; exact hF.2.2.2.2.1
      have y11 : M6.1 0 11 = nI nr := by rw [a4 11 (by omega), z0]; exact hF.2.2.2.2.2.2.2.1
      have y10 : M6.1 0 10 = nI lg := by rw [a4 10 (by omega), z0]; exact hF.2.2.2.2.2.2.1
      have y1 : M6.1 (0 + 1) v = nI u := by rw [show 0 + 1 = 1 from rfl, a1 1 (by omega), q1 1 (by omega), kpM_lo (by omega)]; exact eF
      unfold w_X5_write
      rw [y11, y10, y5, nI_clamp (n := p) (by omega), nI_clamp (n := v) (by omega), y1, nI_clamp (n := nr) (by omega), nI_clamp (n := lg) (by omega)]
      refine ⟨vp_in_nI (by omega) (by decide), vp_in_nI (by omega) (by decide), vp_in_nI (by omega) (by decide), vp_in_nI (by omega) (by decide), ?_⟩
      have eb : bI (nI t = nI u) = bI (t = u) := bI_cg ⟨fun z => (nI_eq (by omega) (by omega)).mp z, fun z => by rw [z]⟩
      rw [eb]
      generalize hM1 : wrM M6 0 nr lg (nI dy) (nI p) (nI v) (nI t) x (bI (t = u)) = M1
      have g1 : ∀ c, c ≠ 0 → c ≠ 8 → M1.1 c = M5.1 c := fun c h0 h8 => by rw [← hM1, wrM_c h0 h8, a1 c h0]
      have g2 : M1.2 = M5.2 := by rw [← hM1, wrM_2, a2]
      have ac : actC M M1 sz ns := by
        refine actC_of hns (fun c hc1 hc2 => ?_) (fun c hc => by rw [g2]; exact q2 c hc) (fun i _ => ?_) ?_ ?_
        · rw [g1 c (by omega) (by omega), q1 c (by omega)]
        · rw [g1 7 (by omega) (by omega), q1 7 (by omega), kpM_lo (by omega)]
        · rw [← hM1, wrM_0, if_neg (by omega), if_neg (by omega), a4 4 (by omega), z0]
        · exact TB_c2 q4 (by rw [g1 130 (by omega) (by omega)]) (by rw [g1 134 (by omega) (by omega)])
      have p1 : ∀ c, 140 ≤ c → M1.1 c = M.1 c := fun c hc => by rw [g1 c (by omega) (by omega), q1 c (by omega), kpM_hi (by omega) hns]
      have p2 : ∀ c, 140 ≤ c → M1.2 c = M.2 c := fun c hc => by rw [g2, q2 c (by omega), kpM_2 (by omega) hns]
      unfold w_X8_turn
      refine sLet_i (sLet_i (gY' (if_neg (gd (sk_sl M1 158 0 x.toInt64) (p1 141 (by omega)))) ?_))
      refine gI _ _ ((si_c (by omega)).trans (p1 141 (by omega))) (gY (bI_f hg) ?_)
      refine s8_remembers (sz := sz) ?_ hsz (fun N f r => ?_)
      · rw [rd_si, if_neg (by omega)]
        show M1.1 140 12 = _
        rw [p1 140 (by omega)]
        exact e3
      obtain ⟨w1, k6, t0, o0, lo, lo2⟩ := remN p1 p2 f
      refine s8_laysClicks (cl := M.1 7) (by rw [w1]; exact hLw.2.1) (fun N2 l2 => ?_)
      have w2 : N2.1 141 = M.1 141 := by rw [l2.1 141 (by omega) (by omega), w1]
      have u2 : N2.1 141 (10 + 4 * v) = nI u := by rw [w2]; exact eW
      refine s8_of (k := 0) (by omega) (by decide) ?_
      rw [show N2.1 141 (10 + 4 * v + 0) = nI u from u2]
      refine s8_soundOf ht hu ?_
      rw [sndC_cg l2.2.2 ht hu, hx]
      refine s8_hears (cl := M.1 7) (u := u) (by omega) (by omega) ht hu u2 l2.2.2 (fun N3 c1 c2 c3 c4 => sLet_i (sLet_i ?_))
      have hk0 := hT p hp v hv
      rw [eW, nI_clamp (by omega)] at hk0
      have k0 : N2.2 146 = M.2 146 := by rw [l2.2.1, k6]
      have r3 : ∀ y, y < 256 → (kb (N3.2 146) (4 * (6 * p + v)) y = true ↔ y < 216 ∧ kbit (M.2 146) (4 * (6 * p + v)) y ∧ stP (M.1 7) t u y) := fun y hy => by
        rw [c4 y hy, k0, kbit_iff]
        constructor
        · rintro ⟨i, j⟩
          have : y < 216 := by
            refine Classical.byContradiction fun z => ?_
            rw [msk_no hk0.1 (by omega) hy] at i
            exact absurd i (by decide)
          exact ⟨this, i, j this⟩
        · rintro ⟨i, j, k⟩
          exact ⟨j, fun _ => k⟩
      -- what is left behind both branches of the reference
      have fin : ∀ N4 : sk_M, (∀ c, c ≠ 141 → N4.1 c = N3.1 c) → (∀ k, k ≠ 13 + 4 * v → N4.1 141 k = N3.1 141 k) → N4.1 141 (13 + 4 * v) = bI (op'.testBit v = true) → (∀ c, c ≠ 146 → N4.2 c = N3.2 c) → (∀ i, ¬ (4 * (6 * p + v) ≤ i ∧ i < 4 * (6 * p + v) + 4) → N4.2 146 i = N3.2 146 i) → (∀ y, y < 256 → (kb (N4.2 146) (4 * (6 * p + v)) y = true ↔ kb (N3.2 146) (4 * (6 * p + v)) y = true)) → w_X8_tells (nI p) (nI v) (nI t) x (bI (t = u)) N4 (fun M124 => M124.1 140 0 = 0 ∧ M124.2 158 0 = x.toInt64 ∧ Inv M124) := by
        intro N4 d1 d2 d3 d4 d5 d6
        have v4 : ∀ k, k ≠ 13 + 4 * v → N4.1 141 k = M.1 141 k := fun k hk => by rw [d2 k hk, c1, w2]
        refine s8_tells (lg := lg) n7 (by rw [v4 8 (by omega)]; exact hW.2.2.2.2.2.2) (fun N5 b1 b2 b3 b4 b5 => ?_)
        have eo5 : (if ¬ (bI (t = u) = 0) then (1 : Int32) else 0) = bI (t = u) := by
          by_cases z : t = u
          · rw [bI_t z]; rfl
          · rw [bI_f z]; rfl
        rw [eo5, v4 5 (by omega), hW.2.2.2.2.1] at b4
        have x1 : ∀ c, c ≠ 141 → c < 153 ∨ 157 < c → N5.1 c = N.1 c := fun c hc hc2 => by rw [b1 c hc, d1 c hc, c1, l2.1 c (by omega) (by omega)]
        have x2 : ∀ c, c ≠ 146 → N5.2 c = N.2 c := fun c hc => by rw [b2, d4 c hc, c2 c hc, l2.2.1]
        have x3 : ∀ k, k < 82 ∨ 562 ≤ k → k ≠ 8 → k ≠ 13 + 4 * v → N5.1 141 k = M.1 141 k := fun k hk h8 h13 => by rw [b5 k hk h8, v4 k h13]
        have ar : actR (sk_sl M1 158 0 x.toInt64) N5 sz := actR_of f r x1 x2 (by rw [x3 4 (by omega) (by omega) (by omega), w1]) (fun k hk _ => by rw [x3 k (by omega) (by omega) (by omega), w1]) (fun hz i hi => by rw [b1 155 (by omega), d1 155 (by omega), c1, l2.1 155 (by omega) (by omega)]; exact hz i hi)
        have KB : ∀ y, y < 256 → (kb (N5.2 146) (4 * (6 * p + v)) y = true ↔ y < 216 ∧ kbit (M.2 146) (4 * (6 * p + v)) y ∧ stP (M.1 7) t u y) := fun y hy => by rw [b2, d6 y hy, r3 y hy]
        have lo1 : ∀ c, c < 140 → N5.1 c = M1.1 c := fun c hc => by rw [x1 c (by omega) (by omega), lo c hc]
        have lo9 : N5.2 9 = M5.2 9 := by rw [x2 9 (by omega), lo2 9 (by omega), g2]
        have hRel : Rel N5.1 (N5.2 9) (N5.1 141) (N5.2 146) nv np nc tx dy ch (min 80 (lg + 1)) ((nr + 1) % 80) op' := by
          refine hR.turn (q := p) (u := v) (op' := op') (r := tlR (nI dy) (nI p) (nI v) (nI t) x (bI (t = u))) hp hv ?_ ?_ ?_ ?_ ?_ ?_ hop ?_ b3 ?_ ?_ ?_ ?_ ?_ ?_ ?_
          · intro k hk h9 h10 h11
            rw [lo1 0 (by omega), ← hM1, wrM_0, if_neg h10, if_neg h11, a4 k h9, z0]
          · rw [lo1 0 (by omega), ← hM1, wrM_0, if_neg (by omega), if_neg (by omega), a3]
          · rw [lo1 0 (by omega), ← hM1, wrM_0, if_pos rfl]
          · rw [lo1 0 (by omega), ← hM1, wrM_0, if_neg (by omega), if_pos rfl]
          · intro c hc hc6
            rw [lo1 c (by omega), g1 c (by omega) (by omega), q1 c (by omega), kpM_lo (by omega)]
          · intro i
            rw [lo1 8 (by omega), ← hM1, wrM_8, a1 8 (by omega), q1 8 (by omega), kpM_lo (by omega)]
          · intro w hw
            by_cases z : w = v
            · rw [z, b5 _ (by omega) (by omega)]; exact d3
            · rw [x3 _ (by omega) (by omega) (by omega), (hV w hw).2.2.2, eo]
              by_cases y : t = u
              · rw [if_pos y]
                refine bI_cg ?_
                rw [set_tb, decide_eq_false z, Bool.or_false]
              · rw [if_neg y]
          · intro k hk
            rw [b4 k hk]
            by_cases z : k < 6
            · rw [if_pos z, if_pos z]
            · rw [if_neg z, if_neg z, v4 _ (by omega)]
          · intro k hk h8 h13
            exact x3 k (by omega) h8 (by omega)
          · intro i hi
            rw [lo9]; exact q3 i hi
          · intro i hi
            rw [b2, d5 i hi, c3 i (by omega), k0]
          · rw [lo9]
            exact kb_row (fun y hy => by rw [q5 y hy, KB y hy])
          · refine lb_ext (fun i hi => ?_)
            rw [lb_and, lb_24 i hi]
            by_cases z : i < 24
            · rw [decide_eq_true z, Bool.and_true]
            · rw [decide_eq_false z, Bool.and_false]
              have := KB (64 * 3 + i) (by omega)
              rw [kb_word hi] at this
              cases y : lb (N5.2 146 (4 * (6 * p + v) + 3)) i
              · rfl
              · exact absurd (this.mp y).1 (by omega)
          · rw [eW, nI_clamp (by omega), kbit_iff, KB u (by omega)]
            exact ⟨hu, hk0.2, stP_u⟩
        refine dueA h hsz hns e1 e2 ac ar ⟨nv, np, nc, tx, dy, ch, _, _, op', hRel⟩ ?_ ?_ rfl
        · rw [x1 140 (by omega) (by omega)]; exact t0
        · rw [x2 158 (by omega)]; exact o0
      by_cases z : t = u
      · have hb : ¬ (bI (t = u) = 0) := by rw [bI_t z]; decide
        refine i_t hb (s8_isAlone (by omega) (by omega) ht (i_t hb (s8_sets (k := 3) (by omega) (by decide) ?_)))
        refine fin _ (fun c hc => si_c hc) (fun k hk => by rw [rd_si, if_neg (fun y => hk (by omega))]; rfl) ?_ (fun c hc => by rw [si_2, sl_c hc]) (fun i hi => by rw [si_2, rd_sl, if_neg (fun y => by omega)]) (fun y hy => ?_)
        · rw [rd_si, if_pos ⟨rfl, by omega⟩, eo, if_pos z, bI_t (by rw [set_tb, decide_eq_true rfl, Bool.or_true])]
        · rw [si_2, kb_set, Bool.or_eq_true, decide_eq_true_iff]
          refine ⟨fun y => y.elim id (fun e => ?_), Or.inl⟩
          rw [r3 _ hy, e, z]
          exact ⟨hu, hk0.2, stP_u⟩
      · have hb : ¬ ¬ (bI (t = u) = 0) := by rw [bI_f z]; decide
        refine i_f hb (i_f hb ?_)
        refine fin N3 (fun _ _ => rfl) (fun _ _ => rfl) ?_ (fun _ _ => rfl) (fun _ _ => rfl) (fun _ _ => Iff.rfl)
        rw [c1, w2, (hV v hv).2.2.2, eo, if_neg z]
    have z0 : M5.1 0 9 = nI op := by rw [q1 0 (by omega), kpM_lo (by omega)]; exact hF.2.2.2.2.2.2.2.2
    by_cases z : t = u
    · refine i_t (by rw [z]) (sLet_i ?_)
      refine run _ (fun c hc => si_c hc) rfl ?_ (fun k hk => by rw [rd_si, if_neg (fun y => hk y.2)])
      rw [rd_si, if_pos ⟨rfl, rfl⟩, z0, set_N (by omega), eo, if_pos z]
    · refine i_f (fun y => z ((nI_eq (by omega) (by omega)).mp y)) ?_
      refine run M5 (fun _ _ => rfl) rfl ?_ (fun _ _ => rfl)
      rw [z0, eo, if_neg z]
