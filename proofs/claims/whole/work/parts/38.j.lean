/-! tell, guard: the calls -/
theorem s8_tellL {M : sk_M} {K : sk_M → Prop} {p o v : Nat} (hp : p < 6) (ho : o < 6) (hv : v < 6) (h : K (lf M 146 (4 * (6 * o + v)) (4 * (6 * p + v)) 4)) : lp (w_X8_tell_L69 (nI p) (nI o) (nI v) K) sk_F ((0 : Int32), M) := by
  refine lp_to (fun i => (nI i, lf M 146 (4 * (6 * o + v)) (4 * (6 * p + v)) i)) 4 (by decide) (fun i hi c hc => ?_) (fun c => ?_)
  · unfold w_X8_tell_L69
    refine i_t (nI_ge hi (by decide)) ?_
    simp (disch := omega) only [at_N, sk_lit, nI_add, pk_mul, pk_divN, rmN, pk_sub, nI_clamp, nI_leI, nI_ltI, nI_eq, vpT, mnN, mxN, sLet]
    exact ⟨trivial, trivial, trivial, hc⟩
  · unfold w_X8_tell_L69
    exact i_f (nn (n := 4) (by decide)) h
theorem st_tell {M : sk_M} (h : Inv M) (a b d : Int32) : StI Inv (fun Q X => w_X7_tell a b d M Q X) (w_X8_tell a b d) ["java/lang/IndexOutOfBoundsException", "java/lang/IllegalArgumentException"] := by
  unfold StI w_X7_tell w_X7_needTwo
  obtain ⟨nv, np, nc, tx, dy, ch, lg, nr, op, hR⟩ := h.1.1
  obtain ⟨hN, hF, hW, hS, hV, hC, hL, hK, hT⟩ := id hR
  obtain ⟨sz, ns, hsz, hns, e1, e2, e3⟩ := h.2.2.2.1.get
  have n1 := hN.1
  have n2 := hN.2.1
  have no : ¬ vp_in a np ∨ ¬ vp_in b np ∨ ¬ vp_in d nv → w_X8_tell a b d M (fun _ M2 => M2.1 140 0 = nI (0 + 1) ∧ Inv M2) := by
    intro q
    unfold w_X8_tell
    refine sLet_i (sLet_i (gN' (if_pos ?_) (dueX h rfl)))
    by_cases hp : vp_in a np
    · by_cases hb : vp_in b np
      · have hv : ¬ vp_in d nv := (q.resolve_left (fun x => x hp)).resolve_left (fun x => x hb)
        rw [noV_nt hW.1 n1 hv]
        exact Or.inr (Or.inr (by decide))
      · rw [noP_nt hW.2.1 n2 hb]
        exact Or.inr (Or.inl (by decide))
    · rw [noP_nt hW.2.1 n2 hp]
      exact Or.inl (by decide)
  refine n7_P hF.2.1 n2 (fun p hp e => ?_) (fun q => ⟨0, rfl, no (Or.inl q)⟩)
  refine n7_P hF.2.1 n2 (fun o ho e' => ?_) (fun q => ⟨0, rfl, no (Or.inr (Or.inl q))⟩)
  refine n7_V hF.1 n1 (fun v hv e'' => ?_) (fun q => ⟨0, rfl, no (Or.inr (Or.inr q))⟩)
  subst e e' e''
  have gd : ∀ M' : sk_M, M'.1 141 = M.1 141 → ¬ (¬ ((f_X8_noPerson (nI p) (sk_si M' 140 0 0)) = 0) ∨ (¬ ((f_X8_noPerson (nI o) (sk_si M' 140 0 0)) = 0) ∨ (¬ ((f_X8_noVault (nI v) (sk_si M' 140 0 0)) = 0)))) := by
    intro M' hM
    rw [noP_yt (n := np) (by rw [hM]; exact hW.2.1) n2 (vp_in_nI hp (by omega)), noP_yt (n := np) (by rw [hM]; exact hW.2.1) n2 (vp_in_nI ho (by omega)), noV_yt (n := nv) (by rw [hM]; exact hW.1) n1 (vp_in_nI hv (by omega))]
    decide
  refine i_b (fun q => ⟨1, rfl, ?_⟩) (fun q => ?_)
  · unfold w_X8_tell
    refine sLet_i (sLet_i (gY' (if_neg (gd M rfl)) (sLet_i (gN (if_pos q) ?_))))
    exact dueX h rfl
  · have hpo : p ≠ o := fun z => q (by rw [z])
    refine c3_keep hsz hns e1 e2 (c5_learnFrom (by omega) (by omega) (by omega) (c5_leftOf (by omega) (by omega) ?_))
    generalize hM1 : lf (kpM M sz ns) (0 + 9) (4 * (6 * o + v)) (4 * (6 * p + v)) 4 = M1
    have m1 : M1.1 = (kpM M sz ns).1 := by rw [← hM1]; exact lf_1 _ _ _ _ 4
    have m2 : ∀ c, c ≠ 9 → M1.2 c = (kpM M sz ns).2 c := fun c hc => by rw [← hM1]; exact lf_ne hc 4
    have ac : actC M M1 sz ns := actC_of hns (fun c _ _ => by rw [m1]) m2 (fun i _ => by rw [m1, kpM_lo (by omega)]) (by rw [m1, kpM_lo (by omega)]) (TB_cg h.2.2.2.2.1 (by rw [m1, kpM_hi (by omega) hns]) (by rw [m1, kpM_hi (by omega) hns]))
    have p1 : ∀ c, 140 ≤ c → M1.1 c = M.1 c := fun c hc => by rw [m1, kpM_hi (by omega) hns]
    have p2 : ∀ c, 140 ≤ c → M1.2 c = M.2 c := fun c hc => by rw [m2 c (by omega), kpM_2 (by omega) hns]
    generalize hx : leftP (M1.2 (0 + 9)) (4 * (6 * o + v)) 4 = x
    unfold w_X8_tell
    refine sLet_i (sLet_i (gY' (if_neg (gd (sk_sl M1 158 0 x.toInt64) (p1 141 (by omega)))) (sLet_i (gY (if_neg q) ?_))))
    refine s8_remembers (sz := sz) ?_ hsz (fun N f r => ?_)
    · rw [rd_si, if_neg (by omega)]
      show M1.1 140 12 = _
      rw [p1 140 (by omega)]
      exact e3
    · obtain ⟨w1, k6, t0, o0, lo, lo2⟩ := remN p1 p2 f
      refine s8_tellL (by omega) (by omega) (by omega) (s8_leftOf (by omega) (by omega) ?_)
      generalize hN1 : lf N 146 (4 * (6 * o + v)) (4 * (6 * p + v)) 4 = N1
      have g1 : N1.1 = N.1 := by rw [← hN1]; exact lf_1 _ _ _ _ 4
      have g2 : ∀ c, c ≠ 146 → N1.2 c = N.2 c := fun c hc => by rw [← hN1]; exact lf_ne hc 4
      have ar : actR (sk_sl M1 158 0 x.toInt64) N1 sz := actR_of f r (fun c _ _ => by rw [g1]) g2 (by rw [g1]) (fun k _ _ => by rw [g1]) (fun hz i hi => by rw [g1]; exact hz i hi)
      have h9 : Rel M.1 (fun i => if 4 * (6 * o + v) ≤ i ∧ i < 4 * (6 * o + v) + 4 then M.2 9 i &&& M.2 9 (4 * (6 * p + v) + (i - 4 * (6 * o + v))) else M.2 9 i) (M.1 141) (fun i => if 4 * (6 * o + v) ≤ i ∧ i < 4 * (6 * o + v) + 4 then M.2 146 i &&& M.2 146 (4 * (6 * p + v) + (i - 4 * (6 * o + v))) else M.2 146 i) nv np nc tx dy ch lg nr op := hR.tell ho hp hv (fun _ _ => rfl) (fun _ _ => rfl)
      have hlo : ∀ c, c < 10 → N1.1 c = M.1 c := fun c hc => by rw [g1, lo c (by omega), m1, kpM_lo hc]
      have hR9 : Rel N1.1 (N1.2 9) (N1.1 141) (N1.2 146) nv np nc tx dy ch lg nr op := by
        refine h9.cg (fun k _ => by rw [hlo 0 (by omega)]) (fun k _ => by rw [hlo 1 (by omega)]) (fun k _ => by rw [hlo 2 (by omega)]) (fun k _ => by rw [hlo 3 (by omega)]) (fun k _ => by rw [hlo 4 (by omega)]) (fun k _ => by rw [hlo 5 (by omega)]) (fun k _ => by rw [hlo 6 (by omega)]) (fun k _ => by rw [hlo 8 (by omega)]) (fun i hi => ?_) (fun k _ => by rw [g1, w1]) (fun i hi => ?_)
        · rw [g2 9 (by omega), lo2 9 (by omega), ← hM1]
          show (lf (kpM M sz ns) 9 _ _ 4).2 9 i = _
          rw [lf_at (by omega) 4 (by omega), kpM_2 (by omega) hns]
        · rw [← hN1, lf_at (by omega) 4 (by omega), k6]
      refine dueA h hsz hns e1 e2 ac ar ⟨nv, np, nc, tx, dy, ch, lg, nr, op, hR9⟩ ?_ ?_ ?_
      · rw [g1]; exact t0
      · rw [g2 158 (by omega)]; exact o0
      · rw [← hx, ← hR9.left ho hv]
        show leftP (M1.2 9) _ 4 = leftP (N1.2 9) _ 4
        rw [g2 9 (by omega), lo2 9 (by omega)]
/-- a vault's guards are set on both sides -/
theorem Rel.guards {F F' : Nat → Nat → Int32} {KF : Nat → Int64} {W W' : Nat → Int32} {K : Nat → Int64} {nv np nc tx dy ch lg nr op : Nat} (h : Rel F KF W K nv np nc tx dy ch lg nr op) {u g : Nat} (hu : u < nv) (hg : g < 128) (e : ∀ c, c ≠ 2 → F' c = F c) (e2 : ∀ i, F' 2 i = if i = u then nI g else F 2 i) (w : ∀ k, k ≠ 11 + 4 * u → W' k = W k) (w2 : W' (11 + 4 * u) = nI g) : Rel F' KF W' K nv np nc tx dy ch lg nr op := by
  obtain ⟨hN, hF, hW, hS, hV, hC, hL, hK, hT⟩ := h
  obtain ⟨n1, n2, n3, n4, n5, n6, n7, n8, n9⟩ := id hN
  refine ⟨hN, by rw [e 0 (by omega)]; exact hF, ?_, ?_, ?_, ?_, ?_, hK, ?_⟩
  · unfold RlW
    rw [w 0 (by omega), w 1 (by omega), w 2 (by omega), w 3 (by omega), w 5 (by omega), w 6 (by omega), w 8 (by omega)]
    exact hW
  · unfold RlS
    rw [e 0 (by omega), w 9 (by omega), w 7 (by omega)]
    exact hS
  · intro v hv
    obtain ⟨v1, v2, v3, v4⟩ := hV v hv
    rw [e 1 (by omega), e 3 (by omega), w _ (by omega), w (12 + 4 * v) (by omega), w (13 + 4 * v) (by omega), e2 v]
    refine ⟨v1, ?_, v3, v4⟩
    by_cases q : v = u
    · subst q
      rw [if_pos rfl]
      exact ⟨g, hg, rfl, w2⟩
    · rw [if_neg q, w _ (by omega)]
      exact v2
  · intro c hc
    rw [e 4 (by omega), e 5 (by omega), e 6 (by omega), w _ (by omega), w _ (by omega), w _ (by omega), w _ (by omega)]
    exact hC c hc
  · intro a ha k hk
    rw [e 8 (by omega), w _ (by omega)]
    exact hL a ha k hk
  · intro p hp v hv
    rw [w _ (by omega)]
    exact hT p hp v hv
theorem st_guard {M : sk_M} (h : Inv M) (a b d : Int32) (hd : d = 0 ∨ d = 1) : StB Inv (fun Q X => w_X7_guard a b d M Q X) (w_X8_guard a b d) ["java/lang/IndexOutOfBoundsException", "java/lang/IllegalArgumentException"] := by
  unfold StB w_X7_guard
  obtain ⟨nv, np, nc, tx, dy, ch, lg, nr, op, hR⟩ := h.1.1
  obtain ⟨hN, hF, hW, hS, hV, hC, hL, hK, hT⟩ := id hR
  obtain ⟨sz, ns, hsz, hns, e1, e2, e3⟩ := h.2.2.2.1.get
  have n1 := hN.1
  have n2 := hN.2.1
  refine n7_V hF.1 n1 (fun v hv e => ?_) (fun hv => ⟨0, rfl, ?_⟩)
  · subst e
    by_cases hb : vp_in b 7
    · refine i_f (vp_yes (n := 7) (by decide) hb) ?_
      obtain ⟨k, hk, rfl⟩ := vp_in_of hb (by decide)
      refine c3_keep hsz hns e1 e2 ⟨vp_in_nI (by omega) (by decide), sLet_i (sLet_i ⟨vp_in_nI (by omega) (by decide), sLet_i ?_⟩)⟩
      obtain ⟨g, hg, q1, q2⟩ := (hV v hv).2.1
      have ek : (kpM M sz ns).1 (0 + 2) (nI v).toNatClampNeg = nI g := by rw [nI_clamp (by omega), Nat.zero_add, kpM_lo (by omega), q1]
      rw [ek, nI_clamp (by omega)]
      obtain ⟨d1, d2, d3⟩ := gd_all g hg k hk
      -- the new guards, as a number
      obtain ⟨g', hg', eg, eg8⟩ : ∃ g', g' < 128 ∧ (if ¬ (d = 0) then (nI g ||| ((1 : Int32) <<< (nI k &&& 31))) else (nI g &&& (((1 : Int32) <<< (nI k &&& 31)) ^^^ (-1 : Int32)))) = nI g' ∧ ((nI g &&& (((1 : Int32) <<< (nI k &&& 31)) ^^^ (-1 : Int32))) ||| (if ¬ (d = 0) then ((1 : Int32) <<< (nI k &&& 31)) else (0 : Int32))) = nI g' := by
        by_cases z : d = 0
        · refine ⟨clr g k, clr_lt (k := 7) hg, ?_, ?_⟩
          · rw [if_neg (fun y => y z), clr_N (by omega)]
          · rw [if_neg (fun y => y z), or0I, clr_N (by omega)]
        · refine ⟨g ||| 2 ^ k, set_lt (k := 7) hg hk, ?_, ?_⟩
          · rw [if_pos z, set_N (by omega)]
          · rw [if_pos z, ← d1, set_N (by omega)]
      rw [eg]
      generalize hM1 : sk_si (kpM M sz ns) (0 + 2) v (nI g') = M1
      have m0 : ∀ c, c ≠ 2 → M1.1 c = (kpM M sz ns).1 c := fun c hc => by rw [← hM1, si_c (by omega)]
      have m2 : M1.2 = (kpM M sz ns).2 := by rw [← hM1]; rfl
      have ac : actC M M1 sz ns := actC_of hns (fun c _ _ => m0 c (by omega)) (fun c _ => by rw [m2]) (fun i _ => by rw [m0 7 (by omega), kpM_lo (by omega)]) (by rw [m0 0 (by omega), kpM_lo (by omega)]) (TB_cg h.2.2.2.2.1 (by rw [m0 130 (by omega), kpM_hi (by omega) hns]) (by rw [m0 134 (by omega), kpM_hi (by omega) hns]))
      have p1 : ∀ c, 140 ≤ c → M1.1 c = M.1 c := fun c hc => by rw [m0 c (by omega), kpM_hi (by omega) hns]
      have p2 : ∀ c, 140 ≤ c → M1.2 c = M.2 c := fun c hc => by rw [m2, kpM_2 (by omega) hns]
      have fin : ∀ y : Int64, y = (if nI g' = nI g then 0 else 1) → w_X8_guard (nI v) (nI k) d (sk_sl M1 158 0 y) (fun b M2 => M2.1 140 0 = 0 ∧ M2.2 158 0 = (if b = 0 then 0 else 1) ∧ Inv M2) := by
        intro y hy
        unfold w_X8_guard
        refine sLet_i (gY' (noV_yt (n := nv) (by show M1.1 141 0 = _; rw [p1 141 (by omega)]; exact hW.1) n1 (vp_in_nI hv (by omega))) (sLet_i (gY ?_ ?_)))
        · rw [inN_y 7 (by decide) (by decide) hb, if_neg (by decide)]
        · refine s8_remembers (sz := sz) ?_ hsz (fun N f r => ?_)
          · rw [rd_si, if_neg (by omega)]
            show M1.1 140 12 = _
            rw [p1 140 (by omega)]
            exact e3
          · obtain ⟨w1, k6, t0, o0, lo, lo2⟩ := remN p1 p2 f
            have eW : N.1 141 (10 + 4 * v + 1) = nI g := by rw [w1, show 10 + 4 * v + 1 = 11 + 4 * v by omega]; exact q2
            refine s8_of (k := 1) (by omega) (by decide) (sLet_i (s8_of (k := 1) (by omega) (by decide) (sLet_i (s8_sets (k := 1) (by omega) (by decide) ?_))))
            rw [eW, eg8, show 10 + 4 * v + 1 = 11 + 4 * v by omega]
            generalize hN1 : sk_si N 141 (11 + 4 * v) (nI g') = N1
            have g1 : ∀ c, c ≠ 141 → N1.1 c = N.1 c := fun c hc => by rw [← hN1, si_c hc]
            have g3 : ∀ x, x ≠ 11 + 4 * v → N1.1 141 x = N.1 141 x := fun x hx => by rw [← hN1, rd_si, if_neg (by omega)]
            have g2 : N1.2 = N.2 := by rw [← hN1]; rfl
            have ar : actR (sk_sl M1 158 0 y) N1 sz := actR_of f r (fun c h1 _ => g1 c h1) (fun c _ => by rw [g2]) (g3 4 (by omega)) (fun x h1 _ => g3 x (by omega)) (fun hz i hi => by rw [g1 155 (by omega)]; exact hz i hi)
            have hI : Inv N1 := by
              refine h.acts hsz hns e1 e2 ac ar ⟨nv, np, nc, tx, dy, ch, lg, nr, op, ?_⟩
              have r1 := hR.guards (F' := fun c => if c = 2 then (fun i => if i = v then nI g' else M.1 2 i) else M.1 c) (W' := N1.1 141) hv hg' (fun c hc => if_neg hc) (fun i => by rw [if_pos rfl]) (fun x hx => by rw [g3 x hx, w1]) (by rw [← hN1, rd_si, if_pos ⟨rfl, rfl⟩])
              have q0 : ∀ c, c ≠ 2 → c < 10 → N1.1 c = M.1 c := fun c h1 h2 => by rw [g1 c (by omega), lo c (by omega), m0 c h1, kpM_lo h2]
              refine r1.cg (fun x _ => by rw [q0 0 (by omega) (by omega)]; rfl) (fun x _ => by rw [q0 1 (by omega) (by omega)]; rfl) (fun x _ => ?_) (fun x _ => by rw [q0 3 (by omega) (by omega)]; rfl) (fun x _ => by rw [q0 4 (by omega) (by omega)]; rfl) (fun x _ => by rw [q0 5 (by omega) (by omega)]; rfl) (fun x _ => by rw [q0 6 (by omega) (by omega)]; rfl) (fun x _ => by rw [q0 8 (by omega) (by omega)]; rfl) (fun i hi => ?_) (fun _ _ => rfl) (fun i hi => by rw [g2, k6])
              · rw [g1 2 (by omega), lo 2 (by omega), ← hM1, Nat.zero_add, rd_si, kpM_lo (by omega)]
                simp only [true_and, if_true]
              · rw [g2, lo2 9 (by omega), m2, kpM_2 (by omega) hns]
            have t1 : N1.1 140 0 = 0 := by rw [g1 140 (by omega)]; exact t0
            have t2 : N1.2 158 0 = y := by rw [g2]; exact o0
            have key : (f_X8_has (nI g) (nI k) = d) ↔ (nI g' = nI g) := by
              rw [has_N]
              rcases hd with z | z
              · rw [if_neg (fun y => y z)] at eg
                rw [z, bI_z, has_tb (by omega) (by omega), ← eg, d3]
                simp
              · rw [if_pos (by rw [z]; decide)] at eg
                rw [z, bI_1, has_tb (by omega) (by omega), ← eg, d2]
            refine i_b (fun z => ⟨t1, ?_, hI⟩) (fun z => ⟨t1, ?_, hI⟩)
            · rw [t2, hy, if_neg (fun w => z (key.mpr w))]
              rfl
            · rw [t2, hy, if_pos (key.mp (Classical.byContradiction z))]
              rfl
      refine i_b (fun z => fin _ ?_) (fun z => fin _ ?_)
      · rw [if_neg z]; rfl
      · rw [if_pos (Classical.byContradiction z)]; rfl
    · refine i_t (vp_no (n := 7) (by decide) hb) ⟨1, rfl, ?_⟩
      unfold w_X8_guard
      refine sLet_i (gY' (noV_yt hW.1 n1 (vp_in_nI hv (by omega))) (sLet_i (gN ?_ (dueX h rfl))))
      rw [inN_n 7 (by decide) (by decide) hb, if_pos rfl]
  · unfold w_X8_guard
    exact g8_V_n' hW.1 n1 hv (dueX h rfl)
