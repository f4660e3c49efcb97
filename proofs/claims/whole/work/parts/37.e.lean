/-! forget, tell, change, guard -/
theorem fk_at {M : sk_M} {c a i : Nat} : ∀ n, (fk M c a n).2 c i = if a ≤ i ∧ i < a + n then kMask (i - a) else M.2 c i
  | 0 => by rw [if_neg (by omega)]; rfl
  | n + 1 => by
    rw [fk, rd_sl, fk_at n]
    by_cases h : i = a + n
    · subst h
      rw [if_pos ⟨rfl, rfl⟩, if_pos (by omega), Nat.add_sub_cancel_left]
    · rw [if_neg (by omega)]
      by_cases h2 : a ≤ i ∧ i < a + n
      · rw [if_pos h2, if_pos (by omega)]
      · rw [if_neg h2, if_neg (by omega)]
theorem fk_ne {M : sk_M} {c a c' : Nat} (h : c' ≠ c) : ∀ n, (fk M c a n).2 c' = M.2 c'
  | 0 => rfl
  | n + 1 => by rw [fk, sl_c h, fk_ne h n]
theorem msk_full : kMask 3 &&& 16777215 = kMask 3 := by decide
theorem kMask_bit {c : Nat} (hc : c < 216) : lb (kMask (c / 64)) (c % 64) = true := by
  unfold kMask
  by_cases h : c / 64 = 3
  · rw [if_pos h, lb_24 _ (by omega), decide_eq_true (by omega)]
  · rw [if_neg h, lb_m1 _ (by omega)]
/-- one person's knowledge of one vault set to all on both sides -/
theorem Rel.forget {F : Nat → Nat → Int32} {KF KF' : Nat → Int64} {W : Nat → Int32} {K K' : Nat → Int64} {nv np nc tx dy ch lg nr op : Nat} (h : Rel F KF W K nv np nc tx dy ch lg nr op) {q u : Nat} (hq : q < np) (hu : u < nv)
    (h1 : ∀ i, i < 144 → KF' i = if 4 * (6 * q + u) ≤ i ∧ i < 4 * (6 * q + u) + 4 then kMask (i - 4 * (6 * q + u)) else KF i) (h2 : ∀ i, i < 144 → K' i = if 4 * (6 * q + u) ≤ i ∧ i < 4 * (6 * q + u) + 4 then kMask (i - 4 * (6 * q + u)) else K i) : Rel F KF' W K' nv np nc tx dy ch lg nr op := by
  obtain ⟨hN, hF, hW, hS, hV, hC, hL, hK, hT⟩ := h
  obtain ⟨n1, n2, n3, n4, n5, n6, n7, n8, n9⟩ := id hN
  refine ⟨hN, hF, hW, hS, hV, hC, hL, ⟨fun p hp v hv k hk => ?_, fun p hp v hv hpv k hk => ?_⟩, fun p hp v hv => ?_⟩
  · rw [h1 _ (by omega), h2 _ (by omega)]
    by_cases g : 4 * (6 * q + u) ≤ 4 * (6 * p + v) + k ∧ 4 * (6 * p + v) + k < 4 * (6 * q + u) + 4
    · rw [if_pos g, if_pos g]
    · rw [if_neg g, if_neg g]
      exact hK.1 p hp v hv k hk
  · rw [h1 _ (by omega)]
    by_cases g : 4 * (6 * q + u) ≤ 4 * (6 * p + v) + k ∧ 4 * (6 * p + v) + k < 4 * (6 * q + u) + 4
    · omega
    · rw [if_neg g]
      exact hK.2 p hp v hv hpv k hk
  · obtain ⟨c, hc, -, e⟩ := (hV v hv).1
    have h9 := hT p hp v hv
    rw [e, nI_clamp (by omega)] at h9 ⊢
    by_cases g : p = q ∧ v = u
    · obtain ⟨rfl, rfl⟩ := g
      constructor
      · rw [h2 _ (by omega), if_pos (by omega), Nat.add_sub_cancel_left]
        exact msk_full
      · rw [kbit_iff]
        unfold kb
        rw [h2 _ (by omega), if_pos (by omega), Nat.add_sub_cancel_left]
        exact kMask_bit hc
    · constructor
      · rw [h2 _ (by omega), if_neg (by omega)]
        exact h9.1
      · unfold kbit
        rw [h2 _ (by omega), if_neg (by omega)]
        exact h9.2
theorem MemR.get {M : sk_M} (h : MemR M) : ∃ sz ns : Nat, sz ≤ 10 ∧ ns < 10 ∧ M.1 123 1 = nI sz ∧ M.1 123 2 = nI ns ∧ M.1 140 12 = nI sz := by
  obtain ⟨sz, ns, a, b, c, d, e, -⟩ := h
  exact ⟨sz, ns, a, b, c, d, e⟩
theorem c5_knowNothing {M : sk_M} {Q : sk_M → Prop} {b p v : Nat} (hp : p < 6) (hv : v < 6) (h : Q (fk M (b + 9) (4 * (6 * p + v)) 4)) : w_X5_knowNothing b (nI p) (nI v) M Q := by
  unfold w_X5_knowNothing
  simp (disch := omega) only [vpT, nI_clamp]
  exact ⟨trivial, trivial, h⟩
/-- what is due behind an act -/
theorem dueA {M M1 N : sk_M} {sz ns : Nat} {x b : Int32} (h : Inv M) (hsz : sz ≤ 10) (hns : ns < 10) (e1 : M.1 123 1 = nI sz) (e2 : M.1 123 2 = nI ns) (a : actC M M1 sz ns) (r : actR (sk_sl M1 158 0 x.toInt64) N sz) (hR : RelX N.1 (N.2 9) (N.1 141) (N.2 146)) (h0 : N.1 140 0 = 0) (h1 : N.2 158 0 = x.toInt64) (hx : x = b) : N.1 140 0 = 0 ∧ N.2 158 0 = b.toInt64 ∧ Inv N :=
  ⟨h0, by rw [h1, hx], h.acts hsz hns e1 e2 a r hR⟩
theorem st_forget {M : sk_M} (h : Inv M) (a b : Int32) : StI Inv (fun Q X => w_X7_forget a b M Q X) (w_X8_forget a b) ["java/lang/IndexOutOfBoundsException"] := by
  unfold StI w_X7_forget
  obtain ⟨nv, np, nc, tx, dy, ch, lg, nr, op, hR⟩ := h.1.1
  obtain ⟨hN, hF, hW, hS, hV, hC, hL, hK, hT⟩ := id hR
  obtain ⟨sz, ns, hsz, hns, e1, e2, e3⟩ := h.2.2.2.1.get
  have n1 := hN.1
  have n2 := hN.2.1
  have no : ¬ vp_in a np ∨ ¬ vp_in b nv → w_X8_forget a b M (fun _ M2 => M2.1 140 0 = nI (0 + 1) ∧ Inv M2) := by
    intro q
    unfold w_X8_forget
    simp only [sLet]
    refine gN (if_pos ?_) (dueX h rfl)
    by_cases hp : vp_in a np
    · have hv : ¬ vp_in b nv := q.resolve_left (fun x => x hp)
      rw [noV_nt hW.1 n1 hv]
      exact Or.inr (by decide)
    · rw [noP_nt hW.2.1 n2 hp]
      exact Or.inl (by decide)
  by_cases hp : vp_in a np
  · refine n7_P_y hF.2.1 n2 hp ?_
    by_cases hv : vp_in b nv
    · refine n7_V_y hF.1 n1 hv ?_
      obtain ⟨p, hp', rfl⟩ := vp_in_of hp (by omega)
      obtain ⟨v, hv', rfl⟩ := vp_in_of hv (by omega)
      refine c3_keep hsz hns e1 e2 ?_
      refine c5_leftOf (by omega) (by omega) ?_
      refine c5_knowNothing (by omega) (by omega) ?_
      generalize hM1 : fk (kpM M sz ns) (0 + 9) (4 * (6 * p + v)) 4 = M1
      have m1 : M1.1 = (kpM M sz ns).1 := by rw [← hM1]; exact fk_1 _ _ _ 4
      have m2 : ∀ c, c ≠ 9 → M1.2 c = (kpM M sz ns).2 c := fun c hc => by rw [← hM1]; exact fk_ne hc 4
      have ac : actC M M1 sz ns := actC_of hns (fun c _ _ => by rw [m1]) m2 (fun i _ => by rw [m1, kpM_lo (by omega)]) (by rw [m1, kpM_lo (by omega)]) (TB_cg h.2.2.2.2.1 (by rw [m1, kpM_hi (by omega) hns]) (by rw [m1, kpM_hi (by omega) hns]))
      generalize hx : leftP ((kpM M sz ns).2 (0 + 9)) (4 * (6 * p + v)) 4 = x
      have k6 : M1.2 146 = M.2 146 := by rw [m2 146 (by omega), kpM_2 (by omega) hns]
      have w1 : M1.1 141 = M.1 141 := by rw [m1, kpM_hi (by omega) hns]
      unfold w_X8_forget
      simp only [sLet]
      refine gY (if_neg ?_) ?_
      · rw [noP_yt (M := sk_sl M1 158 0 x.toInt64) (n := np) (by show M1.1 141 1 = _; rw [w1]; exact hW.2.1) n2 hp, noV_yt (M := sk_sl M1 158 0 x.toInt64) (n := nv) (by show M1.1 141 0 = _; rw [w1]; exact hW.1) n1 hv]
        decide
      · refine s8_remembers (sz := sz) ?_ hsz (fun N f r => ?_)
        · rw [rd_si, if_neg (by omega)]
          show M1.1 140 12 = _
          rw [m1, kpM_hi (by omega) hns]
          exact e3
        · refine s8_leftOf (by omega) (by omega) (s8_forgets (by omega) (by omega) ?_)
          have f9 := fk_1 N 146 (4 * (6 * p + v)) 4
          have ar : actR (sk_sl M1 158 0 x.toInt64) (fk N 146 (4 * (6 * p + v)) 4) sz := actR_of f r (fun c _ _ => by rw [f9]) (fun c hc => fk_ne hc 4) (by rw [f9]) (fun k _ _ => by rw [f9]) (fun hz i hi => by rw [f9]; exact hz i hi)
          have nk : N.2 146 = M.2 146 := by rw [f.2.2 146 (by omega)]; show (sk_sl M1 158 0 x.toInt64).2 146 = _; rw [sl_c (by omega), k6]
          refine dueA h hsz hns e1 e2 ac ar ⟨nv, np, nc, tx, dy, ch, lg, nr, op, ?_⟩ ?_ ?_ ?_
          · have hlo : ∀ c, c < 10 → (fk N 146 (4 * (6 * p + v)) 4).1 c = M.1 c := fun c hc => by
              rw [ar.1 c (by omega)]
              show M1.1 c = _
              rw [m1, kpM_lo hc]
            have hw : (fk N 146 (4 * (6 * p + v)) 4).1 141 = M.1 141 := by
              rw [f9, f.1 141 (by omega) (by omega), si_c (by omega)]
              exact w1
            have h9 : Rel M.1 (fun i => if 4 * (6 * p + v) ≤ i ∧ i < 4 * (6 * p + v) + 4 then kMask (i - 4 * (6 * p + v)) else M.2 9 i) (M.1 141) (fun i => if 4 * (6 * p + v) ≤ i ∧ i < 4 * (6 * p + v) + 4 then kMask (i - 4 * (6 * p + v)) else M.2 146 i) nv np nc tx dy ch lg nr op := hR.forget hp' hv' (fun _ _ => rfl) (fun _ _ => rfl)
            refine h9.cg (fun k _ => by rw [hlo 0 (by omega)]) (fun k _ => by rw [hlo 1 (by omega)]) (fun k _ => by rw [hlo 2 (by omega)]) (fun k _ => by rw [hlo 3 (by omega)]) (fun k _ => by rw [hlo 4 (by omega)]) (fun k _ => by rw [hlo 5 (by omega)]) (fun k _ => by rw [hlo 6 (by omega)]) (fun k _ => by rw [hlo 8 (by omega)]) (fun i hi => ?_) (fun k _ => by rw [hw]) (fun i hi => ?_)
            · rw [ar.2.1 9 (by omega), sl_c (by omega), ← hM1, fk_at 4]
              show (if _ then _ else (kpM M sz ns).2 9 i) = _
              rw [kpM_2 (by omega) hns]
            · rw [fk_at 4, nk]
          · rw [f9, f.2.1 0 (by omega)]
            exact th_0
          · rw [fk_ne (by omega) 4, f.2.2 158 (by omega)]
            show (sk_sl M1 158 0 x.toInt64).2 158 0 = _
            rw [rd_sl, if_pos ⟨rfl, rfl⟩]
          · rw [← hx, nk]
            show leftP ((kpM M sz ns).2 9) _ 4 = _
            rw [kpM_2 (by omega) hns]
            exact hR.left hp' hv'
    · exact n7_V_n hF.1 n1 hv ⟨0, rfl, no (Or.inr hv)⟩
  · exact n7_P_n hF.2.1 n2 hp ⟨0, rfl, no (Or.inl hp)⟩
