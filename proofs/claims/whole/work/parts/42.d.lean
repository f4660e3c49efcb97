/-! days -/
theorem st_days {M : sk_M} (h : Inv M) (a : Int32) : StI Inv (fun Q X => w_X7_days a M Q X) (w_X8_days a) ["java/lang/IllegalArgumentException"] := by
  unfold StI w_X7_days
  obtain ⟨nv, np, nc, tx, dy, ch, lg, nr, op, hR⟩ := h.1.1
  obtain ⟨hN, hF, hW, hS, hV, hC, hL, hK, hT⟩ := id hR
  obtain ⟨sz, ns, hsz, hns, e1, e2, e3⟩ := h.2.2.2.1.get
  obtain ⟨n1, n2, n3, n4, n5, n6, n7, n8, n9⟩ := id hN
  have in60 : ¬ ((a < (1 : Int32)) ∨ (¬ (a ≤ (60 : Int32)))) → ∃ n, n ≤ 60 ∧ a = nI n := fun q => by
    have h1 : ¬ a < 1 := fun z => q (Or.inl z)
    have h2 : a ≤ 60 := Classical.not_not.mp (fun z => q (Or.inr z))
    rw [Int32.lt_iff_toInt_lt] at h1
    rw [Int32.le_iff_toInt_le] at h2
    have c1 : (1 : Int32).toInt = 1 := rfl
    have c2 : (60 : Int32).toInt = 60 := rfl
    rw [c1] at h1
    rw [c2] at h2
    have hv : vp_in a 61 := by
      rintro (z | z)
      · rw [Int32.lt_iff_toInt_lt, Int32.toInt_zero] at z
        omega
      · have z' : 61 ≤ a.toInt.toNat := z
        omega
    obtain ⟨n, hn, e⟩ := vp_in_of hv (by omega)
    exact ⟨n, by omega, e⟩
  have inF : f_X8_in a 1 60 = 0 ↔ ((a < (1 : Int32)) ∨ (¬ (a ≤ (60 : Int32)))) := by
    unfold f_X8_in
    constructor
    · intro z
      refine Classical.byContradiction fun q => ?_
      rw [if_pos ⟨fun y => q (Or.inl y), fun y => q (Or.inr (Int32.not_le.mpr y))⟩] at z
      exact absurd z (by decide)
    · intro z
      rw [if_neg]
      rintro ⟨q1, q2⟩
      rcases z with y | y
      · exact q1 y
      · exact q2 (Int32.not_le.mp y)
  refine i_b (fun q => ⟨0, rfl, ?_⟩) (fun q => ?_)
  · unfold w_X8_days
    exact sLet_i (sLet_i (gN (if_pos (inF.mpr q)) (dueX h rfl)))
  have q' := q
  obtain ⟨n, hn60, rfl⟩ := in60 q
  refine c3_keep hsz hns e1 e2 ?_
  unfold w_X2_work
  have k0 : (kpM M sz ns).1 0 = M.1 0 := kpM_lo (by omega)
  rw [show (kpM M sz ns).1 (0 + 1) = M.1 1 from kpM_lo (by omega), k0, hF.1, hF.2.2.2.2.2.1, nI_clamp (n := nv) (by omega), nI_clamp (n := n) (by omega)]
  refine ⟨vp_in_nI (by omega) (by decide), vp_in_nI (by omega) (by decide), fun M2 l2 => ?_⟩
  obtain ⟨b, hb, hbv⟩ := toldI.days (ch := nI ch) (nv := nv) n1 (cd := M.1 1) (k := (M.1 0 7, M.1 1, 0, 0)) (b := 0) ⟨rfl, by decide, fun v _ => ⟨fun z => absurd z (by simp), fun _ => rfl⟩⟩ n
  generalize hk : lkN (nI ch) nv (M.1 0 7, M.1 1, 0, 0) n = k at l2 hb
  obtain ⟨t1, t2, t3⟩ := hb
  obtain ⟨a1, a2, a3, a4, a5, a6⟩ := l2
  have m0 : M2.1 0 = M.1 0 := by rw [a1 0 (by omega) (by omega), k0]
  refine c7_tells (nv := nv) (np := np) (op := op) (b := b) n1 n2 (by rw [m0]; exact hF.1) (by rw [m0]; exact hF.2.1) (by rw [m0]; exact hF.2.2.2.2.2.2.2.2) (by rw [a5, t1]) t2 (fun M3 d3 => sLet_i (sLet_i (sLet_i ?_)))
  obtain ⟨d1, d2, d4, d5, d6, d7⟩ := d3
  generalize hA : sk_si M3 0 8 (M3.1 0 8 + M3.1 138 2) = A
  generalize hB : sk_si A 0 7 (A.1 138 1) = B
  generalize hM1 : sk_si B 0 5 (mnI (9999 : Int32) (B.1 0 5 + nI n)) = M1
  have yc : ∀ c, c ≠ 0 → M1.1 c = M3.1 c := fun c hc => by rw [← hM1, si_c hc, ← hB, si_c hc, ← hA, si_c hc]
  have y2 : M1.2 = M3.2 := by rw [← hM1, ← hB, ← hA]; rfl
  have y0 : ∀ j, j ≠ 5 → j ≠ 7 → j ≠ 8 → M1.1 0 j = M3.1 0 j := fun j h5 h7 h8 => by rw [← hM1, rd_si, if_neg (fun z => h5 z.2), ← hB, rd_si, if_neg (fun z => h7 z.2), ← hA, rd_si, if_neg (fun z => h8 z.2)]
  have y7 : M1.1 0 7 = k.1 := by rw [← hM1, rd_si, if_neg (by omega), ← hB, rd_si, if_pos ⟨rfl, rfl⟩, ← hA, si_c (by omega), d1 138 (by omega) (by omega)]; exact a3
  have y8 : M1.1 0 8 = M.1 0 8 + k.2.2.1 := by
    rw [← hM1, rd_si, if_neg (by omega), ← hB, rd_si, if_neg (by omega), ← hA, rd_si, if_pos ⟨rfl, rfl⟩, d4 8 (by omega), m0, d1 138 (by omega) (by omega), a4]
  have y5 : M1.1 0 5 = nI (min 9999 (dy + n)) := by
    rw [← hM1, rd_si, if_pos ⟨rfl, rfl⟩, ← hB, rd_si, if_neg (by omega), ← hA, rd_si, if_neg (by omega), d4 5 (by omega), m0, hF.2.2.2.2.1, nI_add]
    exact mnN (a := 9999) (by decide) (by omega)
  have ex : M1.1 138 2 = k.2.2.1 := by rw [yc 138 (by omega), d1 138 (by omega) (by omega)]; exact a4
  rw [ex]
  have q1 : ∀ c, c ≠ 0 → c ≠ 1 → c < 138 ∨ 139 < c → M1.1 c = (kpM M sz ns).1 c := fun c h0 h1 hc => by rw [yc c h0, d1 c h0 h1, a1 c (by omega) (by omega)]
  have q2 : ∀ c, c ≠ 9 → M1.2 c = (kpM M sz ns).2 c := fun c hc => by rw [y2, d2 c hc, a2]
  have ac : actC M M1 sz ns := actC_of hns (fun c h1 h2 => q1 c (by omega) (by omega) (by omega)) q2 (fun i _ => by rw [q1 7 (by omega) (by omega) (by omega), kpM_lo (by omega)]) (by rw [y0 4 (by omega) (by omega) (by omega), d4 4 (by omega), m0]) (TB_cg h.2.2.2.2.1 (by rw [q1 130 (by omega) (by omega) (by omega), kpM_hi (by omega) hns]) (by rw [q1 134 (by omega) (by omega) (by omega), kpM_hi (by omega) hns]))
  have p1 : ∀ c, 140 ≤ c → M1.1 c = M.1 c := fun c hc => by rw [q1 c (by omega) (by omega) (by omega), kpM_hi (by omega) hns]
  have p2 : ∀ c, 140 ≤ c → M1.2 c = M.2 c := fun c hc => by rw [q2 c (by omega), kpM_2 (by omega) hns]
  unfold w_X8_days
  refine sLet_i (sLet_i (gY (if_neg (fun z => q' (inF.mp z))) ?_))
  refine s8_remembers (sz := sz) ?_ hsz (fun N f r => sLet_i ?_)
  · rw [rd_si, if_neg (by omega)]
    show M1.1 140 12 = _
    rw [p1 140 (by omega)]
    exact e3
  obtain ⟨w1, k6, t0, o0, lo, lo2⟩ := remN p1 p2 f
  refine s8_many (M0 := N) (nv := nv) (n := n) (dy := dy) (ch := nI ch) (k := (M.1 0 7, M.1 1, 0, 0)) (b := 0) (K := fun s59 => s59.1 140 0 = 0 ∧ s59.2 158 0 = (s59.1 141 7 - N.1 141 7).toInt64 ∧ Inv s59) (fun c s hh => by unfold w_X8_days_L44; exact hh) n1 hn60 n5 (by rw [w1]; exact hW.1) (by rw [w1]; exact hW.2.2.2.2.2.1) ?_ (fun N1 b' g => ?_)
  · refine ⟨⟨fun _ _ => rfl, fun _ _ => rfl⟩, ⟨by rw [w1]; exact hS.1.symm, (Int32.add_zero _).symm, by rw [w1]; exact hW.2.2.2.2.1⟩, ⟨rfl, by decide⟩, fun v hv => ⟨?_, by rw [if_neg (by simp)]⟩, fun _ _ _ _ _ => rfl, fun i _ => by rw [if_neg (by simp)], fun _ _ => rfl⟩
    obtain ⟨c, hc, g1, g2⟩ := (hV v hv).1
    rw [w1, g2]
    exact g1.symm
  · rw [hk] at g
    obtain ⟨⟨g1, g2⟩, ⟨g3, g4, g5⟩, ⟨g6, g7⟩, g8, g9, g10, g11⟩ := g
    have eb : b' = b := (nI_eq (by omega) (by omega)).mp (g6.symm.trans t1)
    subst eb
    have cell : ∀ j, j ≠ 5 → j ≠ 7 → j ≠ 9 → (∀ v, v < nv → j ≠ 10 + 4 * v ∧ j ≠ 13 + 4 * v) → N1.1 141 j = M.1 141 j := fun j h5 h7 h9 hj => by rw [g9 j h5 h7 h9 hj, w1]
    have ar : actR (sk_sl M1 158 0 k.2.2.1.toInt64) N1 sz := actR_of f r (fun c h1 _ => g1 c h1) g2 (g9 4 (by omega) (by omega) (by omega) (fun v hv => by omega)) (fun j h1 _ => g9 j (by omega) (by omega) (by omega) (fun v hv => by omega)) (fun hz i hi => by rw [g1 155 (by omega)]; exact hz i hi)
    have lo1 : ∀ c, c < 140 → N1.1 c = M1.1 c := fun c hc => by rw [g1 c (by omega), lo c hc]
    have hRel : Rel N1.1 (N1.2 9) (N1.1 141) (N1.2 146) nv np nc tx (min 9999 (dy + n)) ch lg nr (clrs op b' nv) := by
      refine hR.days (b := b') (by omega) (fun v hv => ?_) (fun v hv hnb => ?_) (fun j hj h5 h7 h8 h9 => ?_) ?_ g5 ?_ ?_ ?_ (clrs_lt n9 nv) (fun v hv => ?_) (fun c h2 h8 => ?_) (fun j _ h5 h7 h9 hj => cell j h5 h7 h9 hj) (fun i hi => ?_) (fun i hi => ?_)
      · rw [(g8 v hv).1, lo1 1 (by omega), yc 1 (by omega), d6 v]
        by_cases z : b'.testBit v = true
        · obtain ⟨c, hc, ec⟩ := (t3 v (by omega)).1 z
          rw [if_pos ⟨hv, z⟩, a6 v (by omega)]
          exact ⟨c, hc, ec, ec⟩
        · rw [if_neg (fun y => z y.2), a1 1 (by omega) (by omega), kpM_lo (by omega), (t3 v (by omega)).2 z]
          obtain ⟨c, hc, x1, x2⟩ := (hV v hv).1
          exact ⟨c, hc, x1, x1⟩
      · obtain ⟨c, hc, x1, x2⟩ := (hV v hv).1
        rw [(g8 v hv).1, (t3 v (by omega)).2 hnb, x2]
        exact x1
      · rw [lo1 0 (by omega), y0 j h5 h7 h8, d4 j h9, m0]
      · rw [lo1 0 (by omega)]; exact y5
      · rw [lo1 0 (by omega), g3]; exact y7
      · rw [lo1 0 (by omega), y8, g4, w1, hS.2]
      · rw [lo1 0 (by omega), y0 9 (by omega) (by omega) (by omega)]; exact d5
      · rw [(g8 v hv).2, w1, (hV v hv).2.2.2, clrs_tb n9 (by omega), decide_eq_true hv, Bool.true_and]
        by_cases z : b'.testBit v = true
        · rw [if_pos z, z, bI_f (by simp)]
        · rw [if_neg z, show b'.testBit v = false by cases w : b'.testBit v <;> simp_all, Bool.not_false, Bool.and_true]
      · rw [lo1 c (by omega), q1 c (by omega) (by omega) (by omega), kpM_lo (by omega)]
      · rw [g2 9 (by omega), lo2 9 (by omega), y2, d7 i, a2, kpM_2 (by omega) hns]
      · rw [g10 i hi, k6]
    refine dueA h hsz hns e1 e2 ac ar ⟨nv, np, nc, tx, _, ch, lg, nr, _, hRel⟩ ?_ ?_ ?_
    · rw [g1 140 (by omega)]; exact t0
    · rw [g2 158 (by omega)]; exact o0
    · rw [g4, Int32.add_comm, Int32.add_sub_cancel]
