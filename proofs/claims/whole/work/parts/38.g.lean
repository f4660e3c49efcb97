/-! the tie, piece by piece; seed, end, image, back, undo -/
theorem NowR.cg {M N : sk_M} (h : NowR M) (e : ∀ c, c < 9 → N.1 c = M.1 c) (f : N.2 9 = M.2 9) (g : N.1 141 = M.1 141) (l : N.2 146 = M.2 146) : NowR N := by
  obtain ⟨⟨nv, np, nc, tx, dy, ch, lg, nr, op, hR⟩, hL⟩ := h
  refine ⟨⟨nv, np, nc, tx, dy, ch, lg, nr, op, ?_⟩, ?_⟩
  · rw [f, g, l]
    exact hR.cg (fun k _ => by rw [e 0 (by omega)]) (fun k _ => by rw [e 1 (by omega)]) (fun k _ => by rw [e 2 (by omega)]) (fun k _ => by rw [e 3 (by omega)]) (fun k _ => by rw [e 4 (by omega)]) (fun k _ => by rw [e 5 (by omega)]) (fun k _ => by rw [e 6 (by omega)]) (fun k _ => by rw [e 8 (by omega)]) (fun _ _ => rfl) (fun _ _ => rfl) (fun _ _ => rfl)
  · rw [e 7 (by omega), e 0 (by omega), g]
    exact hL
theorem ImgR.cg {M N : sk_M} (h : ImgR M) (e : ∀ c, 10 ≤ c → c < 19 → N.1 c = M.1 c) (f : N.2 19 = M.2 19) (a : N.1 120 8 = M.1 120 8) (b : N.1 140 11 = M.1 140 11) (g : N.1 142 = M.1 142) (l : N.2 147 = M.2 147) : ImgR N := by
  unfold ImgR
  rw [a, b, f, g, l, e 17 (by omega) (by omega), e 10 (by omega) (by omega)]
  refine ⟨h.1, h.2.imp id (fun q => ⟨q.1, ?_, q.2.2⟩)⟩
  obtain ⟨nv, np, nc, tx, dy, ch, lg, nr, op, hR⟩ := q.2.1
  have o : ∀ j, j < 9 → N.1 (10 + j) = M.1 (10 + j) := fun j hj => e _ (by omega) (by omega)
  exact ⟨nv, np, nc, tx, dy, ch, lg, nr, op, hR.cg (fun k _ => congrFun (o 0 (by omega)) k) (fun k _ => congrFun (o 1 (by omega)) k) (fun k _ => congrFun (o 2 (by omega)) k) (fun k _ => congrFun (o 3 (by omega)) k) (fun k _ => congrFun (o 4 (by omega)) k) (fun k _ => congrFun (o 5 (by omega)) k) (fun k _ => congrFun (o 6 (by omega)) k) (fun k _ => congrFun (o 8 (by omega)) k) (fun _ _ => rfl) (fun _ _ => rfl) (fun _ _ => rfl)⟩
theorem MemS.cg {M N : sk_M} {x r : Nat} (h : MemS M (20 + 10 * x) r) (hx : x < 10) (e : ∀ c, 20 ≤ c → c < 120 → N.1 c = M.1 c) (f : ∀ c, 20 ≤ c → c < 120 → N.2 c = M.2 c) (g : N.1 145 = M.1 145) (l : N.2 150 = M.2 150) (l1 : ∀ i, i < 108 → N.1 7 i = M.1 7 i) (l2 : N.1 0 4 = M.1 0 4) (l3 : N.1 141 4 = M.1 141 4) : MemS N (20 + 10 * x) r := by
  obtain ⟨⟨nv, np, nc, tx, dy, ch, lg, nr, op, hR⟩, b2, b3, b4⟩ := h
  have o : ∀ j, j < 10 → N.1 (20 + 10 * x + j) = M.1 (20 + 10 * x + j) := fun j hj => e _ (by omega) (by omega)
  refine ⟨⟨nv, np, nc, tx, dy, ch, lg, nr, op, ?_⟩, fun i hi => ?_, ?_, ?_⟩
  · rw [f _ (by omega) (by omega), g, l]
    exact hR.cg (fun k _ => congrFun (o 0 (by omega)) k) (fun k _ => congrFun (o 1 (by omega)) k) (fun k _ => congrFun (o 2 (by omega)) k) (fun k _ => congrFun (o 3 (by omega)) k) (fun k _ => congrFun (o 4 (by omega)) k) (fun k _ => congrFun (o 5 (by omega)) k) (fun k _ => congrFun (o 6 (by omega)) k) (fun k _ => congrFun (o 8 (by omega)) k) (fun _ _ => rfl) (fun _ _ => rfl) (fun _ _ => rfl)
  · rw [o 7 (by omega), b2 i hi, l1 i hi]
  · have := o 0 (by omega)
    rw [Nat.add_zero] at this
    rw [this, b3, l2]
  · rw [g, b4, l3]
theorem MemR.cg {M N : sk_M} (h : MemR M) (e : ∀ c, 20 ≤ c → c < 120 → N.1 c = M.1 c) (f : ∀ c, 20 ≤ c → c < 120 → N.2 c = M.2 c) (a : N.1 123 = M.1 123) (b : N.1 140 12 = M.1 140 12) (g : N.1 145 = M.1 145) (l : N.2 150 = M.2 150) (l1 : ∀ i, i < 108 → N.1 7 i = M.1 7 i) (l2 : N.1 0 4 = M.1 0 4) (l3 : N.1 141 4 = M.1 141 4) : MemR N := by
  obtain ⟨sz, ns, q1, q2, q3, q4, q5, q6⟩ := h
  refine ⟨sz, ns, q1, q2, by rw [a]; exact q3, by rw [a]; exact q4, by rw [b]; exact q5, fun j hj => ?_⟩
  exact (q6 j hj).cg (Nat.mod_lt _ (by decide)) e f g l l1 l2 l3
theorem Rel.seed {F F' : Nat → Nat → Int32} {KF : Nat → Int64} {W W' : Nat → Int32} {K : Nat → Int64} {nv np nc tx dy ch lg nr op : Nat} (h : Rel F KF W K nv np nc tx dy ch lg nr op) (e : ∀ c, c ≠ 0 → F' c = F c) (e0 : ∀ k, k ≠ 7 → F' 0 k = F 0 k) (w : ∀ k, k ≠ 9 → W' k = W k) (s : F' 0 7 = W' 9) : Rel F' KF W' K nv np nc tx dy ch lg nr op := by
  obtain ⟨hN, hF, hW, hS, hV, hC, hL, hK, hT⟩ := h
  refine ⟨hN, ?_, ?_, ⟨s, by rw [e0 8 (by omega), w 7 (by omega)]; exact hS.2⟩, ?_, ?_, ?_, hK, ?_⟩
  · unfold RlF
    rw [e0 0 (by omega), e0 1 (by omega), e0 2 (by omega), e0 3 (by omega), e0 5 (by omega), e0 6 (by omega), e0 10 (by omega), e0 11 (by omega), e0 9 (by omega)]
    exact hF
  · unfold RlW
    rw [w 0 (by omega), w 1 (by omega), w 2 (by omega), w 3 (by omega), w 5 (by omega), w 6 (by omega), w 8 (by omega)]
    exact hW
  · intro v hv
    rw [e 1 (by omega), e 2 (by omega), e 3 (by omega), w _ (by omega), w _ (by omega), w _ (by omega), w _ (by omega)]
    exact hV v hv
  · intro c hc
    rw [e 4 (by omega), e 5 (by omega), e 6 (by omega), w _ (by omega), w _ (by omega), w _ (by omega), w _ (by omega)]
    exact hC c hc
  · intro a ha k hk
    rw [e 8 (by omega), w _ (by omega)]
    exact hL a ha k hk
  · intro p hp v hv
    rw [w _ (by omega)]
    exact hT p hp v hv
theorem st_seed {M : sk_M} (h : Inv M) (a : Int32) : StN Inv (w_X7_seed a M) (w_X8_seed a) := by
  unfold StN w_X7_seed
  refine sLet_i (sLet_i ?_)
  unfold w_X8_seed
  refine sLet_i (sLet_i (sLet_i ?_))
  obtain ⟨⟨⟨nv, np, nc, tx, dy, ch, lg, nr, op, hR⟩, hLw⟩, hTp, hIm, hMm, hTB, hc0⟩ := h
  generalize hN : sk_si (sk_si (sk_si M 0 7 a) 140 0 0) 141 9 a = N
  have e : ∀ c, c ≠ 0 → c ≠ 140 → c ≠ 141 → N.1 c = M.1 c := fun c h1 h2 h3 => by rw [← hN, si_c h3, si_c h2, si_c h1]
  have e0 : ∀ k, k ≠ 7 → N.1 0 k = M.1 0 k := fun k hk => by rw [← hN, si_c (by omega), si_c (by omega), rd_si, if_neg (by omega)]
  have e1 : ∀ k, k ≠ 9 → N.1 141 k = M.1 141 k := fun k hk => by rw [← hN, rd_si, if_neg (by omega), si_c (by omega), si_c (by omega)]
  have e2 : ∀ k, k ≠ 0 → N.1 140 k = M.1 140 k := fun k hk => by rw [← hN, si_c (by omega), rd_si, if_neg (by omega), si_c (by omega)]
  have e3 : N.2 = M.2 := by rw [← hN]; rfl
  refine ⟨?_, ⟨⟨nv, np, nc, tx, dy, ch, lg, nr, op, ?_⟩, ?_⟩, ?_, ?_, ?_, ?_, ?_⟩
  · exact hR.2.2.2.1.1
  · rw [e3]
    have r1 := hR.seed (F' := fun c => if c = 0 then N.1 0 else M.1 c) (W' := N.1 141) (fun c hc => if_neg hc) (fun k hk => by rw [if_pos rfl]; exact e0 k hk) e1 (by rw [if_pos rfl, ← hN, si_c (by omega), si_c (by omega), rd_si, if_pos ⟨rfl, rfl⟩, rd_si, if_pos ⟨rfl, rfl⟩])
    exact r1.cg (fun _ _ => rfl) (fun k _ => by rw [e 1 (by omega) (by omega) (by omega)]; rfl) (fun k _ => by rw [e 2 (by omega) (by omega) (by omega)]; rfl) (fun k _ => by rw [e 3 (by omega) (by omega) (by omega)]; rfl) (fun k _ => by rw [e 4 (by omega) (by omega) (by omega)]; rfl) (fun k _ => by rw [e 5 (by omega) (by omega) (by omega)]; rfl) (fun k _ => by rw [e 6 (by omega) (by omega) (by omega)]; rfl) (fun k _ => by rw [e 8 (by omega) (by omega) (by omega)]; rfl) (fun _ _ => rfl) (fun _ _ => rfl) (fun _ _ => rfl)
  · rw [e0 4 (by omega)]
    exact hLw.cg (fun i _ => by rw [e 7 (by omega) (by omega) (by omega)]) (e1 4 (by omega)) (fun k _ _ => e1 k (by omega))
  · unfold TapR
    rw [e 121 (by omega) (by omega) (by omega), e 122 (by omega) (by omega) (by omega), e 151 (by omega) (by omega) (by omega), e2 14 (by omega), e2 19 (by omega)]
    exact hTp
  · exact hIm.cg (fun c _ _ => e c (by omega) (by omega) (by omega)) (by rw [e3]) (by rw [e 120 (by omega) (by omega) (by omega)]) (e2 11 (by omega)) (e 142 (by omega) (by omega) (by omega)) (by rw [e3])
  · exact hMm.cg (fun c _ _ => e c (by omega) (by omega) (by omega)) (fun c _ _ => by rw [e3]) (e 123 (by omega) (by omega) (by omega)) (e2 12 (by omega)) (e 145 (by omega) (by omega) (by omega)) (by rw [e3]) (fun i _ => by rw [e 7 (by omega) (by omega) (by omega)]) (e0 4 (by omega)) (e1 4 (by omega))
  · exact TB_cg hTB (e 130 (by omega) (by omega) (by omega)) (e 134 (by omega) (by omega) (by omega))
  · intro i hi
    rw [e 155 (by omega) (by omega) (by omega)]
    exact hc0 i hi
/-- the tape alone has changed -/
theorem Inv.tap {M N : sk_M} (h : Inv M) (e : ∀ c, c ≠ 121 → c ≠ 122 → c ≠ 140 → c ≠ 151 → c ≠ 152 → N.1 c = M.1 c) (e2 : N.1 140 11 = M.1 140 11) (e3 : N.1 140 12 = M.1 140 12) (f : N.2 = M.2) (ht : TapR N) : Inv N := by
  obtain ⟨hNw, -, hIm, hMm, hTB, hc0⟩ := h
  refine ⟨hNw.cg (fun c _ => e c (by omega) (by omega) (by omega) (by omega) (by omega)) (by rw [f]) (e 141 (by omega) (by omega) (by omega) (by omega) (by omega)) (by rw [f]), ht, ?_, ?_, ?_, ?_⟩
  · exact hIm.cg (fun c _ _ => e c (by omega) (by omega) (by omega) (by omega) (by omega)) (by rw [f]) (by rw [e 120 (by omega) (by omega) (by omega) (by omega) (by omega)]) e2 (e 142 (by omega) (by omega) (by omega) (by omega) (by omega)) (by rw [f])
  · exact hMm.cg (fun c _ _ => e c (by omega) (by omega) (by omega) (by omega) (by omega)) (fun c _ _ => by rw [f]) (e 123 (by omega) (by omega) (by omega) (by omega) (by omega)) e3 (e 145 (by omega) (by omega) (by omega) (by omega) (by omega)) (by rw [f]) (fun i _ => by rw [e 7 (by omega) (by omega) (by omega) (by omega) (by omega)]) (by rw [e 0 (by omega) (by omega) (by omega) (by omega) (by omega)]) (by rw [e 141 (by omega) (by omega) (by omega) (by omega) (by omega)])
  · exact TB_cg hTB (e 130 (by omega) (by omega) (by omega) (by omega) (by omega)) (e 134 (by omega) (by omega) (by omega) (by omega) (by omega))
  · intro i hi
    rw [e 155 (by omega) (by omega) (by omega) (by omega) (by omega)]
    exact hc0 i hi
theorem st_end {M : sk_M} (h : Inv M) (a : Int32) : StN Inv (w_X7_end a M) (w_X8_end a) := by
  unfold StN w_X7_end
  obtain ⟨n, hn, e1, e2, hb⟩ := h.2.1.1
  rw [e1]
  have le_iff : ∀ x : Int32, (x ≤ nI n) ↔ x < nI (n + 1) := fun x => by
    rw [Int32.le_iff_toInt_le, nI_toInt (by omega), Int32.lt_iff_toInt_lt, nI_toInt (by omega)]
    omega
  by_cases hv : vp_in a (n + 1)
  · have q := vp_yes (n := n + 1) (by omega) hv
    rw [← le_iff] at q
    obtain ⟨j, hj, rfl⟩ := vp_in_of hv (by omega)
    refine i_f q (sLet_i ?_)
    unfold w_X8_end
    refine sLet_i (i_f ?_ (sLet_i ⟨rfl, ?_⟩))
    · show ¬ (nI j < 0 ∨ ¬ (nI j ≤ M.1 140 14))
      rw [e2]
      exact q
    · refine h.tap (fun c h1 h2 h3 h4 h5 => ?_) ?_ ?_ rfl ⟨⟨j, by omega, ?_, ?_, fun i hi => ?_⟩, ?_⟩
      · rw [si_c h3, si_c h3, si_c h1]
      · rw [rd_si, if_neg (by omega), rd_si, if_neg (by omega), si_c (by omega)]
      · rw [rd_si, if_neg (by omega), rd_si, if_neg (by omega), si_c (by omega)]
      · rw [si_c (by omega), si_c (by omega), rd_si, if_pos ⟨rfl, rfl⟩]
      · rw [rd_si, if_pos ⟨rfl, rfl⟩]
      · rw [si_c (by omega), si_c (by omega), si_c (by omega), si_c (by omega), si_c (by omega), si_c (by omega)]
        exact hb i (by omega)
      · rw [si_c (by omega), si_c (by omega), rd_si, if_neg (by omega), rd_si, if_neg (by omega), rd_si, if_neg (by omega), si_c (by omega)]
        exact h.2.1.2
  · have q := vp_no (n := n + 1) (by omega) hv
    rw [← le_iff] at q
    refine i_t q ?_
    unfold w_X8_end
    refine sLet_i (i_t ?_ ⟨rfl, h.scR scR_th⟩)
    show a < 0 ∨ ¬ (a ≤ M.1 140 14)
    rw [e2]
    exact q
