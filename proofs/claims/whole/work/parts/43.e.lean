/-! next -/
theorem s8_nextOf {M : sk_M} {Q : Int32 → sk_M → Prop} {cl : Nat → Int32} {p v : Nat} (hp : p < 6) (hv : v < 6) (hcl : ∀ i, i < 108 → M.1 154 i = cl i) (hB : clB cl) (h0 : cnt0 M)
    (h : ∀ M' b, ptF M M' → isB cl (kbit (M.2 146) (4 * (6 * p + v))) b → Q (nI b) M') : w_X8_nextOf (nI p) (nI v) M Q := by
  unfold w_X8_nextOf
  generalize hS : kbit (M.2 146) (4 * (6 * p + v)) = S at h
  refine lp_inv (fun i s => s.2.2.1 = nI i ∧ ptF M s.2.2.2 ∧ ((i = 0 ∧ s.1 = -1 ∧ s.2.1 = 1000000) ∨ ∃ b, b < i ∧ s.1 = nI b ∧ s.2.1 = nI (2 * gP cl S b + ind (¬ S b)) ∧ ∀ t, t < i → kyT cl S b ≤ kyT cl S t)) 216 (by decide) ⟨rfl, ptF.self h0, Or.inl ⟨rfl, rfl, rfl⟩⟩ (fun i hi s c hI hc => ?_) (fun s c hI => ?_)
  · obtain ⟨s1, s2, s3, sM⟩ := s
    obtain ⟨rfl, i1, i2⟩ := hI
    dsimp only at i1 i2
    unfold w_X8_nextOf_L10
    refine i_t (nI_ge hi (by decide)) ?_
    refine s8_partsOf (cl := cl) hp hv hi (fun k hk => by show sM.1 154 k = _; rw [i1.1 154 (by omega)]; exact hcl k hk) hB i1.2.2 (fun M4 p4 => s8_canBe hp hv hi (sLet_i (sLet_i ?_)))
    have e4 : lft (sM.2 146) p v = enl S 216 := by rw [i1.2.1, ← hS]; rfl
    have e5 : kbit (M4.2 146) (4 * (6 * p + v)) = S := by rw [p4.2.1, i1.2.1, hS]
    rw [e4, e5, if_pos (show ¬ ((1 : Int32) = 0) by decide)]
    have eg : nI (trF cl i (enl S 216)).2.2 = nI (gP cl S i) := rfl
    have ei : (if (¬ (bI (S i) = 0)) then (0 : Int32) else (1 : Int32)) = nI (ind (¬ S i)) := by
      by_cases z : S i
      · rw [if_pos (bI_n.mpr z), ind_n z]; rfl
      · rw [if_neg (fun y => z (bI_n.mp y)), ind_t z]; rfl
    have gb := gP_le (f := cl) (S := S) (t := i)
    have ib := ind_le (P := ¬ S i)
    rw [eg, ei, show (2 : Int32) * nI (gP cl S i) = nI (2 * gP cl S i) from pk_mul 2 _, nI_add]
    dsimp only
    rw [nI_1]
    have p5 := i1.trans p4
    rcases i2 with ⟨rfl, y1, y2⟩ | ⟨b, y0, y1, y2, y3⟩
    · rw [y1, y2]
      refine i_f (fun z => z (nI_lt (b := 1000000) (by omega) (by decide))) (hc _ ⟨rfl, p5, Or.inr ⟨0, by omega, rfl, rfl, fun t ht => ?_⟩⟩)
      have : t = 0 := by omega
      rw [this]
      exact Nat.le_refl _
    · have gb2 := gP_le (f := cl) (S := S) (t := b)
      have ib2 := ind_le (P := ¬ S b)
      rw [y1, y2]
      refine i_b (fun z => ?_) (fun z => ?_)
      · refine hc _ ⟨rfl, p5, Or.inr ⟨b, by omega, rfl, rfl, fun t ht => ?_⟩⟩
        by_cases w : t = i
        · subst w
          have : ¬ (2 * gP cl S t + ind (¬ S t) < 2 * gP cl S b + ind (¬ S b)) := fun u => z (nI_lt u (by omega))
          unfold kyT k3
          omega
        · exact y3 t (by omega)
      · have z1 : 2 * gP cl S i + ind (¬ S i) < 2 * gP cl S b + ind (¬ S b) := (nI_ltI (by omega) (by omega)).mp (Classical.not_not.mp z)
        refine hc _ ⟨rfl, p5, Or.inr ⟨i, by omega, rfl, rfl, fun t ht => ?_⟩⟩
        by_cases w : t = i
        · subst w; exact Nat.le_refl _
        · have := y3 t (by omega)
          unfold kyT k3 at this ⊢
          omega
  · obtain ⟨s1, s2, s3, sM⟩ := s
    obtain ⟨rfl, i1, i2⟩ := hI
    unfold w_X8_nextOf_L10
    refine i_f (nn (n := 216) (by decide)) ?_
    rcases i2 with ⟨z, _⟩ | ⟨b, y0, y1, y2, y3⟩
    · exact absurd z (by decide)
    · dsimp only at y1 ⊢
      rw [y1]
      exact h sM b i1 ⟨y0, y3⟩
theorem btF.toC {M M' : sk_M} (h : btF M M') (ht : TB M') : scC M M' := ⟨fun c hc => h.1 c (by omega) (by omega) (by omega) (by omega), h.2.1, fun _ => ht⟩
theorem st_next {M : sk_M} (h : Inv M) (a b : Int32) : StI Inv (fun Q X => w_X7_next a b M Q X) (w_X8_next a b) ["java/lang/IndexOutOfBoundsException"] := by
  unfold StI w_X7_next
  obtain ⟨nv, np, nc, tx, dy, ch, lg, nr, op, hR⟩ := h.1.1
  obtain ⟨hN, hF, hW, hS, hV, hC, hL, hK, hT⟩ := id hR
  have hLw := h.1.2
  have n1 := hN.1
  have n2 := hN.2.1
  have no : ¬ vp_in a np ∨ ¬ vp_in b nv → w_X8_next a b M (fun _ M2 => M2.1 140 0 = nI (0 + 1) ∧ Inv M2) := by
    intro q
    unfold w_X8_next
    refine sLet_i (sLet_i (gN (if_pos ?_) (dueX h rfl)))
    by_cases hp : vp_in a np
    · rw [noV_nt hW.1 n1 (q.resolve_left (fun x => x hp))]
      exact Or.inr (by decide)
    · rw [noP_nt hW.2.1 n2 hp]
      exact Or.inl (by decide)
  refine n7_PV hF.2.1 hF.1 n2 n1 (fun p v hp hv e e' => ?_) (fun q => ⟨0, rfl, no q⟩)
  subst e e'
  refine c4_load (by omega) (by omega) (fun M1 s1 l1 => ?_)
  rw [hR.lfts hp hv] at l1
  have sc := s1.toC
  have hI := h.scC sc
  refine c4_bestTurning (f := M.1 7) (S := kbit (M.2 146) (4 * (6 * p + v))) (sc.1 7 (by omega)) hLw.1 hI.2.2.2.2.1 l1 (fun M2 x f2 t2 b2 => ?_)
  have sc2 := sc.trans (f2.toC t2)
  have hI2 := h.scC sc2
  have w1 : M2.1 141 = M.1 141 := sc2.1 141 (by omega)
  have k1 : M2.2 = M.2 := sc2.2.1
  unfold w_X8_next
  refine sLet_i (sLet_i (gY (if_neg ?_) ?_))
  · rw [noP_yt (M := sk_sl M2 158 0 (nI x).toInt64) (n := np) (by show M2.1 141 1 = _; rw [w1]; exact hW.2.1) n2 (vp_in_nI hp (by omega)), noV_yt (M := sk_sl M2 158 0 (nI x).toInt64) (n := nv) (by show M2.1 141 0 = _; rw [w1]; exact hW.1) n1 (vp_in_nI hv (by omega))]
    decide
  · refine s8_laysClicks (cl := M.1 7) (by show clkS (M2.1 141) _; rw [w1]; exact hLw.2.1) (fun M3 l3 => ?_)
    obtain ⟨r1, r2⟩ := l3.sc0
    have e3 : M3.2 146 = M.2 146 := by rw [l3.2.1]; show (sk_sl M2 158 0 (nI x).toInt64).2 146 = _; rw [sl_c (by omega), k1]
    refine s8_nextOf (cl := M.1 7) (by omega) (by omega) l3.2.2 hLw.1 (r1.2.2.2 (fun i hi => hI2.2.2.2.2.2 i hi)) (fun M4 y p4 b4 => ?_)
    rw [e3] at b4
    refine due hI2 (r1.trans p4.toR) ?_ (by rw [isB_uq b2 b4])
    rw [p4.1 140 (by omega)]
    exact r2
