/-! rota -/
def cmpG (g : Nat) : Nat := 127 &&& (g ^^^ 4294967295)
theorem cmp_ok : ∀ g, g < 128 → cmpG g < 128 ∧ cmpG g &&& g = 0 ∧ gapN (g ||| cmpG g) = 0 := by decide +kernel
theorem cmp_le : ∀ g, g < 128 → ∀ i, i < 128 → i &&& g = 0 → i ≤ cmpG g := by decide +kernel
theorem st_rota {M : sk_M} (h : Inv M) (a b : Int32) : StI Inv (fun Q X => w_X7_rota a b M (fun r => Q r M) (fun e => X e M)) (w_X8_rota a b) ["java/lang/IndexOutOfBoundsException", "java/lang/IllegalArgumentException"] := by
  unfold StI w_X7_rota
  obtain ⟨nv, np, nc, tx, dy, ch, lg, nr, op, hR⟩ := h.1.1
  obtain ⟨hN, hF, hW, hS, hV, hC, hL, hK, hT⟩ := id hR
  have n1 := hN.1
  refine n7_V hF.1 n1 (fun v hv e => ?_) (fun hv => ⟨0, rfl, ?_⟩)
  · subst e
    by_cases hb : vp_in b 7
    · refine i_f (vp_yes (n := 7) (by decide) hb) ?_
      obtain ⟨k, hk, rfl⟩ := vp_in_of hb (by decide)
      obtain ⟨g, hg, v2, w2⟩ := (hV v hv).2.1
      refine ⟨vp_in_nI (by omega) (by decide), sLet_i ?_⟩
      rw [nI_clamp (by omega), Nat.zero_add, v2]
      let P : Nat → Prop := fun i => i &&& g = 0 ∧ gapN (g ||| i) ≤ k
      obtain ⟨B1, B2, B3⟩ := cmp_ok g hg
      have hPB : P (cmpG g) := ⟨B2, by rw [B3]; exact Nat.zero_le _⟩
      have pb : ∀ i, i < 128 → pcn i < 100 := fun i hi => by have := (pcn_ok i hi).2.1; omega
      have orl : ∀ i, i < 128 → g ||| i < 128 := fun i hi => Nat.or_lt_two_pow (n := 7) hg hi
      have fin : ∀ x : Int32, (∃ c, lexU pcn P 0 8 128 x c) → w_X8_rota (nI v) (nI k) (sk_sl M 158 0 x.toInt64) (fun b M2 => M2.1 140 0 = 0 ∧ M2.2 158 0 = b.toInt64 ∧ Inv M2) := by
        rintro x ⟨cx, hx⟩
        have hx' : ∃ j, x = nI j ∧ lexB pcn P 0 128 j := by
          rcases hx with ⟨-, -, q⟩ | ⟨j, e1, -, q⟩
          · exact absurd hPB (q _ B1)
          · exact ⟨j, e1, q⟩
        obtain ⟨j, rfl, hj⟩ := hx'
        unfold w_X8_rota
        refine g8_V_y' (nv := nv) hW.1 n1 hv (sLet_i (gY ?_ (s8_of (k := 1) (by omega) (by decide) (sLet_i ?_))))
        · rw [inN_y 7 (by decide) (by decide) hb, if_neg (by decide)]
        rw [show 10 + 4 * v + 1 = 11 + 4 * v by omega, show (sk_si (sk_sl M 158 0 (nI j).toInt64) 140 0 0).1 141 (11 + 4 * v) = nI g from w2]
        have eB : (127 : Int32) &&& (nI g ^^^ (-1 : Int32)) = nI (cmpG g) := by
          rw [m1_N, nI_xor, show (127 : Int32) = nI 127 from rfl, nI_and]
          rfl
        rw [eB]
        refine lp_inv (fun q s => s.2 = nI (cmpG g + 1 - q) - 1 ∧ (q = 0 → s.1 = nI (cmpG g)) ∧ (q ≠ 0 → lexD pcn P (-1) (cmpG g + 1) (cmpG g + 1 - q) s.1)) (cmpG g + 1) (by unfold sk_F; omega) ⟨?_, fun _ => rfl, fun z => absurd rfl z⟩ (fun q hq s c hI hc => ?_) (fun s c hI => ?_)
        · show nI (cmpG g) = nI (cmpG g + 1) - 1
          exact (pk_sub (a := cmpG g + 1) (b := 1) (by omega)).symm
        · obtain ⟨sb, ss⟩ := s
          obtain ⟨rfl, hI0, hI1⟩ := hI
          obtain ⟨m, hm⟩ : ∃ m, cmpG g + 1 - q = m + 1 := ⟨cmpG g - q, by omega⟩
          have em : nI (m + 1) - 1 = nI m := pk_sub (a := m + 1) (b := 1) (by omega)
          rw [hm] at hI1
          unfold w_X8_rota_L62
          rw [hm, em]
          refine i_t (nI_pos (by omega)) (sLet_i (sLet_i ?_))
          have e2 : nI m + (-1 : Int32) = nI (cmpG g + 1 - (q + 1)) - 1 := by
            rw [show cmpG g + 1 - (q + 1) = m by omega]
            exact (Int32.sub_eq_add_neg _ _).symm
          have e3 : cmpG g + 1 - (q + 1) = m := by omega
          have pm := pcn_ok m (by omega)
          -- what stands is the start, or the best so far
          have hsb : ∃ j', sb = nI j' ∧ j' < 128 ∧ (q = 0 → j' = m) ∧ (q ≠ 0 → lexB pcn P (m + 1) (cmpG g + 1) j') := by
            by_cases q0 : q = 0
            · exact ⟨cmpG g, hI0 q0, B1, fun _ => by omega, fun z => absurd q0 z⟩
            · rcases hI1 q0 with ⟨-, d2⟩ | ⟨j', d1, d2⟩
              · exact absurd hPB (d2 _ (by omega) (by omega))
              · exact ⟨j', d1, by have := d2.2.1; omega, fun z => absurd z q0, fun _ => d2⟩
          obtain ⟨j', rfl, hj'8, hj0, hj1⟩ := hsb
          have pj := pcn_ok j' hj'8
          have cst : ¬ (bc32 (nI j') < bc32 (nI m)) ↔ pcn m ≤ pcn j' := by
            rw [pj.1, pm.1, nI_ltI (by omega) (by omega)]
            omega
          have tk : P m → pcn m ≤ pcn j' → c (nI m, nI m + (-1 : Int32)) := fun hp hle => by
            rw [e2]
            refine hc _ ⟨rfl, fun z => absurd z (by omega), fun _ => ?_⟩
            rw [e3]
            by_cases q0 : q = 0
            · refine Or.inr ⟨m, rfl, Nat.le_refl _, by omega, hp, fun i h3 h4 _ => ?_⟩
              have : i = m := by omega
              subst this
              exact Or.inr ⟨rfl, Nat.le_refl _⟩
            · refine lexD_t (hI1 q0) (by omega) hp (fun j2 hj2 ej2 => ?_)
              rw [← lexB_one (hj1 q0) hj2]
              exact hle
          have st : ¬ (P m ∧ pcn m ≤ pcn j') → c (nI j', nI m + (-1 : Int32)) := fun hn => by
            rw [e2]
            refine hc _ ⟨rfl, fun z => absurd z (by omega), fun _ => ?_⟩
            rw [e3]
            by_cases q0 : q = 0
            · exfalso
              have hjm := hj0 q0
              apply hn
              rw [hjm, show m = cmpG g by omega]
              exact ⟨hPB, Nat.le_refl _⟩
            · refine lexD_f (hI1 q0) (fun hp => ⟨j', rfl, hj1 q0, ?_⟩)
              exact Classical.byContradiction fun z => hn ⟨hp, by omega⟩
          have andz : (nI m &&& nI g = 0) ↔ m &&& g = 0 := by
            rw [nI_and, show (0 : Int32) = nI 0 from rfl, nI_eq (by have := Nat.and_le_left (n := m) (m := g); omega) (by decide)]
          refine i_b (fun z => ?_) (fun z => i_f (by decide) (st (fun w => z ⟨andz.mpr w.1.1, cst.mpr w.2⟩)))
          rw [nI_or]
          refine s8_longOf (orl m (by omega)) ?_
          have gl := gap_le (g ||| m) (orl m (by omega))
          refine i_b (fun w => i_t (by decide) (tk ⟨andz.mp z.1, ?_⟩ (cst.mp z.2))) (fun w => i_f (by decide) (st (fun y => w ?_)))
          · exact Nat.le_of_not_lt fun y => w (nI_lt y (by omega))
          · exact nI_nlt y.1.2 (by omega)
        · obtain ⟨sb, ss⟩ := s
          obtain ⟨rfl, hI0, hI1⟩ := hI
          unfold w_X8_rota_L62
          rw [Nat.sub_self]
          refine i_f (fun q => q (show (nI 0 - 1 : Int32) < 0 by decide)) ?_
          have hd := hI1 (by omega)
          rw [Nat.sub_self] at hd
          refine due0 h ?_
          show nI j = sb
          rcases hd with ⟨-, d2⟩ | ⟨j', d1, d2⟩
          · exact absurd hPB (d2 _ (Nat.zero_le _) (by omega))
          · have : lexB pcn P 0 128 j' := ⟨Nat.zero_le _, by have := d2.2.1; omega, d2.2.2.1, fun i _ hi hp => d2.2.2.2 i (Nat.zero_le _) (by have := cmp_le g hg i hi hp.1; omega) hp⟩
            rw [show sb = nI j' from d1, lexB_one hj this]
      refine lp_inv (fun q s => s.2.2 = nI q ∧ lexU pcn P 0 8 q s.1 s.2.1) 128 (by decide) ⟨rfl, Or.inl ⟨rfl, rfl, fun i hi => absurd hi (by omega)⟩⟩ (fun q hq s c hI hc => ?_) (fun s c hI => ?_)
      · obtain ⟨sb, sc, ss⟩ := s
        obtain ⟨rfl, hI⟩ := hI
        unfold w_X7_rota_L46
        have pk := pcn_ok q (by omega)
        have l8 : nI (pcn q) < (8 : Int32) := nI_lt (a := pcn q) (b := 8) (by have := pk.2.1; omega) (by decide)
        have andz : (nI q &&& nI g = 0) ↔ q &&& g = 0 := by
          rw [nI_and, show (0 : Int32) = nI 0 from rfl, nI_eq (by have := Nat.and_le_left (n := q) (m := g); omega) (by decide)]
        refine i_t (nI_nlt (a := 127) (b := q) (by omega) (by decide)) ?_
        have stay : ¬ (nI (pcn q) < sc ∧ P q) → c (sb, sc, nI q + 1) := fun hn => by
          rw [nI_1]
          exact hc _ ⟨rfl, lexU_f hI hn (fun i hi => pb i (by omega)) l8⟩
        refine i_b (fun z => ?_) (fun z => stay (fun w => z ⟨andz.mpr w.2.1, ?_⟩))
        · rw [nI_or]
          refine c7_longestGap (orl q (by omega)) ?_
          have gl := gap_le (g ||| q) (orl q (by omega))
          refine i_b (fun w => sLet_i ?_) (fun w => stay (fun y => w (nI_nlt y.2.2 (by omega))))
          show c (nI q, bc32 (nI q), nI q + 1)
          rw [nI_1, pk.1]
          refine hc _ ⟨rfl, lexU_t hI ⟨andz.mp z.1, Nat.le_of_not_lt fun y => w (nI_lt y (by omega))⟩ ?_ (fun i hi => pb i (by omega))⟩
          rw [← pk.1]
          exact nlt_le.mp z.2
        · rw [nlt_le]
          show bc32 (nI q) < sc
          rw [pk.1]
          exact w.1
      · obtain ⟨sb, sc, ss⟩ := s
        obtain ⟨rfl, hI⟩ := hI
        unfold w_X7_rota_L46
        refine i_f (fun q => q (nI_lt (a := 127) (b := 128) (by decide) (by decide))) ?_
        exact fin _ ⟨_, hI⟩
    · refine i_t (vp_no (n := 7) (by decide) hb) ⟨1, rfl, ?_⟩
      unfold w_X8_rota
      refine g8_V_y' (nv := nv) hW.1 n1 hv (sLet_i (gN ?_ (dueX h rfl)))
      rw [inN_n 7 (by decide) (by decide) hb, if_pos rfl]
  · unfold w_X8_rota
    exact g8_V_n' hW.1 n1 hv (dueX h rfl)
