/-! fewest -/
def pcn (i : Nat) : Nat := (bc32 (nI i)).toNatClampNeg
theorem pcn_ok : ∀ i, i < 128 → bc32 (nI i) = nI (pcn i) ∧ pcn i ≤ 7 ∧ (i < 64 → pcn i ≤ 6) := by decide +kernel
theorem m1_lt {x : Int32} (h : x = -1) : x < 0 := by rw [h]; decide
theorem st_fewest {M : sk_M} (h : Inv M) (a b : Int32) (hb : b = 0 ∨ b = 1) : StI Inv (fun Q X => w_X7_fewest a b M (fun r => Q r M) (fun e => X e M)) (w_X8_fewest a b) ["java/lang/IndexOutOfBoundsException"] := by
  unfold StI w_X7_fewest
  obtain ⟨nv, np, nc, tx, dy, ch, lg, nr, op, hR⟩ := h.1.1
  obtain ⟨hN, hF, hW, hS, hV, hC, hL, hK, hT⟩ := id hR
  have n1 := hN.1
  have n2 := hN.2.1
  have h64 : 2 ^ np ≤ 64 := Nat.pow_le_pow_right (by decide) n2
  have h1 : 1 ≤ 2 ^ np := Nat.one_le_two_pow
  refine n7_V hF.1 n1 (fun v hv e => sLet_i ?_) (fun hv => ⟨0, rfl, ?_⟩)
  · subst e
    rw [hF.2.1, all_N (by omega)]
    let ask : Nat → Int32 := fun i => if ¬ (b = 0) then (nI (2 ^ np - 1) &&& (nI i ^^^ (-1 : Int32))) else nI i
    let P : Nat → Prop := fun i => if b = 0 then laP (M.2 146) (ask i) v np 4 = 1 else ¬ laP (M.2 146) (ask i) v np 4 = 1
    have la : ∀ s, laP (M.2 9) s v np 4 = laP (M.2 146) s v np 4 := fun s => hR.leftAll hv
    have pb : ∀ i, i < 2 ^ np → pcn i < 100 := fun i hi => by have := (pcn_ok i (by omega)).2.1; omega
    -- all of them: silenced, nobody is left
    have pall : ¬ b = 0 → P (2 ^ np - 1) := fun z => by
      show (if b = 0 then _ else _)
      rw [if_neg z]
      have e0 : ask (2 ^ np - 1) = 0 := by
        show (if ¬ (b = 0) then _ else _) = (0 : Int32)
        rw [if_pos z, m1_N, nI_xor, nI_and, show (0 : Int32) = nI 0 from rfl]
        congr 1
        apply Nat.eq_of_testBit_eq
        intro i
        rw [Nat.testBit_and, Nat.testBit_xor, tb_m1, Nat.testBit_two_pow_sub_one, Nat.zero_testBit]
        by_cases q : i < np
        · have : i < 32 := by omega
          simp [q, this]
        · simp [q]
      rw [e0, laP_0 n2]
      decide
    have fin : ∀ x : Int32, (∃ c, lexU pcn P (-1) 7 (2 ^ np) x c) → w_X8_fewest (nI v) b (sk_sl M 158 0 x.toInt64) (fun b M2 => M2.1 140 0 = 0 ∧ M2.2 158 0 = b.toInt64 ∧ Inv M2) := by
      rintro x ⟨cx, hx⟩
      unfold w_X8_fewest
      refine g8_V_y (nv := nv) hW.1 n1 hv (sLet_i (sLet_i ?_))
      have e1 : f_X8_allPeople (sk_si (sk_sl M 158 0 x.toInt64) 140 0 0) = nI (2 ^ np - 1) := by
        unfold f_X8_allPeople f_X8_people
        rw [show (sk_si (sk_sl M 158 0 x.toInt64) 140 0 0).1 141 1 = nI np from hW.2.1]
        exact all_N (by omega)
      rw [e1]
      let b0 : Int32 := if ¬ (b = 0) then nI (2 ^ np - 1) else (-1 : Int32)
      refine lp_inv (fun k s => s.2 = nI (2 ^ np - k) - 1 ∧ (k = 0 → s.1 = b0) ∧ (k ≠ 0 → lexD pcn P (-1) (2 ^ np) (2 ^ np - k) s.1)) (2 ^ np) (by unfold sk_F; omega) ⟨?_, fun _ => rfl, fun z => absurd rfl z⟩ (fun k hk s c hI hc => ?_) (fun s c hI => ?_)
      · show nI (2 ^ np - 1) = nI (2 ^ np) - 1
        exact (pk_sub (a := 2 ^ np) (b := 1) h1).symm
      · obtain ⟨sb, ss⟩ := s
        obtain ⟨rfl, hI0, hI1⟩ := hI
        obtain ⟨m, hm⟩ : ∃ m, 2 ^ np - k = m + 1 := ⟨2 ^ np - k - 1, by omega⟩
        have em : nI (m + 1) - 1 = nI m := pk_sub (a := m + 1) (b := 1) (by omega)
        rw [hm] at hI1
        unfold w_X8_fewest_L39
        rw [hm, em]
        refine i_t (nI_pos (by omega)) (sLet_i ?_)
        have e2 : nI m + (-1 : Int32) = nI (2 ^ np - (k + 1)) - 1 := by
          rw [show 2 ^ np - (k + 1) = m by omega]
          exact (Int32.sub_eq_add_neg _ _).symm
        have e3 : 2 ^ np - (k + 1) = m := by omega
        have pm := pcn_ok m (by omega)
        -- taking m, or staying
        have tk : P m → ((sb < 0) ∨ (¬ ((bc32 sb) < (bc32 (nI m))))) → c (nI m, nI m + (-1 : Int32)) := fun hp hq => by
          rw [e2]
          refine hc _ ⟨rfl, fun z => absurd z (by omega), fun _ => ?_⟩
          rw [e3]
          by_cases k0 : k = 0
          · subst k0
            refine Or.inr ⟨m, rfl, Nat.le_refl _, by omega, hp, fun i h3 h4 _ => ?_⟩
            have : i = m := by omega
            subst this
            exact Or.inr ⟨rfl, Nat.le_refl _⟩
          · refine lexD_t (hI1 k0) (by omega) hp (fun j hj ej => ?_)
            have pj := pcn_ok j (by have := hj.2.1; omega)
            rcases hq with q | q
            · rw [show sb = nI j from ej] at q
              exact absurd q (nI_pos (by have := hj.2.1; omega))
            · rw [show sb = nI j from ej, pj.1, pm.1] at q
              exact Nat.le_of_not_lt fun z => q (nI_lt z (by omega))
        have st : (P m → ¬ ((sb < 0) ∨ (¬ ((bc32 sb) < (bc32 (nI m)))))) → c (sb, nI m + (-1 : Int32)) := fun hq => by
          rw [e2]
          refine hc _ ⟨rfl, fun z => absurd z (by omega), fun _ => ?_⟩
          rw [e3]
          by_cases k0 : k = 0
          · subst k0
            have es := hI0 rfl
            have hnp : ¬ P m := fun hp => by
              have := hq hp
              apply this
              rw [show sb = b0 from es]
              show ((if ¬ (b = 0) then nI (2 ^ np - 1) else (-1 : Int32)) < 0) ∨ _
              by_cases z : b = 0
              · left
                rw [if_neg (fun y => y z)]
                decide
              · right
                show ¬ (bc32 (if ¬ (b = 0) then nI (2 ^ np - 1) else (-1 : Int32)) < bc32 (nI m))
                rw [if_pos z, show m = 2 ^ np - 1 by omega, Int32.lt_iff_toInt_lt]
                omega
            have zb : b = 0 := Classical.byContradiction fun z => hnp (by rw [show m = 2 ^ np - 1 by omega]; exact pall z)
            refine Or.inl ⟨?_, fun i h3 h4 => ?_⟩
            · rw [show sb = b0 from es]
              show (if ¬ (b = 0) then nI (2 ^ np - 1) else (-1 : Int32)) = -1
              rw [if_neg (fun y => y zb)]
            · have : i = m := by omega
              subst this
              exact hnp
          · refine lexD_f (hI1 k0) (fun hp => ?_)
            have hn := hq hp
            rcases hI1 k0 with ⟨es, _⟩ | ⟨j, es, hj⟩
            · exact absurd (Or.inl (m1_lt es)) hn
            · refine ⟨j, es, hj, ?_⟩
              have pj := pcn_ok j (by have := hj.2.1; omega)
              rw [show sb = nI j from es, pj.1, pm.1] at hn
              exact Classical.byContradiction fun z => hn (Or.inr (nI_nlt (by omega) (by omega)))
        have go : ∀ s : Int32, (s = 0 ∨ s = 1) → (s = 1 ↔ P m) → if (¬ (s = 0) ∧ ((sb < 0) ∨ (¬ ((bc32 sb) < (bc32 (nI m)))))) then c (nI m, nI m + (-1 : Int32)) else c (sb, nI m + (-1 : Int32)) := by
          intro s hs hsp
          refine i_b (fun z => tk (hsp.mp (hs.resolve_left z.1)) z.2) (fun z => st (fun hp y => z ⟨?_, y⟩))
          rw [hsp.mpr hp]
          decide
        refine i_b (fun z => ?_) (fun z => ?_)
        · rw [e1]
          refine s8_leftBy (np := np) (by omega) hW.2.1 n2 ?_
          have hPm : P m ↔ ¬ laP (M.2 146) (nI (2 ^ np - 1) &&& (nI m ^^^ (-1 : Int32))) v np 4 = 1 := by
            show (if b = 0 then _ else ¬ laP (M.2 146) (if ¬ (b = 0) then _ else _) v np 4 = 1) ↔ _
            rw [if_neg z, if_pos z]
          refine i_b (fun y => go 1 (Or.inr rfl) ⟨fun _ => hPm.mpr y, fun _ => rfl⟩) (fun y => go 0 (Or.inl rfl) ⟨fun w => absurd w (by decide), fun w => absurd (hPm.mp w) y⟩)
        · refine s8_leftBy (np := np) (by omega) hW.2.1 n2 ?_
          have zb : b = 0 := Classical.byContradiction z
          have hPm : P m ↔ laP (M.2 146) (nI m) v np 4 = 1 := by
            show (if b = 0 then laP (M.2 146) (if ¬ (b = 0) then _ else _) v np 4 = 1 else _) ↔ _
            rw [if_pos zb, if_neg z]
          refine i_b (fun y => go 1 (Or.inr rfl) ⟨fun _ => hPm.mpr y, fun _ => rfl⟩) (fun y => go 0 (Or.inl rfl) ⟨fun w => absurd w (by decide), fun w => absurd (hPm.mp w) y⟩)
      · obtain ⟨sb, ss⟩ := s
        obtain ⟨rfl, hI0, hI1⟩ := hI
        unfold w_X8_fewest_L39
        rw [Nat.sub_self]
        refine i_f (fun q => q (show (nI 0 - 1 : Int32) < 0 by decide)) ?_
        have hd := hI1 (by omega)
        rw [Nat.sub_self] at hd
        refine due0 h ?_
        show x = sb
        rcases hx with ⟨x1, -, x3⟩ | ⟨j, x1, -, x3⟩
        · rcases hd with ⟨d1, -⟩ | ⟨j', d1, d2⟩
          · rw [x1]; exact d1.symm
          · exact absurd d2.2.2.1 (x3 j' d2.2.1)
        · rcases hd with ⟨-, d2⟩ | ⟨j', d1, d2⟩
          · exact absurd x3.2.2.1 (d2 j (Nat.zero_le _) x3.2.1)
          · rw [x1, show sb = nI j' from d1, lexB_one x3 d2]
    refine lp_inv (fun k s => s.2.2 = nI k ∧ lexU pcn P (-1) 7 k s.1 s.2.1) (2 ^ np) (by unfold sk_F; omega) ⟨rfl, Or.inl ⟨rfl, rfl, fun i hi => absurd hi (by omega)⟩⟩ (fun k hk s c hI hc => ?_) (fun s c hI => ?_)
    · obtain ⟨sb, sc, ss⟩ := s
      obtain ⟨rfl, hI⟩ := hI
      unfold w_X7_fewest_L27
      have pk := pcn_ok k (by omega)
      refine i_t (nI_nlt (by omega) (by omega)) (sLet_i ?_)
      have l7 : nI (pcn k) < (7 : Int32) := nI_lt (a := pcn k) (b := 7) (by have := pk.2.2 (by omega); omega) (by decide)
      refine i_b (fun q => ?_) (fun q => ?_)
      · rw [nlt_le] at q
        refine c5_leftOfAll (by omega) (np := np) hF.2.1 n2 (sLet_i ?_)
        have hPk : P k ↔ ¬ ((if laP (M.2 9) (ask k) v np 4 = (1 : Int32) then (1 : Int32) else (0 : Int32)) = b) := by
          rw [la]
          show (if b = 0 then _ else _) ↔ _
          rcases hb with z | z
          · rw [if_pos z, z]
            by_cases y : laP (M.2 146) (ask k) v np 4 = 1
            · rw [if_pos y]; simp [y]
            · rw [if_neg y]; simp [y]
          · have z0 : ¬ b = 0 := by rw [z]; decide
            rw [if_neg z0, z]
            by_cases y : laP (M.2 146) (ask k) v np 4 = 1
            · rw [if_pos y]; simp [y]
            · rw [if_neg y]; simp [y]
        refine i_b (fun y => sLet_i ?_) (fun y => ?_)
        · have hp := hPk.mpr y
          show c (nI k, bc32 (nI k), nI k + 1)
          rw [nI_1, pk.1]
          refine hc _ ⟨rfl, lexU_t hI hp ?_ (fun i hi => pb i (by omega))⟩
          rw [← pk.1]
          exact q
        · show c (sb, sc, nI k + 1)
          rw [nI_1]
          exact hc _ ⟨rfl, lexU_f hI (fun z => y (hPk.mp z.2)) (fun i hi => pb i (by omega)) l7⟩
      · show c (sb, sc, nI k + 1)
        rw [nI_1]
        refine hc _ ⟨rfl, lexU_f hI (fun z => q ?_) (fun i hi => pb i (by omega)) l7⟩
        rw [nlt_le]
        show bc32 (nI k) < sc
        rw [pk.1]
        exact z.1
    · obtain ⟨sb, sc, ss⟩ := s
      obtain ⟨rfl, hI⟩ := hI
      unfold w_X7_fewest_L27
      refine i_f (fun q => q (nI_lt (by omega) (by omega))) ?_
      exact fin _ ⟨_, hI⟩
  · unfold w_X8_fewest
    exact g8_V_n hW.1 n1 hv (dueX h rfl)
