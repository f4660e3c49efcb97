/-! Sieve: hearing, sides, parts -/
theorem l_hear {G : sk_G} {E : sk_E} {d mR sR cells slots : Nat} {M1 : sk_M} {t u : Nat} {l : List Nat} (hd : 0 < d) (ht : t < 216) (hu : u < 216) (hfc : faced M1 t) (hsz : M1.1 130 8 = nI l.length) (hl : l.length ≤ 216) (hlc : ∀ j, j < l.length → l.getD j 0 < 216) (hc : cells ≤ mR) (hs : slots ≤ sR) (hk : ∀ M i x6 x7, i = l.length → heI M1 M l (stP (M1.1 (0 + 7)) t u) l.length → TJ G mX4_hear (sk_R d mR sR) E cells slots 109 [some (.ref (G.2.2.1 130)), some (.int (nI t)), some (.int (nI u)), some (.int (slt (M1.1 (0 + 7)) t u)), some (.int (nI (fP (stP (M1.1 (0 + 7)) t u) (l.take i)).length)), some (.int (nI i)), x6, x7] [] M) : ∀ n i : Nat, i + n = l.length → ∀ M x6 x7, sk_ok1 x6 → heI M1 M l (stP (M1.1 (0 + 7)) t u) i → TJ G mX4_hear (sk_R d mR sR) E cells slots 17 [some (.ref (G.2.2.1 130)), some (.int (nI t)), some (.int (nI u)), some (.int (slt (M1.1 (0 + 7)) t u)), some (.int (nI (fP (stP (M1.1 (0 + 7)) t u) (l.take i)).length)), some (.int (nI i)), x6, x7] [] M := by
  intro n
  induction n with
  | zero =>
    intro i hi M x6 x7 hx6 hM
    obtain rfl : i = l.length := by omega
    refine T.ild_5 (q := 19) dX4_hear_17 rfl ?_
    refine T.ald_0 (q := 20) dX4_hear_19 rfl ?_
    refine g_X4_38 rfl dX4_hear_20 (q := 23) rfl ?_
    rw [hM.1 130 (by decide) (by decide), hsz]
    refine T.ic_ge (tgt := 109) (q := 26) dX4_hear_23 (by decide) rfl (fun h23 => ?_) (fun h23 => absurd (nI_le (Nat.le_refl _) (by omega)) h23)
    exact hk _ _ _ _ rfl hM
  | succ n ih =>
    intro i hi M x6 x7 hx6 hM
    have hil : i < l.length := by omega
    have hci := hlc i hil
    have hfl := fP_len (stP (M1.1 (0 + 7)) t u) (l.take i)
    rw [tk_len (by omega)] at hfl
    have hfM : faced M t := faced_cg hfc (by rw [hM.1 130 (by decide) (by decide)]) (hM.1 133 (by decide) (by decide)) (hM.1 (0 + 7) (by decide) (by decide))
    refine T.ild_5 (q := 19) dX4_hear_17 rfl ?_
    refine T.ald_0 (q := 20) dX4_hear_19 rfl ?_
    refine g_X4_38 rfl dX4_hear_20 (q := 23) rfl ?_
    rw [hM.1 130 (by decide) (by decide), hsz]
    refine T.ic_ge (tgt := 109) (q := 26) dX4_hear_23 (by decide) rfl (fun h23 => absurd h23 (nI_ge (by omega) (by omega))) (fun h23 => ?_)
    refine T.ald_0 (q := 27) dX4_hear_26 rfl ?_
    refine g_X4_15 rfl dX4_hear_27 (q := 30) rfl ?_
    refine T.ild_5 (q := 32) dX4_hear_30 rfl ?_
    refine T.iald (n := 216) rfl rfl (by decide) dX4_hear_32 (q := 33) rfl (vp_in_nI (by omega) (by decide)) ?_
    rw [nI_clamp (by omega), hM.2.2.2.1 i (Nat.le_refl i) hil]
    refine T.ist_6 (q := 35) dX4_hear_33 rfl (by decide) (by first | exact sk_ok_i | exact sk_ok_r | exact sk_ok_n) ?_
    have J75 : ∀ z : Int32, z = bI ((stP (M1.1 (0 + 7)) t u) (l.getD i 0)) → TJ G mX4_hear (sk_R d mR sR) E cells slots 75 [some (.ref (G.2.2.1 130)), some (.int (nI t)), some (.int (nI u)), some (.int (slt (M1.1 (0 + 7)) t u)), some (.int (nI (fP (stP (M1.1 (0 + 7)) t u) (l.take i)).length)), some (.int (nI i)), some (.int (nI (l.getD i 0))), x7] [.int z] M := by
      rintro z rfl
      refine T.ist_7 (q := 77) dX4_hear_75 rfl (by decide) (by first | exact sk_ok_i | exact sk_ok_r | exact sk_ok_n) ?_
      refine T.ald_0 (q := 78) dX4_hear_77 rfl ?_
      refine g_X4_19 rfl dX4_hear_78 (q := 81) rfl ?_
      refine T.ild_6 (q := 83) dX4_hear_81 rfl ?_
      refine T.ild_7 (q := 85) dX4_hear_83 rfl ?_
      refine T.zast (n := 216) rfl rfl (by decide) dX4_hear_85 (q := 86) rfl (vp_in_nI hci (by decide)) ?_
      rw [nI_clamp (by omega), nar_bI]
      refine T.ild_7 (q := 88) dX4_hear_86 rfl ?_
      refine T.if_eq (tgt := 103) (q := 91) dX4_hear_88 (by decide) rfl (fun h88 => ?_) (fun h88 => ?_)
      · have hst : ∃ M9, heI M1 M9 l (stP (M1.1 (0 + 7)) t u) (i + 1) ∧ M9 = _ := ⟨_, by first | exact heI_t hM hil (bI_n.mp h88) | exact heI_f hM hil (bI_z.mp h88), rfl⟩
        obtain ⟨M9, hM9, rfl⟩ := hst
        have hle : (fP (stP (M1.1 (0 + 7)) t u) (l.take (i + 1))).length = (fP (stP (M1.1 (0 + 7)) t u) (l.take i)).length + (if bI ((stP (M1.1 (0 + 7)) t u) (l.getD i 0)) = 0 then 0 else 1) := by
          rw [tk_s hil]
          by_cases q : (stP (M1.1 (0 + 7)) t u) (l.getD i 0)
          · rw [fP_t q, List.length_append, if_neg (bI_n.mpr q)]; rfl
          · rw [fP_f q, if_pos (bI_z.mpr q)]; rfl
        first | rw [if_pos h88] at hle | rw [if_neg h88] at hle
        try rw [nI_1]
        refine T.inc_5 (q := 106) (1) dX4_hear_103 rfl (by decide) (by decide) sk_ok_i ?_
        refine T.goto (tgt := 17) dX4_hear_106 (by decide) ?_
        rw [nI_1 i]
        have hh := fun x6 x7 h6 => ih (i + 1) (by omega) _ x6 x7 h6 hM9
        simp only [hle] at hh
        exact hh _ _ sk_ok_i
      · refine T.ald_0 (q := 92) dX4_hear_91 rfl ?_
        refine g_X4_15 rfl dX4_hear_92 (q := 95) rfl ?_
        refine T.ild_4 (q := 97) dX4_hear_95 rfl ?_
        refine T.ild_6 (q := 99) dX4_hear_97 rfl ?_
        refine T.iast (n := 216) rfl rfl (by decide) dX4_hear_99 (q := 100) rfl (vp_in_nI (by omega) (by decide)) ?_
        rw [nI_clamp (by omega)]
        refine T.inc_4 (q := 103) (1) dX4_hear_100 rfl (by decide) (by decide) (by first | exact sk_ok_i | exact sk_ok_r | exact sk_ok_n) ?_
        have hst : ∃ M9, heI M1 M9 l (stP (M1.1 (0 + 7)) t u) (i + 1) ∧ M9 = _ := ⟨_, by first | exact heI_t hM hil (bI_n.mp h88) | exact heI_f hM hil (bI_z.mp h88), rfl⟩
        obtain ⟨M9, hM9, rfl⟩ := hst
        have hle : (fP (stP (M1.1 (0 + 7)) t u) (l.take (i + 1))).length = (fP (stP (M1.1 (0 + 7)) t u) (l.take i)).length + (if bI ((stP (M1.1 (0 + 7)) t u) (l.getD i 0)) = 0 then 0 else 1) := by
          rw [tk_s hil]
          by_cases q : (stP (M1.1 (0 + 7)) t u) (l.getD i 0)
          · rw [fP_t q, List.length_append, if_neg (bI_n.mpr q)]; rfl
          · rw [fP_f q, if_pos (bI_z.mpr q)]; rfl
        first | rw [if_pos h88] at hle | rw [if_neg h88] at hle
        try rw [nI_1]
        refine T.inc_5 (q := 106) (1) dX4_hear_103 rfl (by decide) (by decide) sk_ok_i ?_
        refine T.goto (tgt := 17) dX4_hear_106 (by decide) ?_
        rw [nI_1 i]
        have hh := fun x6 x7 h6 => ih (i + 1) (by omega) _ x6 x7 h6 hM9
        simp only [hle] at hh
        exact hh _ _ sk_ok_i
    refine T.ild_1 (q := 36) dX4_hear_35 rfl ?_
    refine T.ild_2 (q := 37) dX4_hear_36 rfl ?_
    refine T.ic_ne (tgt := 54) (q := 40) dX4_hear_37 (by decide) rfl (fun h37 => ?_) (fun h37 => ?_)
    · refine T.ild_6 (q := 56) dX4_hear_54 rfl ?_
      refine T.ild_1 (q := 57) dX4_hear_56 rfl ?_
      refine T.ic_eq (tgt := 74) (q := 60) dX4_hear_57 (by decide) rfl (fun h57 => ?_) (fun h57 => ?_)
      · refine T.iconst (q := 75) (0) dX4_hear_74 rfl (by decide) ?_
        refine J75 _ ?_
        have et : nI t = nI u ↔ t = u := nI_eq (by omega) (by omega)
        have ec : nI (l.getD i 0) = nI t ↔ l.getD i 0 = t := nI_eq (by omega) (by omega)
        first | exact (bI_t (p := stP _ _ _ _) (Or.inl ⟨et.mp h37, ec.mp h43⟩)).symm | exact (bI_t (p := stP _ _ _ _) (Or.inr ⟨fun q => h37 (et.mpr q), fun q => h57 (ec.mpr q), h67⟩)).symm | exact (bI_f (p := stP _ _ _ _) (fun z => z.elim (fun y => h43 (ec.mpr y.2)) (fun y => y.1 (et.mp h37)))).symm | exact (bI_f (p := stP _ _ _ _) (fun z => z.elim (fun y => h37 (et.mpr y.1)) (fun y => y.2.1 (ec.mp h57)))).symm | exact (bI_f (p := stP _ _ _ _) (fun z => z.elim (fun y => h37 (et.mpr y.1)) (fun y => h67 y.2.2))).symm
      · refine T.ald_0 (q := 61) dX4_hear_60 rfl ?_
        refine T.ild_6 (q := 63) dX4_hear_61 rfl ?_
        refine k_X4_52 rfl dX4_hear_63 (q := 66) rfl (by omega) hc hs (Nat.le_of_ble_eq_true rfl) (c_slotOf (d := 0) hci hfM) ?_
        rintro r M9 ⟨rfl, hM9⟩
        obtain rfl := hM9.symm
        rw [hM.1 (0 + 7) (by decide) (by decide)]
        refine T.ild_3 (q := 67) dX4_hear_66 rfl ?_
        refine T.ic_ne (tgt := 74) (q := 70) dX4_hear_67 (by decide) rfl (fun h67 => ?_) (fun h67 => ?_)
        · refine T.iconst (q := 75) (0) dX4_hear_74 rfl (by decide) ?_
          refine J75 _ ?_
          have et : nI t = nI u ↔ t = u := nI_eq (by omega) (by omega)
          have ec : nI (l.getD i 0) = nI t ↔ l.getD i 0 = t := nI_eq (by omega) (by omega)
          first | exact (bI_t (p := stP _ _ _ _) (Or.inl ⟨et.mp h37, ec.mp h43⟩)).symm | exact (bI_t (p := stP _ _ _ _) (Or.inr ⟨fun q => h37 (et.mpr q), fun q => h57 (ec.mpr q), h67⟩)).symm | exact (bI_f (p := stP _ _ _ _) (fun z => z.elim (fun y => h43 (ec.mpr y.2)) (fun y => y.1 (et.mp h37)))).symm | exact (bI_f (p := stP _ _ _ _) (fun z => z.elim (fun y => h37 (et.mpr y.1)) (fun y => y.2.1 (ec.mp h57)))).symm | exact (bI_f (p := stP _ _ _ _) (fun z => z.elim (fun y => h37 (et.mpr y.1)) (fun y => h67 y.2.2))).symm
        · refine T.iconst (q := 71) (1) dX4_hear_70 rfl (by decide) ?_
          refine T.goto (tgt := 75) dX4_hear_71 (by decide) ?_
          refine J75 _ ?_
          have et : nI t = nI u ↔ t = u := nI_eq (by omega) (by omega)
          have ec : nI (l.getD i 0) = nI t ↔ l.getD i 0 = t := nI_eq (by omega) (by omega)
          first | exact (bI_t (p := stP _ _ _ _) (Or.inl ⟨et.mp h37, ec.mp h43⟩)).symm | exact (bI_t (p := stP _ _ _ _) (Or.inr ⟨fun q => h37 (et.mpr q), fun q => h57 (ec.mpr q), h67⟩)).symm | exact (bI_f (p := stP _ _ _ _) (fun z => z.elim (fun y => h43 (ec.mpr y.2)) (fun y => y.1 (et.mp h37)))).symm | exact (bI_f (p := stP _ _ _ _) (fun z => z.elim (fun y => h37 (et.mpr y.1)) (fun y => y.2.1 (ec.mp h57)))).symm | exact (bI_f (p := stP _ _ _ _) (fun z => z.elim (fun y => h37 (et.mpr y.1)) (fun y => h67 y.2.2))).symm
    · refine T.ild_6 (q := 42) dX4_hear_40 rfl ?_
      refine T.ild_1 (q := 43) dX4_hear_42 rfl ?_
      refine T.ic_ne (tgt := 50) (q := 46) dX4_hear_43 (by decide) rfl (fun h43 => ?_) (fun h43 => ?_)
      · refine T.iconst (q := 51) (0) dX4_hear_50 rfl (by decide) ?_
        refine T.goto (tgt := 75) dX4_hear_51 (by decide) ?_
        refine J75 _ ?_
        have et : nI t = nI u ↔ t = u := nI_eq (by omega) (by omega)
        have ec : nI (l.getD i 0) = nI t ↔ l.getD i 0 = t := nI_eq (by omega) (by omega)
        first | exact (bI_t (p := stP _ _ _ _) (Or.inl ⟨et.mp h37, ec.mp h43⟩)).symm | exact (bI_t (p := stP _ _ _ _) (Or.inr ⟨fun q => h37 (et.mpr q), fun q => h57 (ec.mpr q), h67⟩)).symm | exact (bI_f (p := stP _ _ _ _) (fun z => z.elim (fun y => h43 (ec.mpr y.2)) (fun y => y.1 (et.mp h37)))).symm | exact (bI_f (p := stP _ _ _ _) (fun z => z.elim (fun y => h37 (et.mpr y.1)) (fun y => y.2.1 (ec.mp h57)))).symm | exact (bI_f (p := stP _ _ _ _) (fun z => z.elim (fun y => h37 (et.mpr y.1)) (fun y => h67 y.2.2))).symm
      · refine T.iconst (q := 47) (1) dX4_hear_46 rfl (by decide) ?_
        refine T.goto (tgt := 75) dX4_hear_47 (by decide) ?_
        refine J75 _ ?_
        have et : nI t = nI u ↔ t = u := nI_eq (by omega) (by omega)
        have ec : nI (l.getD i 0) = nI t ↔ l.getD i 0 = t := nI_eq (by omega) (by omega)
        first | exact (bI_t (p := stP _ _ _ _) (Or.inl ⟨et.mp h37, ec.mp h43⟩)).symm | exact (bI_t (p := stP _ _ _ _) (Or.inr ⟨fun q => h37 (et.mpr q), fun q => h57 (ec.mpr q), h67⟩)).symm | exact (bI_f (p := stP _ _ _ _) (fun z => z.elim (fun y => h43 (ec.mpr y.2)) (fun y => y.1 (et.mp h37)))).symm | exact (bI_f (p := stP _ _ _ _) (fun z => z.elim (fun y => h37 (et.mpr y.1)) (fun y => y.2.1 (ec.mp h57)))).symm | exact (bI_f (p := stP _ _ _ _) (fun z => z.elim (fun y => h37 (et.mpr y.1)) (fun y => h67 y.2.2))).symm
theorem c_hear {G : sk_G} {d : Nat} {M : sk_M} {t u : Nat} {l : List Nat} (hd : 1 < d) (ht : t < 216) (hu : u < 216) (hV : SV M l) : Ctr G mX4_hear d 0 0 [.ref (G.2.2.1 130), .int (nI t), .int (nI u)] M (rV fun M' => hrF M M' ∧ SV M' (fP (stP (M.1 (0 + 7)) t u) l)) noX := by
  refine Ctr.of 5 (by decide) (Nat.le_of_ble_eq_true rfl) ?_
  refine T.ald_0 (q := 1) dX4_hear_0 rfl ?_
  refine T.ild_1 (q := 2) dX4_hear_1 rfl ?_
  refine k_X4_48 rfl dX4_hear_2 (q := 5) rfl (by omega) (by decide) (by decide) (Nat.le_of_ble_eq_true rfl) (c_face (d := 0) ht) ?_
  rintro M1 hF
  obtain ⟨f1, f2, f3, f4⟩ := hF
  have e7 : M1.1 (0 + 7) = M.1 (0 + 7) := f1 _ (by decide) (by decide)
  refine T.ald_0 (q := 6) dX4_hear_5 rfl ?_
  refine T.ild_2 (q := 7) dX4_hear_6 rfl ?_
  refine k_X4_52 rfl dX4_hear_7 (q := 10) rfl (by omega) (by decide) (by decide) (Nat.le_of_ble_eq_true rfl) (c_slotOf (d := 0) hu f4) ?_
  rintro r M9 ⟨rfl, hM9⟩
  obtain rfl := hM9.symm
  refine T.ist_3 (q := 11) dX4_hear_10 rfl (by decide) (by first | exact sk_ok_i | exact sk_ok_r | exact sk_ok_n) ?_
  refine T.iconst (q := 12) (0) dX4_hear_11 rfl (by decide) ?_
  refine T.ist_4 (q := 14) dX4_hear_12 rfl (by decide) (by first | exact sk_ok_i | exact sk_ok_r | exact sk_ok_n) ?_
  refine T.iconst (q := 15) (0) dX4_hear_14 rfl (by decide) ?_
  refine T.ist_5 (q := 17) dX4_hear_15 rfl (by decide) (by first | exact sk_ok_i | exact sk_ok_r | exact sk_ok_n) ?_
  obtain ⟨v1, v2, v3, v4⟩ := hV
  refine l_hear (M1 := M1) (l := l) (by omega) ht hu f4 (by rw [f3 8 (by decide)]; exact v1) v2 (fun j hj => (v3 j hj).2) (Nat.le_refl 0) (Nat.le_refl 0) ?_ l.length 0 (Nat.zero_add _) M1 _ _ sk_ok_n ⟨fun _ _ _ => rfl, rfl, fun j hj => absurd hj (by simp [fP]), fun j _ hj => by rw [f1 131 (by decide) (by decide)]; exact (v3 j hj).1, fun c hc => by rw [f1 132 (by decide) (by decide), v4 c hc]; exact bI_cg (by simp)⟩
  rintro M5 i x6 x7 rfl hM5
  refine T.ald_0 (q := 110) dX4_hear_109 rfl ?_
  refine T.ild_4 (q := 112) dX4_hear_110 rfl ?_
  refine p_X4_38 rfl dX4_hear_112 (q := 115) rfl ?_
  exact T.retV rfl dX4_hear_115 (by decide) (by decide) ⟨⟨fun c h1 h2 h3 h4 => by rw [sk_si_ne h1, hM5.1 c h2 h3]; exact f1 c h1 h4, hM5.2.1.trans f2, fun k h1 h2 => by rw [sk_si_at, upd, if_neg h1, hM5.1 130 (by decide) (by decide)]; exact f3 k h2⟩, hrE hM5 v2 (fun j hj => (v3 j hj).2) e7⟩
