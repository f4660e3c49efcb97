/-! Strings of the constant pools: length and charAt -/
section SKS
variable {G : sk_G} {X : sk_X} {E : sk_E} {D mR sR cells slots pc q : Nat} {xs : List (Option Value)} {st : List Value} {M : sk_M}
theorem sk_runVs {R : Room} {i j d' mc' ms' : Nat} {Y : sk_X} {As rest : List Value} {po' : Option Value → sk_M → Prop} {xp' : String → sk_M → Prop} (hM : Ctr G Y d' mc' ms' (.ref (G.2.2.2.2.1 j) :: As) M po' xp') (hw : sk_cV X.1.cls i Y = true) (hcw : sk_wok (sk_cw Y) = true) (hn : sk_np Y As.length) (hj : j < sk_SN) (hC : Y.1.cls = "java/lang/String")
    (hf : d' + 1 ≤ R.frames) (hlo : 8 + (Y.2.2.1 + 11) + 64 * d' ≤ R.locals) (h1 : cells + mc' ≤ R.cells) (h2 : slots + ms' ≤ R.slots) (hst : st = As.reverse ++ .ref (G.2.2.2.2.1 j) :: rest) (hr : (rest.map fun v => v.category).sum ≤ 8)
    (d : decode X.2.1 pc = .ok (.invokevirtual i, 3)) {p : Program} {e : Env} {s : State} {m : MethodId} {args : Array Value} {below : List Frame} {meth : Method} {co : Code} {H : Heap} {locs : List Loc} {ls : Array Slot} (hcx : sk_cx G X p s m args meth co) (hP : va_P G.2.1 vwCl (sk_ws G.2.2.1 G.2.2.2.1 M) H) (hS : va_S (sk_A G.2.2.1 s.heap.size) s.heap H locs) (hl : sk_L ls X.2.2.1 xs) :
    vx_Run p G.1 e R s m args below meth co H locs cells slots mc' ms' (F0 m pc ls st) rest (sk_Q G po' (Value.ref (G.2.2.2.2.1 j) :: As).toArray) (sk_XC G xp') (sk_A G.2.2.1 H.size) := by
  obtain ⟨w1, w2, w3, w4⟩ := sk_all4 hw
  have w5 := sk_w_in hcw
  have hb := hcx.2.2.2.2.2.1
  have hg := sk_good w5
  refine vx_runV (Ts := sk_w) (own := X.1.cls) (C := Y.1.cls) (index := i) (cc := X.2.1) (nL := X.2.2.1) (bytes := Y.2.1) (maxL := Y.2.2.1) (ret := Y.2.2.2.1) (n := As.length) ⟨hcx.1, hcx.2.1, hcx.2.2.2.1, hcx.2.2.2.2.1, hb⟩ (hM H.size) ⟨callB_of As.length hb hg rfl rfl rfl (hb _ w4) (hb _ w1) hn ⟨hf, hlo⟩, hb _ w2, hb _ w3⟩ ⟨sk_blind, ?_, sk_pre hcx hP hS⟩ rfl rfl hl.1 hst (lv_room hr) d ⟨h1, h2⟩
  obtain ⟨cell, g1, g2, g3, -⟩ := (hcx.2.2.2.2.2.2.2.2.2.2.2.2.2.1.2 j hj).1.kept hS.2.1
  rw [hC]
  exact ⟨cell, g1, g2, g3⟩
theorem T.cVs {i j d9 : Nat} {Y : sk_X} {As rest : List Value} {f : Int32 → sk_M → Prop} (hw : sk_cV X.1.cls i Y = true) (hcw : sk_wok (sk_cw Y) = true) (hn : sk_np Y As.length) (hC : Y.1.cls = "java/lang/String") (hml : Y.2.2.1 ≤ 40) (hst : st = As.reverse ++ .ref (G.2.2.2.2.1 j) :: rest) (hj : j < sk_SN) (d : decode X.2.1 pc = .ok (.invokevirtual i, 3)) (hq : pc + 3 = q) (hD : d9 < D) (h1 : cells ≤ mR) (h2 : slots ≤ sR) (hr : (rest.map fun v => v.category).sum ≤ 8)
    (hM : Ctr G Y d9 0 0 (.ref (G.2.2.2.2.1 j) :: As) M (rI f) noX) (kk : ∀ r M', f r M' → TJ G X (sk_R D mR sR) E cells slots q xs (.int r :: rest) M') : TJ G X (sk_R D mR sR) E cells slots pc xs st M := by
  subst hq
  intro p e s m args below meth co H locs hcx hP hS ls hl
  refine sk_goes hcx hS hl (sk_runVs (R := sk_R D mR sR) hM hw hcw hn hj hC hD (show 8 + (Y.2.2.1 + 11) + 64 * d9 ≤ 64 * D by omega) h1 h2 hst hr d hcx hP hS hl) (fun _ _ _ _ _ _ h => h.elim) (fun v M' H1 locs1 hp hP1 hS1 => ?_)
  obtain ⟨r, rfl, hp⟩ := hp
  exact kk r M' hp p e s m args below meth co H1 locs1 hcx hP1 hS1 ls hl
theorem T.sioobe {j : Nat} (hw : sk_wok (.fieldLink X.1.cls j "jdk/internal/util/Preconditions" "SIOOBE_FORMATTER" "Ljava/util/function/BiFunction;") = true) (d : decode X.2.1 pc = .ok (.getstatic j, 3)) (hq : pc + 3 = q) {R : Room} (kk : ∀ v : Value, v.category = 1 → TJ G X R E cells slots q xs (v :: st) M) : TJ G X R E cells slots pc xs st M := by
  subst hq
  intro p e s m args below meth co H locs hcx hP hS ls hl
  rcases hcx.2.2.2.2.2.2.2.2.2.2.2.2.2.2.2.2.2.1 with h | ⟨t, h⟩
  · exact va_gets (ref := "jdk/internal/util/Preconditions") hcx.1 hcx.2.1 h hS hcx.2.2.2.2.1 (hcx.2.2.2.2.2.1 _ (sk_w_in hw)) (fun _ h => h) d (kk _ rfl p e s m args below meth co H locs hcx hP hS ls hl)
  · exact va_gets (ref := "jdk/internal/util/Preconditions") hcx.1 hcx.2.1 h hS hcx.2.2.2.2.1 (hcx.2.2.2.2.2.1 _ (sk_w_in hw)) (fun _ h => h) d (kk _ rfl p e s m args below meth co H locs hcx hP hS ls hl)
end SKS
theorem c_coder {G : sk_G} {d : Nat} {M : sk_M} {j : Nat} (hi : j < sk_SN) : Ctr G mJ0_coder_7d493 d 0 0 [.ref (G.2.2.2.2.1 j)] M (rI fun r M' => r = 0 ∧ M' = M) noX := by
  refine Ctr.of 0 (by decide) (Nat.le_of_ble_eq_true rfl) ?_
  refine T.compact (q := 3) (by decide +kernel) dJ0_coder_7d493_0 rfl ?_
  refine T.if_eq (tgt := 13) (q := 6) dJ0_coder_7d493_3 (by decide) rfl (fun h => absurd h (by decide)) (fun _ => ?_)
  refine T.ald_0 (q := 7) dJ0_coder_7d493_6 rfl ?_
  refine T.strF (q := 10) hi (Or.inl ⟨rfl, rfl, rfl⟩) (by decide +kernel) dJ0_coder_7d493_7 rfl ?_
  refine T.goto (tgt := 14) dJ0_coder_7d493_10 (by decide) ?_
  exact T.retZ rfl dJ0_coder_7d493_14 (by decide) (by decide) rfl ⟨rfl, rfl⟩
theorem c_isLatin1 {G : sk_G} {d : Nat} {M : sk_M} {j : Nat} (hi : j < sk_SN) : Ctr G mJ0_isLatin1_aae02 d 0 0 [.ref (G.2.2.2.2.1 j)] M (rI fun r M' => r = 1 ∧ M' = M) noX := by
  refine Ctr.of 0 (by decide) (Nat.le_of_ble_eq_true rfl) ?_
  refine T.compact (q := 3) (by decide +kernel) dJ0_isLatin1_aae02_0 rfl ?_
  refine T.if_eq (tgt := 17) (q := 6) dJ0_isLatin1_aae02_3 (by decide) rfl (fun h => absurd h (by decide)) (fun _ => ?_)
  refine T.ald_0 (q := 7) dJ0_isLatin1_aae02_6 rfl ?_
  refine T.strF (q := 10) hi (Or.inl ⟨rfl, rfl, rfl⟩) (by decide +kernel) dJ0_isLatin1_aae02_7 rfl ?_
  refine T.if_ne (tgt := 17) (q := 13) dJ0_isLatin1_aae02_10 (by decide) rfl (fun h => absurd rfl h) (fun _ => ?_)
  refine T.iconst (q := 14) (1) dJ0_isLatin1_aae02_13 rfl (by decide) ?_
  refine T.goto (tgt := 18) dJ0_isLatin1_aae02_14 (by decide) ?_
  exact T.retZ rfl dJ0_isLatin1_aae02_18 (by decide) (by decide) rfl ⟨rfl, rfl⟩
theorem c_strLen {G : sk_G} {d : Nat} {M : sk_M} {j : Nat} (hd : 0 < d) (hi : j < sk_SN) : Ctr G mJ0_length_8abf5 d 0 0 [.ref (G.2.2.2.2.1 j)] M (rI fun r M' => r = nI (wdL j) ∧ M' = M) noX := by
  refine Ctr.of 0 (by decide) (Nat.le_of_ble_eq_true rfl) ?_
  refine T.ald_0 (q := 1) dJ0_length_8abf5_0 rfl ?_
  refine T.strF (q := 4) hi (Or.inr ⟨rfl, rfl, rfl⟩) (by decide +kernel) dJ0_length_8abf5_1 rfl ?_
  refine T.strLen (q := 5) hi dJ0_length_8abf5_4 rfl ?_
  refine T.ald_0 (q := 6) dJ0_length_8abf5_5 rfl ?_
  refine T.cVs (As := []) w_J0_335 cw_J0_coder_7d493 np_J0_coder_7d493 rfl (by decide) rfl hi dJ0_length_8abf5_6 (q := 9) rfl hd (Nat.le_refl 0) (Nat.le_refl 0) (Nat.le_of_ble_eq_true rfl) (c_coder (d := 0) hi) ?_
  rintro r M9 ⟨rfl, hM9⟩
  obtain rfl := hM9.symm
  refine T.ishr (q := 10) dJ0_length_8abf5_9 rfl ?_
  refine T.retI rfl dJ0_length_8abf5_10 (by decide) (by decide) ⟨?_, rfl⟩
  exact sb_shr0 _
theorem c_pcheck {G : sk_G} {d : Nat} {M : sk_M} {k n : Nat} {v : Value} (hv : v.category = 1) (hk : k < n) (hn : n < 1000) : Ctr G mJ3_checkIndex_8e157 d 0 0 [.int (nI k), .int (nI n), v] M (rI fun r M' => r = nI k ∧ M' = M) noX := by
  refine Ctr.of 0 (by decide) ?_ ?_
  · cases v <;> first | exact Nat.le_of_ble_eq_true rfl | exact absurd hv (by simp [Value.category])
  have e : sk_en [.int (nI k), .int (nI n), v] ++ List.replicate 0 none = some (.int (nI k)) :: some (.int (nI n)) :: (sk_en [v] ++ List.replicate 0 none) := rfl
  rw [e]
  refine T.ild_0 (q := 1) dJ3_checkIndex_8e157_0 rfl ?_
  refine T.if_lt (tgt := 9) (q := 4) dJ3_checkIndex_8e157_1 (by decide) rfl (fun h => absurd h (nI_pos (by omega))) (fun _ => ?_)
  refine T.ild_0 (q := 5) dJ3_checkIndex_8e157_4 rfl ?_
  refine T.ild_1 (q := 6) dJ3_checkIndex_8e157_5 rfl ?_
  refine T.ic_lt (tgt := 16) (q := 9) dJ3_checkIndex_8e157_6 (by decide) rfl (fun _ => ?_) (fun h => absurd (nI_lt hk (by omega)) h)
  refine T.ild_0 (q := 17) dJ3_checkIndex_8e157_16 rfl ?_
  exact T.retI rfl dJ3_checkIndex_8e157_17 (by decide) (by decide) ⟨rfl, rfl⟩
theorem c_scheck {G : sk_G} {d : Nat} {M : sk_M} {k n : Nat} (hd : 0 < d) (hk : k < n) (hn : n < 1000) : Ctr G mJ0_checkIndex_df160 d 0 0 [.int (nI k), .int (nI n)] M (rV fun M' => M' = M) noX := by
  refine Ctr.of 0 (by decide) (Nat.le_of_ble_eq_true rfl) ?_
  refine T.ild_0 (q := 1) dJ0_checkIndex_df160_0 rfl ?_
  refine T.ild_1 (q := 2) dJ0_checkIndex_df160_1 rfl ?_
  refine T.sioobe (q := 5) (by decide +kernel) dJ0_checkIndex_df160_2 rfl (fun v hv => ?_)
  refine k_J0_1059 rfl dJ0_checkIndex_df160_5 (q := 8) rfl hd (by decide) (by decide) (Nat.le_of_ble_eq_true rfl) (c_pcheck (d := 0) hv hk hn) ?_
  rintro r M9 ⟨rfl, hM9⟩
  obtain rfl := hM9.symm
  refine T.pop (q := 9) dJ0_checkIndex_df160_8 rfl rfl ?_
  exact T.retV rfl dJ0_checkIndex_df160_9 (by decide) (by decide) rfl
theorem c_lcharAt {G : sk_G} {d : Nat} {M : sk_M} {j k : Nat} (hd : 1 < d) (hi : j < sk_SN) (hk : k < wdL j) : Ctr G mJ1_charAt_3b067 d 0 0 [.ref (G.2.2.2.2.2 j), .int (nI k)] M (rI fun r M' => r = nI (wdN j k) ∧ M' = M) noX := by
  have hw := wdL_lt j hi
  have hc := ch_ok j hi k hk
  refine Ctr.of 0 (by decide) (Nat.le_of_ble_eq_true rfl) ?_
  refine T.ild_1 (q := 1) dJ1_charAt_3b067_0 rfl ?_
  refine T.ald_0 (q := 2) dJ1_charAt_3b067_1 rfl ?_
  refine T.strLen (q := 3) hi dJ1_charAt_3b067_2 rfl ?_
  refine k_J1_9 rfl dJ1_charAt_3b067_3 (q := 6) rfl hd (by decide) (by decide) (Nat.le_of_ble_eq_true rfl) (c_scheck (d := 1) (by decide) hk hw) ?_
  rintro M9 hM9
  obtain rfl := hM9.symm
  refine T.ald_0 (q := 7) dJ1_charAt_3b067_6 rfl ?_
  refine T.ild_1 (q := 8) dJ1_charAt_3b067_7 rfl ?_
  refine T.strB (q := 9) hi dJ1_charAt_3b067_8 rfl (vp_in_nI hk (by have : sk_Sl.getD j 0 = wdL j := rfl; omega)) ?_
  rw [nI_clamp (by omega), show (sk_Sb.getD j []).getD k 0 = chS j k from rfl]
  refine T.sipush (q := 12) (255) dJ1_charAt_3b067_9 rfl (by decide) ?_
  refine T.iand (q := 13) dJ1_charAt_3b067_12 rfl ?_
  refine T.i2c (q := 14) dJ1_charAt_3b067_13 rfl ?_
  rw [hc.2.2, hc.1]
  exact T.retZ rfl dJ1_charAt_3b067_14 (by decide) (by decide) (nar_ch hc.2.1) ⟨rfl, rfl⟩
theorem c_charAt {G : sk_G} {d : Nat} {M : sk_M} {j k : Nat} (hd : 2 < d) (hi : j < sk_SN) (hk : k < wdL j) : Ctr G mJ0_charAt_5068e d 0 0 [.ref (G.2.2.2.2.1 j), .int (nI k)] M (rI fun r M' => r = nI (wdN j k) ∧ M' = M) noX := by
  have hc := ch_ok j hi k hk
  refine Ctr.of 0 (by decide) (Nat.le_of_ble_eq_true rfl) ?_
  refine T.ald_0 (q := 1) dJ0_charAt_5068e_0 rfl ?_
  refine T.cVs (As := []) w_J0_492 cw_J0_isLatin1_aae02 np_J0_isLatin1_aae02 rfl (by decide) rfl hi dJ0_charAt_5068e_1 (q := 4) rfl (show 0 < d by omega) (Nat.le_refl 0) (Nat.le_refl 0) (Nat.le_of_ble_eq_true rfl) (c_isLatin1 (d := 0) hi) ?_
  rintro r M9 ⟨rfl, hM9⟩
  obtain rfl := hM9.symm
  refine T.if_eq (tgt := 16) (q := 7) dJ0_charAt_5068e_4 (by decide) rfl (fun h => absurd h (by decide)) (fun _ => ?_)
  refine T.ald_0 (q := 8) dJ0_charAt_5068e_7 rfl ?_
  refine T.strF (q := 11) hi (Or.inr ⟨rfl, rfl, rfl⟩) (by decide +kernel) dJ0_charAt_5068e_8 rfl ?_
  refine T.ild_1 (q := 12) dJ0_charAt_5068e_11 rfl ?_
  refine k_J0_495 rfl dJ0_charAt_5068e_12 (q := 15) rfl hd (by decide) (by decide) (Nat.le_of_ble_eq_true rfl) (c_lcharAt (d := 2) (by decide) hi hk) ?_
  rintro r M9 ⟨rfl, hM9⟩
  obtain rfl := hM9.symm
  exact T.retZ rfl dJ0_charAt_5068e_15 (by decide) (by decide) (nar_ch hc.2.1) ⟨rfl, rfl⟩
