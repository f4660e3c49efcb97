/-! the law's loop -/
theorem and63 (v : Int32) : ∃ c, c < 64 ∧ v &&& 63 = nI c := by
  refine ⟨v.toBitVec.toNat % 64, Nat.mod_lt _ (by decide), ?_⟩
  apply Int32.toBitVec_inj.mp
  apply BitVec.eq_of_toNat_eq
  show (v.toBitVec &&& 63#32).toNat = (BitVec.ofNat 32 (v.toBitVec.toNat % 64)).toNat
  rw [BitVec.toNat_and, BitVec.toNat_ofNat, BitVec.toNat_ofNat, Nat.mod_eq_of_lt (show v.toBitVec.toNat % 64 < 2 ^ 32 by omega)]
  exact Nat.and_two_pow_sub_one_eq_mod _ 6
theorem lw_gt {L k : Nat} (hL : L ≤ 3072) (hk : k ≤ 600) (h : ¬ (nI L - 6 < nI (6 * k))) : 6 * k + 6 ≤ L := by
  by_cases h6 : 6 ≤ L
  · have e : nI L - 6 = nI (L - 6) := pk_sub (b := 6) h6
    rw [e, nI_ltI (by omega) (by omega)] at h
    omega
  · exfalso
    apply h
    have p : (0 : Int32) ≤ nI (6 * k) := p0 (by omega)
    have : L = 0 ∨ L = 1 ∨ L = 2 ∨ L = 3 ∨ L = 4 ∨ L = 5 := by omega
    rcases this with rfl | rfl | rfl | rfl | rfl | rfl <;> exact Int32.lt_of_lt_of_le (by decide) p
theorem lw_vs {L k : Nat} (hL : L ≤ 3072) (h : 6 * k + 6 ≤ L) : lwv (nI (6 * k)) L := by
  have e : ∀ j, j < 6 → vp_in (nI (6 * k) + nI j) L := fun j hj => by
    rw [nI_add]
    exact vp_in_nI (by omega) (by omega)
  refine ⟨vp_in_nI (by omega) (by omega), e 1 (by decide), e 2 (by decide), e 3 (by decide), e 4 (by decide), e 5 (by decide)⟩
theorem lw_sw {G : sk_G} {b L : Nat} {ys : Nat → Int32} {M : sk_M} {k : Nat} {cells slots : Nat} {v : Int32} (h : Inv M) (hv : lwv (nI (6 * k)) L) (hc : cells + 8 ≤ 601024) (hs : slots + 48 ≤ 7293033) (kk : ∀ M0, Inv M0 → TJ G mL_law_ room_1 (lw_E G b L ys) (cells + 8) (slots + 48) 2945 [some (.ref b), some (.ref (G.2.2.1 120)), some (.ref (G.2.2.1 140)), some (.ref (G.2.2.1 158)), some (.int (nI (6 * k))), none, none] [] M0) : TJ G mL_law_ room_1 (lw_E G b L ys) cells slots 40 [some (.ref b), some (.ref (G.2.2.1 120)), some (.ref (G.2.2.1 140)), some (.ref (G.2.2.1 158)), some (.int (nI (6 * k))), none, none] [.int (v &&& 63)] M := by
  obtain ⟨c, hc64, hx⟩ := and63 v
  rw [hx]
  by_cases h47 : c < 47
  · have : c = 0 ∨ c = 1 ∨ c = 2 ∨ c = 3 ∨ c = 4 ∨ c = 5 ∨ c = 6 ∨ c = 7 ∨ c = 8 ∨ c = 9 ∨ c = 10 ∨ c = 11 ∨ c = 12 ∨ c = 13 ∨ c = 14 ∨ c = 15 ∨ c = 16 ∨ c = 17 ∨ c = 18 ∨ c = 19 ∨ c = 20 ∨ c = 21 ∨ c = 22 ∨ c = 23 ∨ c = 24 ∨ c = 25 ∨ c = 26 ∨ c = 27 ∨ c = 28 ∨ c = 29 ∨ c = 30 ∨ c = 31 ∨ c = 32 ∨ c = 33 ∨ c = 34 ∨ c = 35 ∨ c = 36 ∨ c = 37 ∨ c = 38 ∨ c = 39 ∨ c = 40 ∨ c = 41 ∨ c = 42 ∨ c = 43 ∨ c = 44 ∨ c = 45 ∨ c = 46 := by omega
    rcases this with rfl | rfl | rfl | rfl | rfl | rfl | rfl | rfl | rfl | rfl | rfl | rfl | rfl | rfl | rfl | rfl | rfl | rfl | rfl | rfl | rfl | rfl | rfl | rfl | rfl | rfl | rfl | rfl | rfl | rfl | rfl | rfl | rfl | rfl | rfl | rfl | rfl | rfl | rfl | rfl | rfl | rfl | rfl | rfl | rfl | rfl | rfl
    · exact T.swIn (tgt := 244) (off := 204) dL_law__40 (by decide) (by decide) rfl (by decide) (lwc_0 h hv hc hs kk)
    · exact T.swIn (tgt := 317) (off := 277) dL_law__40 (by decide) (by decide) rfl (by decide) (lwc_1 h hv hc hs kk)
    · exact T.swIn (tgt := 342) (off := 302) dL_law__40 (by decide) (by decide) rfl (by decide) (lwc_2 h hv hc hs kk)
    · exact T.swIn (tgt := 386) (off := 346) dL_law__40 (by decide) (by decide) rfl (by decide) (lwc_3 h hv hc hs kk)
    · exact T.swIn (tgt := 430) (off := 390) dL_law__40 (by decide) (by decide) rfl (by decide) (lwc_4 h hv hc hs kk)
    · exact T.swIn (tgt := 443) (off := 403) dL_law__40 (by decide) (by decide) rfl (by decide) (lwc_5 h hv hc hs kk)
    · exact T.swIn (tgt := 511) (off := 471) dL_law__40 (by decide) (by decide) rfl (by decide) (lwc_6 h hv hc hs kk)
    · exact T.swIn (tgt := 579) (off := 539) dL_law__40 (by decide) (by decide) rfl (by decide) (lwc_7 h hv hc hs kk)
    · exact T.swIn (tgt := 659) (off := 619) dL_law__40 (by decide) (by decide) rfl (by decide) (lwc_8 h hv hc hs kk)
    · exact T.swIn (tgt := 767) (off := 727) dL_law__40 (by decide) (by decide) rfl (by decide) (lwc_9 h hv hc hs kk)
    · exact T.swIn (tgt := 847) (off := 807) dL_law__40 (by decide) (by decide) rfl (by decide) (lwc_10 h hv hc hs kk)
    · exact T.swIn (tgt := 915) (off := 875) dL_law__40 (by decide) (by decide) rfl (by decide) (lwc_11 h hv hc hs kk)
    · exact T.swIn (tgt := 995) (off := 955) dL_law__40 (by decide) (by decide) rfl (by decide) (lwc_12 h hv hc hs kk)
    · exact T.swIn (tgt := 1075) (off := 1035) dL_law__40 (by decide) (by decide) rfl (by decide) (lwc_13 h hv hc hs kk)
    · exact T.swIn (tgt := 1143) (off := 1103) dL_law__40 (by decide) (by decide) rfl (by decide) (lwc_14 h hv hc hs kk)
    · exact T.swIn (tgt := 1211) (off := 1171) dL_law__40 (by decide) (by decide) rfl (by decide) (lwc_15 h hv hc hs kk)
    · exact T.swIn (tgt := 1314) (off := 1274) dL_law__40 (by decide) (by decide) rfl (by decide) (lwc_16 h hv hc hs kk)
    · exact T.swIn (tgt := 1370) (off := 1330) dL_law__40 (by decide) (by decide) rfl (by decide) (lwc_17 h hv hc hs kk)
    · exact T.swIn (tgt := 1478) (off := 1438) dL_law__40 (by decide) (by decide) rfl (by decide) (lwc_18 h hv hc hs kk)
    · exact T.swIn (tgt := 1546) (off := 1506) dL_law__40 (by decide) (by decide) rfl (by decide) (lwc_19 h hv hc hs kk)
    · exact T.swIn (tgt := 1614) (off := 1574) dL_law__40 (by decide) (by decide) rfl (by decide) (lwc_20 h hv hc hs kk)
    · exact T.swIn (tgt := 1682) (off := 1642) dL_law__40 (by decide) (by decide) rfl (by decide) (lwc_21 h hv hc hs kk)
    · exact T.swIn (tgt := 1738) (off := 1698) dL_law__40 (by decide) (by decide) rfl (by decide) (lwc_22 h hv hc hs kk)
    · exact T.swIn (tgt := 1751) (off := 1711) dL_law__40 (by decide) (by decide) rfl (by decide) (lwc_23 h hv hc hs kk)
    · exact T.swIn (tgt := 1764) (off := 1724) dL_law__40 (by decide) (by decide) rfl (by decide) (lwc_24 h hv hc hs kk)
    · exact T.swIn (tgt := 1820) (off := 1780) dL_law__40 (by decide) (by decide) rfl (by decide) (lwc_25 h hv hc hs kk)
    · exact T.swIn (tgt := 1895) (off := 1855) dL_law__40 (by decide) (by decide) rfl (by decide) (lwc_26 h hv hc hs kk)
    · exact T.swIn (tgt := 1979) (off := 1939) dL_law__40 (by decide) (by decide) rfl (by decide) (lwc_27 h hv hc hs kk)
    · exact T.swIn (tgt := 2035) (off := 1995) dL_law__40 (by decide) (by decide) rfl (by decide) (lwc_28 h hv hc hs kk)
    · exact T.swIn (tgt := 2115) (off := 2075) dL_law__40 (by decide) (by decide) rfl (by decide) (lwc_29 h hv hc hs kk)
    · exact T.swIn (tgt := 2183) (off := 2143) dL_law__40 (by decide) (by decide) rfl (by decide) (lwc_30 h hv hc hs kk)
    · exact T.swIn (tgt := 2196) (off := 2156) dL_law__40 (by decide) (by decide) rfl (by decide) (lwc_31 h hv hc hs kk)
    · exact T.swIn (tgt := 2209) (off := 2169) dL_law__40 (by decide) (by decide) rfl (by decide) (lwc_32 h hv hc hs kk)
    · exact T.swIn (tgt := 2277) (off := 2237) dL_law__40 (by decide) (by decide) rfl (by decide) (lwc_33 h hv hc hs kk)
    · exact T.swIn (tgt := 2361) (off := 2321) dL_law__40 (by decide) (by decide) rfl (by decide) (lwc_34 h hv hc hs kk)
    · exact T.swIn (tgt := 2417) (off := 2377) dL_law__40 (by decide) (by decide) rfl (by decide) (lwc_35 h hv hc hs kk)
    · exact T.swIn (tgt := 2485) (off := 2445) dL_law__40 (by decide) (by decide) rfl (by decide) (lwc_36 h hv hc hs kk)
    · exact T.swIn (tgt := 2541) (off := 2501) dL_law__40 (by decide) (by decide) rfl (by decide) (lwc_37 h hv hc hs kk)
    · exact T.swIn (tgt := 2554) (off := 2514) dL_law__40 (by decide) (by decide) rfl (by decide) (lwc_38 h hv hc hs kk)
    · exact T.swIn (tgt := 2622) (off := 2582) dL_law__40 (by decide) (by decide) rfl (by decide) (lwc_39 h hv hc hs kk)
    · exact T.swIn (tgt := 2706) (off := 2666) dL_law__40 (by decide) (by decide) rfl (by decide) (lwc_40 h hv hc hs kk)
    · exact T.swIn (tgt := 2790) (off := 2750) dL_law__40 (by decide) (by decide) rfl (by decide) (lwc_41 h hv hc hs kk)
    · exact T.swIn (tgt := 2858) (off := 2818) dL_law__40 (by decide) (by decide) rfl (by decide) (lwc_42 h hv hc hs kk)
    · exact T.swIn (tgt := 2883) (off := 2843) dL_law__40 (by decide) (by decide) rfl (by decide) (lwc_43 h hv hc hs kk)
    · exact T.swIn (tgt := 2896) (off := 2856) dL_law__40 (by decide) (by decide) rfl (by decide) (lwc_44 h hv hc hs kk)
    · exact T.swIn (tgt := 2907) (off := 2867) dL_law__40 (by decide) (by decide) rfl (by decide) (lwc_45 h hv hc hs kk)
    · exact T.swIn (tgt := 2920) (off := 2880) dL_law__40 (by decide) (by decide) rfl (by decide) (lwc_46 h hv hc hs kk)
  · refine T.swOut (tgt := 2945) dL_law__40 (Or.inr ?_) (by decide) (TJ.wide (by omega) (by omega) (kk M h))
    rw [nI_toInt (by omega)]
    omega
theorem lw_loop {G : sk_G} {b L : Nat} {ys : Nat → Int32} (hL : L ≤ 3072) : ∀ (n k cells slots : Nat) (M : sk_M), Inv M → k ≤ 512 → k + n ≤ 512 → L ≤ 6 * (k + n) + 5 → cells + 8 * n ≤ 601024 → slots + 48 * n ≤ 7293033 → TJ G mL_law_ room_1 (lw_E G b L ys) cells slots 23 [some (.ref b), some (.ref (G.2.2.1 120)), some (.ref (G.2.2.1 140)), some (.ref (G.2.2.1 158)), some (.int (nI (6 * k))), none, none] [] M := by
  intro n
  induction n with
  | zero =>
    intro k cells slots M h hk hkn hLn hc hs
    refine T.ild_4 (q := 25) dL_law__23 rfl ?_
    refine T.ald_0 (q := 26) dL_law__25 rfl ?_
    refine T.slen dL_law__26 (q := 27) rfl ?_
    refine T.bipush (q := 29) (6) dL_law__27 rfl (by decide) ?_
    refine T.isub (q := 30) dL_law__29 rfl ?_
    refine T.ic_gt (tgt := 2951) (q := 33) dL_law__30 (by decide) rfl (fun _ => ?_) (fun hg => ?_)
    · refine T.iconst (q := 2952) (1) dL_law__2951 rfl (by decide) ?_
      exact T.lwret dL_law__2952 (by omega) (by omega)
    · have := lw_gt hL (by omega) hg
      omega
  | succ n ih =>
    intro k cells slots M h hk hkn hLn hc hs
    refine T.ild_4 (q := 25) dL_law__23 rfl ?_
    refine T.ald_0 (q := 26) dL_law__25 rfl ?_
    refine T.slen dL_law__26 (q := 27) rfl ?_
    refine T.bipush (q := 29) (6) dL_law__27 rfl (by decide) ?_
    refine T.isub (q := 30) dL_law__29 rfl ?_
    refine T.ic_gt (tgt := 2951) (q := 33) dL_law__30 (by decide) rfl (fun _ => ?_) (fun hg => ?_)
    · refine T.iconst (q := 2952) (1) dL_law__2951 rfl (by decide) ?_
      exact T.lwret dL_law__2952 (by omega) (by omega)
    · have h6 := lw_gt hL (by omega) hg
      have hv := lw_vs hL h6
      refine T.ald_0 (q := 34) dL_law__33 rfl ?_
      refine T.ild_4 (q := 36) dL_law__34 rfl ?_
      refine T.sld hv.1 rfl dL_law__36 (q := 37) rfl ?_
      refine T.bipush (q := 39) (63) dL_law__37 rfl (by decide) ?_
      refine T.iand (q := 40) dL_law__39 rfl ?_
      refine lw_sw h hv (by omega) (by omega) (fun M0 h0 => ?_)
      refine T.inc_4 (q := 2948) (6) dL_law__2945 rfl (by decide) (by decide) sk_ok_r ?_
      refine T.goto (tgt := 23) dL_law__2948 (by decide) ?_
      have e : nI (6 * k) + 6 = nI (6 * (k + 1)) := by
        have : nI (6 * k) + nI 6 = nI (6 * k + 6) := nI_add _ _
        exact this
      rw [e]
      exact ih (k + 1) (cells + 8) (slots + 48) M0 h0 (by omega) (by omega) (by omega) (by omega) (by omega)
