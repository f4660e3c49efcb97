/-! the Sieve's turningsNeeded -/
def wnF (M0 M : sk_M) : Prop := (∀ c, c ≠ 130 → c ≠ 133 → c ≠ 135 → c ≠ 136 → M.1 c = M0.1 c) ∧ M.2 = M0.2 ∧ ∀ k, k ≠ 9 → M.1 130 k = M0.1 130 k
theorem wnF.SV {M0 M : sk_M} {l : List Nat} (h : wnF M0 M) (v : SV M0 l) : SV M l := ⟨by rw [h.2.2 8 (by decide)]; exact v.1, v.2.1, fun i hi => by rw [h.1 131 (by decide) (by decide) (by decide) (by decide)]; exact v.2.2.1 i hi, fun c hc => by rw [h.1 132 (by decide) (by decide) (by decide) (by decide)]; exact v.2.2.2 c hc⟩
theorem wnF.toC {M M' : sk_M} (h : wnF M M') : scC M M' := ⟨fun c hc => h.1 c (by omega) (by omega) (by omega) (by omega), h.2.1, fun t => TB_c2 t (h.2.2 10 (by omega)) (h.1 134 (by omega) (by omega) (by omega) (by omega))⟩
theorem wnF.set {M0 M : sk_M} {i : Nat} {v : Int32} (h : wnF M0 M) : wnF M0 (sk_si M 136 i v) := ⟨fun c a b d e => by rw [si_c e]; exact h.1 c a b d e, by rw [si_2]; exact h.2.1, fun k hk => by rw [si_c (by decide)]; exact h.2.2 k hk⟩
theorem c4_needed {M : sk_M} {Q : Int32 → sk_M → Prop} {f : Nat → Int32} {S : Nat → Prop} {m K T : Nat} (hK : K = 6) (hT : T = 216) (h7 : M.1 7 = f) (hV : SV M (enl S 216)) (hm : (enl S 216).length = m) (m1 : 1 ≤ m) (m6 : m ≤ 6)
    (h : ∀ M', wnF M M' → Q (nI (Rn (fun i => (enl S 216).getD i 0) (alN f (enl S 216)) K T (2 ^ m) (2 ^ m - 1))) M') : w_X4_turningsNeeded M Q := by
  unfold w_X4_turningsNeeded
  have H := alN_H (f := f) (l := enl S 216)
  rw [hm] at H
  have v2 : ∀ i, i < m → (enl S 216).getD i 0 < 216 := fun i hi => (hV.2.2.1 i (by omega)).2
  have v3 : ∀ i j, i < m → j < m → (enl S 216).getD i 0 = (enl S 216).getD j 0 → i = j := fun i j hi hj e => enl_inj (by omega) (by omega) e
  have hA : ∀ t i, alN f (enl S 216) t i = bitsN (alP f t (enl S 216) i) m := fun t i => by unfold alN; rw [hm]
  have RGn := RG_n (K := K) (T := T) m6 hK hT H v2 v3
  have RGV := fun R n => RG_V (K := K) (T := T) (n := n) (R := R) m6 hK hT H v2 v3
  have NB := fun R nd n t cur => nb_rB (K := K) (R := R) (nd := nd) (n := n) (t := t) (cur := cur) m6 hK H
  have pm : 2 ≤ 2 ^ m := Nat.pow_le_pow_right (n := 2) (by decide) m1
  have pm6 : 2 ^ m ≤ 64 := Nat.pow_le_pow_right (n := 2) (by decide) m6
  rw [hV.1, hm]
  refine i_f (fun z => z (nI_le m6 (by decide))) ?_
  refine lp_inv (fun t s => s.1 = nI t ∧ wnF M s.2 ∧ ∀ t', t' < t → ∀ q, q < m → s.2.1 135 (6 * t' + q) = nI (alN f (enl S 216) t' q)) 216 (by decide) ⟨rfl, ⟨fun _ _ _ _ _ => rfl, rfl, fun _ _ => rfl⟩, fun t' ht' => absurd ht' (by omega)⟩ (fun t ht s c hI hc => ?_) (fun s c hI => ?_)
  · obtain ⟨s1, sM⟩ := s
    obtain ⟨rfl, i1, i2⟩ := hI
    dsimp only at i1 i2
    have e7 : sM.1 (0 + 7) = f := (i1.1 7 (by decide) (by decide) (by decide) (by decide)).trans h7
    unfold w_X4_turningsNeeded_L14
    refine i_t (nI_ge ht (by decide)) ?_
    unfold w_X4_compare
    refine ⟨vp_in_nI ht (by decide), enl S 216, ⟨i1.SV hV, by omega⟩, fun M9 cm => ?_⟩
    rw [nI_clamp (by omega)] at cm
    obtain ⟨c1, c2, c3, c4, c5⟩ := cm
    rw [e7, hm] at c4
    rw [nI_1]
    refine hc _ ⟨rfl, ⟨fun c a b d e => by rw [c1 c a b d]; exact i1.1 c a b d e, c2.trans i1.2.1, fun k hk => by rw [c3 k hk]; exact i1.2.2 k hk⟩, fun t' ht' q hq => ?_⟩
    dsimp only
    by_cases z : t' = t
    · rw [z, c4 q hq, bitsP_bN m (by omega), hA]
    · rw [c5 _ (by omega)]
      exact i2 t' (by omega) q hq
  obtain ⟨s1, sM⟩ := s
  obtain ⟨rfl, i1, i2⟩ := hI
  dsimp only at i1 i2
  generalize alN f (enl S 216) = al at H RGn RGV NB h i2
  unfold w_X4_turningsNeeded_L14
  refine i_f (nn (n := 216) (by decide)) ?_
  dsimp only
  have hV2 := i1.SV hV
  generalize hlk : (fun i => (enl S 216).getD i 0) = lk at H RGn RGV NB h
  rw [hV2.1, hm, one_N m (by omega), show (1 : Int32) = nI 1 from rfl, pk_sub (by omega)]
  refine sLet_i (sLet_i ?_)
  have st0 : (nI 1, sk_si sM 136 0 (0 : Int32)) = (nI (0 + 1), sk_si sM 136 0 (0 : Int32)) := rfl
  rw [st0]
  refine lp_inv (fun i s => s.1 = nI (i + 1) ∧ wnF M s.2 ∧ (∀ t', t' < 216 → ∀ q, q < m → s.2.1 135 (6 * t' + q) = nI (al t' q)) ∧ s.2.1 136 0 = 0 ∧ ∀ x, 1 ≤ x → x < i + 1 → s.2.1 136 x = nI (Rn lk al K T (i + 1) x)) (2 ^ m - 1) (Nat.lt_of_le_of_lt (Nat.sub_le _ _) (Nat.lt_of_le_of_lt pm6 (by decide))) ⟨rfl, i1.set, fun t' ht' q hq => by rw [si_c (by decide)]; exact i2 t' ht' q hq, by rw [rd_si, if_pos ⟨rfl, rfl⟩], fun x h1 h2 => absurd h2 (by omega)⟩ (fun i hi s c hI hc => ?_) (fun s c hI => ?_)
  · obtain ⟨s2, sN⟩ := s
    obtain ⟨rfl, j1, j2, j3, j4⟩ := hI
    dsimp only at j1 j2 j3 j4
    have n1 : 1 ≤ i + 1 := by omega
    have n2 : i + 1 < 2 ^ m := by omega
    have en : i + 1 + 1 = (i + 1) + 1 := rfl
    generalize i + 1 = n at n1 n2 j4 hc ⊢
    have n64 : n < 64 := by omega
    obtain ⟨pb, pe⟩ : bc32 (nI n) = nI (pcn n) ∧ pcn n ≤ 7 := ⟨(pcn_ok n (by omega)).1, (pcn_ok n (by omega)).2.1⟩
    have p6 := (pcn_one n n64 n1).2.2
    have G := RGn n (by omega)
    obtain ⟨V1, V2, V3⟩ := RGV (Rn lk al K T n) n G n1 n2
    have Vle : ∀ t, t < 216 → mnT lk al K (Rn lk al K T n) n T ≤ 1 + rB lk al (Rn lk al K T n) n t K := fun t ht => mnT_le T (by omega)
    have Vge : ∀ c, c ≤ 1000000 → (∀ t, t < 216 → c ≤ 1 + rB lk al (Rn lk al K T n) n t K) → c ≤ mnT lk al K (Rn lk al K T n) n T := fun c hc hh => mnT_ge hc T (fun t ht => hh t (by omega))
    have Vn : Rn lk al K T (n + 1) n = mnT lk al K (Rn lk al K T n) n T := Rn_at
    have Vx : ∀ x, x < n → Rn lk al K T (n + 1) x = Rn lk al K T n x := fun x hx => Rn_lt hx
    unfold w_X4_turningsNeeded_L50
    dsimp only
    refine i_t (nI_nlt (by omega) (by omega)) ⟨vp_in_nI n64 (by decide), sLet_i ?_⟩
    rw [nI_clamp (by omega), pb]
    generalize mnT lk al K (Rn lk al K T n) n T = V at V1 V2 V3 Vle Vge Vn
    generalize hR : Rn lk al K T n = R at G j4 Vle Vge Vx
    have fin : ∀ N : sk_M, wnF M N → (∀ t', t' < 216 → ∀ q, q < m → N.1 135 (6 * t' + q) = nI (al t' q)) → N.1 136 0 = 0 → (∀ x, 1 ≤ x → x < n → N.1 136 x = nI (R x)) → N.1 136 n = nI V → c (nI n + 1, N) := fun N a1 a2 a3 a4 a5 => by
      rw [nI_1]
      refine hc _ ⟨rfl, a1, a2, a3, fun x h1 h2 => ?_⟩
      dsimp only
      by_cases z : x = n
      · rw [z, a5, Vn]
      · rw [a4 x h1 (by omega), Vx x (by omega)]
    refine lp_inx (fun t s => s.1 = nI t ∧ wnF M s.2 ∧ (∀ t', t' < 216 → ∀ q, q < m → s.2.1 135 (6 * t' + q) = nI (al t' q)) ∧ s.2.1 136 0 = 0 ∧ (∀ x, 1 ≤ x → x < n → s.2.1 136 x = nI (R x)) ∧ ∃ cur, s.2.1 136 n = nI cur ∧ V ≤ cur ∧ cur ≤ pcn n ∧ ∀ t', t' < t → cur ≤ 1 + rB lk al R n t' K) 216 (by decide) ⟨rfl, j1.set, fun t' ht' q hq => by rw [si_c (by decide)]; exact j2 t' ht' q hq, by rw [rd_si, if_neg (fun z => by omega)]; exact j3, fun x h1 h2 => by rw [rd_si, if_neg (fun z => by omega)]; exact j4 x h1 h2, pcn n, by rw [rd_si, if_pos ⟨rfl, rfl⟩], V2, Nat.le_refl _, fun t' ht' => absurd ht' (by omega)⟩ (fun t ht s c2 hJ hc2 => ?_)
    obtain ⟨t1, tN⟩ := s
    obtain ⟨rfl, k1, k2, k3, k4, cur, k5, k6, k7, k8⟩ := hJ
    dsimp only at k1 k2 k3 k4 k5
    unfold w_X4_turningsNeeded_L67
    by_cases q : t < 216
    · refine i_t (nI_ge q (by decide)) ⟨vp_in_nI n64 (by decide), ?_⟩
      dsimp only
      rw [nI_clamp (by omega), k5]
      refine i_b (fun z => ⟨vp_in_nI n64 (by decide), ?_⟩) (fun z => ?_)
      · unfold w_X4_neededBehind
        rw [(k1.SV hV).1, hm, nI_clamp (n := t) (by omega), nI_clamp (n := n) (by omega), nI_clamp (n := m) (by omega)]
        refine ⟨vp_in_nI q (by decide), vp_in_nI n64 (by decide), vp_in_nI (by omega) (by decide), al t, fun x => if x = 0 then 0 else if x = n then cur else R x, ⟨fun i hi => k2 t q i hi, fun x hx => ?_⟩, ⟨vp_in_nI n64 (by decide), sLet_i ?_⟩⟩
        · by_cases y : x = 0
          · simp only [y, if_true]
            exact ⟨k3, by omega⟩
          · by_cases w : x = n
            · simp only [if_neg y, if_pos w]
              exact ⟨by rw [w]; exact k5, by omega⟩
            · simp only [if_neg y, if_neg w]
              have g := G x (by omega) (by omega)
              have := (pcn_one x (by omega) (by omega)).2.2
              exact ⟨k4 x (by omega) (by omega), by omega⟩
        · have nb := NB R (fun x => if x = 0 then 0 else if x = n then cur else R x) n t cur n2 rfl (by show (if n = 0 then _ else if n = n then _ else _) = _; rw [if_neg (by omega), if_pos rfl]) (fun x h1 h2 => by show (if x = 0 then _ else if x = n then _ else _) = _; rw [if_neg (by omega), if_neg (by omega)])
          have bd : nbP (fun x => if x = 0 then 0 else if x = n then cur else R x) (al t) n m ≤ 100 := nbP_le (fun x hx => by
            show (if x = 0 then _ else if x = n then _ else _) ≤ _
            by_cases y : x = 0
            · rw [if_pos y]; omega
            · by_cases w : x = n
              · rw [if_neg y, if_pos w]; omega
              · rw [if_neg y, if_neg w]
                have g := G x (by omega) (by omega)
                have := (pcn_one x (by omega) (by omega)).2.2
                omega) m
          generalize nbP (fun x => if x = 0 then 0 else if x = n then cur else R x) (al t) n m = v at nb bd ⊢
          rw [show (1 : Int32) + nI v = nI (1 + v) from nI_add 1 v, mnN (by omega) (by omega), nI_1]
          have Vt := Vle t q
          refine hc2 _ q ⟨rfl, k1.set, fun t' ht' q hq => by rw [si_c (by decide)]; exact k2 t' ht' q hq, by rw [rd_si, if_neg (fun z => by omega)]; exact k3, fun x h1 h2 => by rw [rd_si, if_neg (fun z => by omega)]; exact k4 x h1 h2, min cur (1 + v), by rw [rd_si, if_pos ⟨rfl, rfl⟩], ?_, by omega, fun t' ht' => ?_⟩
          · rcases nb with ⟨nb, _⟩ | nb
            · omega
            · rw [← nb] at Vt; omega
          · by_cases y : t' = t
            · rw [y]
              rcases nb with ⟨nb, nf⟩ | nb
              · omega
              · rw [← nb]; omega
            · have := k8 t' (by omega)
              omega
      · refine fin tN k1 k2 k3 k4 ?_
        have c2 : cur ≤ 2 := (nI_leI (b := 2) (by omega) (by decide)).mp (Classical.not_not.mp z)
        rw [k5]
        congr 1
        by_cases y : 2 ≤ pcn n
        · have := V3 y
          omega
        · omega
    · have e : t = 216 := by omega
      subst e
      refine i_f (nn (n := 216) (by decide)) ?_
      refine fin tN k1 k2 k3 k4 ?_
      have := Vge cur (by omega) k8
      rw [k5]
      congr 1
      omega
  · obtain ⟨s2, sN⟩ := s
    obtain ⟨rfl, j1, j2, j3, j4⟩ := hI
    dsimp only at j1 j2 j3 j4
    unfold w_X4_turningsNeeded_L50
    dsimp only
    rw [show 2 ^ m - 1 + 1 = 2 ^ m by omega] at j4 ⊢
    refine i_f (fun z => z (nI_lt (by omega) (by omega))) ⟨vp_in_nI (by omega) (by decide), ?_⟩
    rw [nI_clamp (by omega), j4 _ (by omega) (by omega)]
    exact h sN j1
