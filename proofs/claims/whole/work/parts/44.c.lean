/-! worst: the reference -/
theorem s8_worstBy {M : sk_M} {Q : Int32 → Prop} {cl : Nat → Int32} {l : List Nat} {R : Nat → Nat} {m K set t : Nat} (hK : K = 6) (hm : l.length = m) (m6 : m ≤ 6) (ht : t < 216) (hs1 : 1 ≤ set) (hs : set < 2 ^ m) (hl : ∀ i, i < m → l.getD i 0 < 216) (hcl : ∀ i, i < 108 → M.1 154 i = cl i) (hf : ∀ i, i < m → M.1 156 i = nI (l.getD i 0)) (hR : ∀ x, 1 ≤ x → x < set → M.1 157 x = nI (R x) ∧ R x ≤ 1000000)
    (h : Q (nI (rB (fun i => l.getD i 0) (alN cl l) R set t K))) : w_X8_worstBy (nI set) (nI t) M Q := by
  have H := alN_H (f := cl) (l := l)
  rw [hm] at H
  have hA : ∀ t i j, (alN cl l t i).testBit j = true ↔ j < m ∧ alP cl t l i j := fun t i j => by unfold alN; rw [hm]; exact bitsN_tb m
  have s64 := p64 m6 hs
  have far : ∀ i, rB (fun i => l.getD i 0) (alN cl l) R set t i ≤ 1000000 := fun i => rB_le i (fun k _ hk hlk => by
    obtain ⟨q1, q2⟩ := part_in H hs hk hlk
    by_cases z : alN cl l t k &&& set = set
    · rw [if_pos z]; exact Nat.le_refl _
    · rw [if_neg z]; exact (hR _ q1 (by omega)).2)
  unfold w_X8_worstBy
  generalize hal : alN cl l = al at H hA far h
  have e0 : ((0 : Int32), (0 : Int32)) = (nI (rB (fun i => l.getD i 0) al R set t 0), nI 0) := rfl
  rw [e0]
  refine lp_to (fun k => (nI (rB (fun i => l.getD i 0) al R set t k), nI k)) K (by rw [hK]; decide) (fun k hk c hc => ?_) (fun c => ?_)
  · unfold w_X8_worstBy_L5
    refine i_t (nI_ge (b := 6) (by omega) (by decide)) ?_
    dsimp only
    rw [has_N, bI_cg (hasB_tb (by omega) (by omega)), nI_1]
    simp only [rB] at hc
    refine i_b (fun z => ?_) (fun z => ?_)
    · have hb := bI_n.mp z
      have km := tb_lt hs hb
      refine ⟨vp_in_nI (by omega) (by decide), ?_⟩
      rw [nI_clamp (by omega), hf k km]
      have lk := hl k km
      refine i_b (fun y => ?_) (fun y => ?_)
      · rw [if_neg (fun w => w.2 ((nI_eq (by omega) (by omega)).mp y))] at hc
        exact hc
      · have yk : l.getD k 0 ≠ t := fun w => y (by rw [w])
        rw [if_pos ⟨hb, yk⟩] at hc
        obtain ⟨q1, q2⟩ := part_in H hs hb yk
        have fk := far k
        generalize rB (fun i => l.getD i 0) al R set t k = b at hc fk ⊢
        have ep : bitsN (fun o => set.testBit o = true ∧ alP cl t l k o) 6 = al t k &&& set := by
          apply Nat.eq_of_testBit_eq
          intro j
          refine Bool.eq_iff_iff.mpr ?_
          rw [bitsN_tb, Nat.testBit_and, Bool.and_eq_true, hA]
          constructor
          · rintro ⟨_, a1, a2⟩
            exact ⟨⟨tb_lt hs a1, a2⟩, a1⟩
          · rintro ⟨⟨a0, a2⟩, a1⟩
            exact ⟨by omega, a1, a2⟩
        have e1 : ((0 : Int32), (0 : Int32)) = (nI (bitsN (fun o => set.testBit o = true ∧ alP cl t l k o) 0), nI 0) := rfl
        rw [e1]
        have fin : ∀ x : Nat, x = al t k &&& set → (if (nI x = nI set) then (sLet (mxI (nI b) (1000000 : Int32)) fun y137 => c (y137, nI (k + 1))) else (vp_in (nI x) 64 ∧ sLet (mxI (nI b) (M.1 157 (nI x).toNatClampNeg)) fun y137 => c (y137, nI (k + 1)))) := fun x ex => by
          subst ex
          by_cases w : al t k &&& set = set
          · rw [if_pos w] at hc
            refine i_t (by rw [w]) (sLet_i ?_)
            rw [show (1000000 : Int32) = nI 1000000 from rfl, mxN (by omega) (by omega)]
            exact hc
          · rw [if_neg w] at hc
            refine i_f (fun u => w ((nI_eq (by omega) (by omega)).mp u)) ⟨vp_in_nI (by omega) (by decide), sLet_i ?_⟩
            obtain ⟨r1, r2⟩ := hR _ q1 (by omega)
            rw [nI_clamp (by omega), r1, mxN (by omega) (by omega)]
            exact hc
        obtain ⟨six, h6⟩ : ∃ six, six = 6 := ⟨6, rfl⟩
        rw [← h6] at ep
        refine lp_to (fun o => (nI (bitsN (fun o => set.testBit o = true ∧ alP cl t l k o) o), nI o)) six (by rw [h6]; decide) (fun o ho c2 hc2 => ?_) (fun c2 => ?_)
        · unfold w_X8_worstBy_L41
          refine i_t (nI_ge (b := 6) (by omega) (by decide)) ?_
          dsimp only
          rw [has_N, bI_cg (hasB_tb (by omega) (by omega)), nI_1]
          have skip : ¬ (set.testBit o = true ∧ alP cl t l k o) → sLet (nI (bitsN (fun o => set.testBit o = true ∧ alP cl t l k o) o) ||| (0 : Int32)) fun y106 => c2 (y106, nI (o + 1)) := fun w => by
            rw [bitsN_f w] at hc2
            refine sLet_i ?_
            rw [or0I]
            exact hc2
          refine i_b (fun u => ?_) (fun u => skip (fun w => u (bI_n.mpr w.1)))
          have ob := bI_n.mp u
          have om := tb_lt hs ob
          refine ⟨vp_in_nI (by omega) (by decide), ?_⟩
          rw [nI_clamp (by omega), hf o om]
          have lo := hl o om
          refine i_b (fun w => ⟨vp_in_nI (by omega) (by decide), ?_⟩) (fun w => skip (fun v => v.2.2.1 ((nI_eq (by omega) (by omega)).mp (Classical.not_not.mp w))))
          have lw : l.getD o 0 ≠ t := fun v => w (by rw [v])
          refine s8_soundOf ht lo ⟨vp_in_nI (by omega) (by decide), ?_⟩
          rw [nI_clamp (by omega), hf k km]
          refine s8_soundOf ht lk ?_
          rw [sndC_cg hcl ht lo, sndC_cg hcl ht lk]
          refine i_b (fun v => ?_) (fun v => skip (fun x => v ?_))
          · have hp : set.testBit o = true ∧ alP cl t l k o := ⟨ob, yk, lw, by unfold slt; rw [v]⟩
            rw [bitsN_t hp, bN_or] at hc2
            refine sLet_i ?_
            rw [set_N (by omega)]
            exact hc2
          · have x1 := x.2.2.2
            unfold slt at x1
            have x2 := congrArg (fun x => x - 3564) x1
            rwa [Int32.add_sub_cancel, Int32.add_sub_cancel] at x2
        · unfold w_X8_worstBy_L41
          dsimp only
          refine i_f (fun z => z (nI_le (a := 6) (by omega) (by omega))) ?_
          exact fin _ ep
    · rw [if_neg (fun w => z (bI_n.mpr w.1))] at hc
      exact hc
  · unfold w_X8_worstBy_L5
    dsimp only
    refine i_f (fun z => z (nI_le (a := 6) (by omega) (by omega))) ?_
    exact h
theorem st_worst {M : sk_M} (h : Inv M) (a b : Int32) : StI Inv (fun Q X => w_X7_worst a b M Q X) (w_X8_worst a b) ["java/lang/IndexOutOfBoundsException"] := by
  unfold StI w_X7_worst
  obtain ⟨nv, np, nc, tx, dy, ch, lg, nr, op, hR⟩ := h.1.1
  obtain ⟨hN, hF, hW, hS, hV, hC, hL, hK, hT⟩ := id hR
  have hLw := h.1.2
  have n1 := hN.1
  have n2 := hN.2.1
  have no : ¬ vp_in a np ∨ ¬ vp_in b nv → w_X8_worst a b M (fun _ M2 => M2.1 140 0 = nI (0 + 1) ∧ Inv M2) := by
    intro q
    unfold w_X8_worst
    refine sLet_i (sLet_i (gN (if_pos ?_) (dueX h rfl)))
    by_cases hp : vp_in a np
    · rw [noV_nt hW.1 n1 (q.resolve_left (fun x => x hp))]
      exact Or.inr (by decide)
    · rw [noP_nt hW.2.1 n2 hp]
      exact Or.inl (by decide)
  refine n7_PV hF.2.1 hF.1 n2 n1 (fun p v hp hv e e' => ?_) (fun q => ⟨0, rfl, no q⟩)
  subst e e'
  obtain ⟨u, hu, eF, eW⟩ := (hV v hv).1
  have hk0 := hT p hp v hv
  rw [eW, nI_clamp (by omega)] at hk0
  refine c4_load (by omega) (by omega) (fun M1 s1 l1 => ?_)
  rw [hR.lfts hp hv] at l1
  have lft0 : leftP (M.2 146) (4 * (6 * p + v)) 4 = nI (lft (M.2 146) p v).length := left_enl hk0.1
  unfold lft at l1 lft0
  generalize hSS : kbit (M.2 146) (4 * (6 * p + v)) = S at l1 lft0 hk0
  have sc := s1.toC
  have hI := h.scC sc
  have len := enl_len S 216
  have m1 : 1 ≤ (enl S 216).length := by
    have : u ∈ enl S 216 := (enl_mem 216).mpr ⟨hu, hk0.2⟩
    exact List.length_pos_of_mem this
  have l7 : M1.1 7 = M.1 7 := sc.1 7 (by omega)
  have run : ∀ (M2 : sk_M) (x : Int32), scC M M2 → (¬ (enl S 216).length ≤ 6 → x = -3) → (∀ K T, K = 6 → T = 216 → (enl S 216).length ≤ 6 → x = nI (Rn (fun i => (enl S 216).getD i 0) (alN (M.1 7) (enl S 216)) K T (2 ^ (enl S 216).length) (2 ^ (enl S 216).length - 1))) → w_X8_worst (nI p) (nI v) (sk_sl M2 158 0 x.toInt64) (fun b M2 => M2.1 140 0 = 0 ∧ M2.2 158 0 = b.toInt64 ∧ Inv M2) := by
    intro M2 x sc2 hx0 hx
    have hI2 := h.scC sc2
    have w1 : M2.1 141 = M.1 141 := sc2.1 141 (by omega)
    have k1 : M2.2 = M.2 := sc2.2.1
    unfold w_X8_worst
    refine sLet_i (sLet_i (gY (if_neg ?_) ?_))
    · rw [noP_yt (M := sk_sl M2 158 0 x.toInt64) (n := np) (by show M2.1 141 1 = _; rw [w1]; exact hW.2.1) n2 (vp_in_nI hp (by omega)), noV_yt (M := sk_sl M2 158 0 x.toInt64) (n := nv) (by show M2.1 141 0 = _; rw [w1]; exact hW.1) n1 (vp_in_nI hv (by omega))]
      decide
    refine s8_leftOf (by omega) (by omega) ?_
    have ek : (sk_si (sk_sl M2 158 0 x.toInt64) 140 0 0).2 146 = M.2 146 := by show (sk_sl M2 158 0 x.toInt64).2 146 = _; rw [sl_c (by omega), k1]
    rw [ek, lft0]
    refine i_b (fun z => ?_) (fun z => ?_)
    · have z1 : ¬ (enl S 216).length ≤ 6 := fun w => z (nI_le w (by decide))
      exact due0 hI2 (hx0 z1)
    · have m6 : (enl S 216).length ≤ 6 := (nI_leI (b := 6) (by omega) (by decide)).mp (Classical.not_not.mp z)
      refine s8_laysClicks (cl := M.1 7) (by show clkS (M2.1 141) _; rw [w1]; exact hLw.2.1) (fun M3 l3 => ?_)
      obtain ⟨r1, r2⟩ := l3.sc0
      have e3 : M3.2 146 = M.2 146 := by rw [l3.2.1]; exact ek
      obtain ⟨K, hK6⟩ : ∃ K, K = 6 := ⟨6, rfl⟩
      obtain ⟨T, hT6⟩ : ∃ T, T = 216 := ⟨216, rfl⟩
      have ex := hx K T hK6 hT6 m6
      have vl : ∀ i, i < (enl S 216).length → (enl S 216).getD i 0 < 216 := fun i hi => (l1.2.2.1 i hi).2
      have v3 : ∀ i j, i < (enl S 216).length → j < (enl S 216).length → (enl S 216).getD i 0 = (enl S 216).getD j 0 → i = j := fun i j hi hj e => enl_inj hi hj e
      refine lp_inv (fun i s => s.1 = nI (enl S i).length ∧ s.2.1 = nI i ∧ (∀ c, c ≠ 156 → s.2.2.1 c = M3.1 c) ∧ s.2.2.2 = M3.2 ∧ ∀ j, j < (enl S i).length → s.2.2.1 156 j = nI ((enl S i).getD j 0)) 216 (by decide) ⟨rfl, rfl, fun _ _ => rfl, rfl, fun j hj => absurd hj (by simp [enl])⟩ (fun i hi s c hJ hc => ?_) (fun s c hJ => ?_)
      · obtain ⟨a1, a2, sM⟩ := s
        obtain ⟨rfl, rfl, j1, j2, j3⟩ := hJ
        dsimp only at j1 j2 j3
        unfold w_X8_worst_L62
        refine i_t (nI_ge hi (by decide)) (s8_canBe (by omega) (by omega) hi ?_)
        have es : kbit (sM.2 146) (4 * (6 * p + v)) = S := by rw [j2, e3, hSS]
        dsimp only
        rw [es, nI_1]
        refine i_b (fun y => ?_) (fun y => ?_)
        · have y1 := bI_z.mp y
          refine hc _ ⟨by rw [enl_f y1], rfl, j1, j2, by rw [enl_f y1]; exact j3⟩
        · have y1 := bI_n.mp y
          have mono := enl_len_mono (S := S) (m := i + 1) (216 - (i + 1))
          rw [show i + 1 + (216 - (i + 1)) = 216 by omega, enl_t y1, List.length_append] at mono
          have mono' : (enl S i).length + 1 ≤ (enl S 216).length := mono
          refine ⟨vp_in_nI (by omega) (by decide), sLet_i ?_⟩
          rw [nI_clamp (by omega), nI_1]
          refine hc _ ⟨by rw [enl_t y1, List.length_append]; rfl, rfl, fun c hc => by rw [si_c hc]; exact j1 c hc, by rw [si_2]; exact j2, fun j hj => ?_⟩
          rw [enl_t y1] at hj ⊢
          rw [List.length_append] at hj
          have hj' : j < (enl S i).length + 1 := hj
          dsimp only
          by_cases w : j = (enl S i).length
          · rw [rd_si, if_pos ⟨rfl, w⟩, w, getD_a2]
          · rw [rd_si, if_neg (fun y => w y.2), getD_a1 (by omega)]
            exact j3 j (by omega)
      · obtain ⟨a1, a2, sM⟩ := s
        obtain ⟨rfl, rfl, j1, j2, j3⟩ := hJ
        dsimp only at j1 j2 j3
        unfold w_X8_worst_L62
        refine i_f (nn (n := 216) (by decide)) ?_
        dsimp only
        have H := alN_H (f := M.1 7) (l := enl S 216)
        have RGn := RG_n (K := K) (T := T) m6 hK6 hT6 H vl v3
        have WB := fun (N : sk_M) (Q : Int32 → Prop) (R : Nat → Nat) (set t : Nat) => s8_worstBy (M := N) (Q := Q) (cl := M.1 7) (l := enl S 216) (R := R) (set := set) (t := t) hK6 rfl m6
        have far := fun R set => mnT_far (lk := fun i => (enl S 216).getD i 0) (al := alN (M.1 7) (enl S 216)) (K := K) (R := R) (set := set)
        generalize alN (M.1 7) (enl S 216) = al at ex H RGn WB far
        have pm : 2 ≤ 2 ^ (enl S 216).length := Nat.pow_le_pow_right (n := 2) (by decide) m1
        have pm6 : 2 ^ (enl S 216).length ≤ 64 := Nat.pow_le_pow_right (n := 2) (by decide) m6
        generalize hm : (enl S 216).length = m at ex m6 m1 vl v3 H RGn WB far pm pm6 j3
        rw [one_N m (by omega)]
        have scw : ∀ N : sk_M, (∀ c, c ≠ 156 → c ≠ 157 → N.1 c = M3.1 c) → N.2 = M3.2 → scR M3 N := fun N a1 a2 => ⟨fun c hc => a1 c (by omega) (by omega), fun k _ => by rw [a1 140 (by omega) (by omega)], fun c _ => by rw [a2], fun hz i hi => by rw [a1 155 (by omega) (by omega)]; exact hz i hi⟩
        have st0 : ((1 : Int32), sM) = (nI (0 + 1), sM) := rfl
        rw [st0]
        refine lp_inv (fun i s => s.1 = nI (i + 1) ∧ (∀ c, c ≠ 157 → s.2.1 c = sM.1 c) ∧ s.2.2 = sM.2 ∧ ∀ x, 1 ≤ x → x < i + 1 → s.2.1 157 x = nI (Rn (fun i => (enl S 216).getD i 0) al K T (i + 1) x)) (2 ^ m - 1) (Nat.lt_of_le_of_lt (Nat.sub_le _ _) (Nat.lt_of_le_of_lt pm6 (by decide))) ⟨rfl, fun _ _ => rfl, rfl, fun x h1 h2 => absurd h2 (by omega)⟩ (fun i hi s c hJ hc => ?_) (fun s c hJ => ?_)
        · obtain ⟨b1, sN⟩ := s
          obtain ⟨rfl, q1, q2, q3⟩ := hJ
          dsimp only at q1 q2 q3
          have g1 : 1 ≤ i + 1 := by omega
          have g2 : i + 1 < 2 ^ m := by omega
          generalize i + 1 = n at g1 g2 q3 hc ⊢
          have n64 : n < 64 := by omega
          have G := RGn n (by omega)
          have Vn : Rn (fun i => (enl S 216).getD i 0) al K T (n + 1) n = mnT (fun i => (enl S 216).getD i 0) al K (Rn (fun i => (enl S 216).getD i 0) al K T n) n T := Rn_at
          have Vx : ∀ x, x < n → Rn (fun i => (enl S 216).getD i 0) al K T (n + 1) x = Rn (fun i => (enl S 216).getD i 0) al K T n x := fun x hx => Rn_lt hx
          generalize Rn (fun i => (enl S 216).getD i 0) al K T n = R at G q3 Vn Vx
          unfold w_X8_worst_L105
          dsimp only
          rw [one_N m (by omega)]
          refine i_t (nI_ge g2 (by omega)) ⟨vp_in_nI n64 (by decide), sLet_i ?_⟩
          rw [nI_clamp (by omega)]
          have mn0 : (1000000 : Int32) = nI (mnT (fun i => (enl S 216).getD i 0) al K R n 0) := rfl
          rw [mn0]
          refine lp_inv (fun t s => s.1 = nI t ∧ (∀ c, c ≠ 157 → s.2.1 c = sM.1 c) ∧ s.2.2 = sM.2 ∧ (∀ x, 1 ≤ x → x < n → s.2.1 157 x = nI (R x)) ∧ s.2.1 157 n = nI (mnT (fun i => (enl S 216).getD i 0) al K R n t)) T (by rw [hT6]; decide) ⟨rfl, fun c hc => by rw [si_c hc]; exact q1 c hc, by rw [si_2]; exact q2, fun x h1 h2 => by rw [rd_si, if_neg (fun z => by omega)]; exact q3 x h1 h2, by rw [rd_si, if_pos ⟨rfl, rfl⟩]⟩ (fun t ht s c2 hJ hc2 => ?_) (fun s c2 hJ => ?_)
          · obtain ⟨d1, tN⟩ := s
            obtain ⟨rfl, t1, t2, t3, t4⟩ := hJ
            dsimp only at t1 t2 t3 t4
            unfold w_X8_worst_L126
            refine i_t (nI_ge (b := 216) (by omega) (by decide)) ⟨vp_in_nI n64 (by decide), ?_⟩
            dsimp only
            refine WB tN _ R n t (by omega) g1 g2 vl (fun k hk => by rw [t1 154 (by omega), j1 154 (by omega)]; exact l3.2.2 k hk) (fun k hk => by rw [t1 156 (by omega)]; exact j3 k hk) (fun x h1 h2 => ⟨t3 x h1 h2, ?_⟩) ⟨vp_in_nI n64 (by decide), sLet_i ?_⟩
            · have := (G x h1 h2).2.1
              have := (pcn_one x (by omega) h1).2.2
              omega
            · have fr := far R n t
              have br : rB (fun i => (enl S 216).getD i 0) al R n t K ≤ 1000000 := rB_le K (fun k _ hk hlk => by
                obtain ⟨y1, y2⟩ := part_in H g2 hk hlk
                by_cases z : al t k &&& n = n
                · rw [if_pos z]; exact Nat.le_refl _
                · rw [if_neg z]
                  have := (G _ y1 (by omega)).2.1
                  have := (pcn_one (al t k &&& n) (by omega) y1).2.2
                  omega)
              rw [nI_clamp (by omega), t4, show (1 : Int32) + nI (rB (fun i => (enl S 216).getD i 0) al R n t K) = nI (1 + rB (fun i => (enl S 216).getD i 0) al R n t K) from nI_add 1 _, mnN (by omega) (by omega), nI_1]
              refine hc2 _ ⟨rfl, fun c hc => by rw [si_c hc]; exact t1 c hc, by rw [si_2]; exact t2, fun x h1 h2 => by rw [rd_si, if_neg (fun z => by omega)]; exact t3 x h1 h2, ?_⟩
              rw [rd_si, if_pos ⟨rfl, rfl⟩]
              simp only [mnT]
          · obtain ⟨d1, tN⟩ := s
            obtain ⟨rfl, t1, t2, t3, t4⟩ := hJ
            dsimp only at t1 t2 t3 t4
            unfold w_X8_worst_L126
            dsimp only
            refine i_f (fun z => z (nI_le (a := 216) (by omega) (by omega))) ?_
            rw [nI_1]
            refine hc _ ⟨rfl, t1, t2, fun x h1 h2 => ?_⟩
            dsimp only
            by_cases z : x = n
            · rw [z, t4, Vn]
            · rw [t3 x h1 (by omega), Vx x (by omega)]
        · obtain ⟨b1, sN⟩ := s
          obtain ⟨rfl, q1, q2, q3⟩ := hJ
          dsimp only at q1 q2 q3
          unfold w_X8_worst_L105
          dsimp only
          rw [one_N m (by omega)]
          rw [show 2 ^ m - 1 + 1 = 2 ^ m by omega] at q3 ⊢
          refine i_f (nn (n := 2 ^ m) (by omega)) ?_
          rw [show nI (2 ^ m) - (1 : Int32) = nI (2 ^ m - 1) from pk_sub (a := 2 ^ m) (b := 1) (by omega)]
          refine ⟨vp_in_nI (by omega) (by decide), ?_⟩
          rw [nI_clamp (by omega), q3 _ (by omega) (by omega)]
          refine due hI2 (r1.trans (scw sN (fun c a1 a2 => (q1 c a2).trans (j1 c a1)) (q2.trans j2))) ?_ ex
          rw [q1 140 (by omega), j1 140 (by omega)]
          exact r2
  by_cases z : (enl S 216).length ≤ 6
  · obtain ⟨K, hK6⟩ : ∃ K, K = 6 := ⟨6, rfl⟩
    obtain ⟨T, hT6⟩ : ∃ T, T = 216 := ⟨216, rfl⟩
    refine c4_needed (f := M.1 7) (S := S) (K := K) (T := T) hK6 hT6 l7 l1 rfl m1 z (fun M2 w2 => ?_)
    refine run M2 _ (sc.trans w2.toC) (fun y => absurd z y) (fun K' T' k' t' _ => ?_)
    rw [hK6, hT6, k', t']
  · unfold w_X4_turningsNeeded
    rw [l1.1]
    refine i_t (fun y => z ((nI_leI (b := 6) (by omega) (by decide)).mp y)) ?_
    exact run M1 _ sc (fun _ => rfl) (fun _ _ _ _ y => absurd y z)
