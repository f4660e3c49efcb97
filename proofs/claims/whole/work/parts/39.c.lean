/-! pair, fewest -/
theorem shP_sub {k : Nat → Int64} {set : Int32} {v w : Nat} : ∀ n i, lb (shP k set v w n) i = true → lb (kMask w) i = true
  | 0, i, h => h
  | n + 1, i, h => by
    rw [shP_last] at h
    by_cases q : (set >>> (nI n &&& 31)) &&& 1 = 1
    · rw [if_pos q, lb_and, Bool.and_eq_true] at h
      exact shP_sub n i h.1
    · rw [if_neg q] at h
      exact shP_sub n i h
theorem ctB_sub {p q : Nat → Bool} : ∀ n, (∀ k, k < n → p k = true → q k = true) → ctB p n ≤ ctB q n
  | 0, _ => Nat.le_refl 0
  | n + 1, h => by
    have ih := ctB_sub n (fun k hk => h k (by omega))
    simp only [ctB]
    by_cases z : p n = true
    · rw [if_pos z, if_pos (h n (by omega) z)]
      omega
    · rw [if_neg z]
      omega
theorem kM_ct : ctB (lb (kMask 0)) 64 = 64 ∧ ctB (lb (kMask 1)) 64 = 64 ∧ ctB (lb (kMask 2)) 64 = 64 ∧ ctB (lb (kMask 3)) 64 = 24 := by decide +kernel
theorem laP_le {k : Nat → Int64} {set : Int32} {v np : Nat} : ∃ n, n ≤ 216 ∧ laP k set v np 4 = nI n := by
  have b : ∀ w, ctB (lb (shP k set v w np)) 64 ≤ ctB (lb (kMask w)) 64 := fun w => ctB_sub 64 (fun i _ h => shP_sub np i h)
  have b0 := b 0
  have b1 := b 1
  have b2 := b 2
  have b3 := b 3
  rw [kM_ct.1] at b0
  rw [kM_ct.2.1] at b1
  rw [kM_ct.2.2.1] at b2
  rw [kM_ct.2.2.2] at b3
  refine ⟨ctB (lb (shP k set v 0 np)) 64 + ctB (lb (shP k set v 1 np)) 64 + ctB (lb (shP k set v 2 np)) 64 + ctB (lb (shP k set v 3 np)) 64, by omega, ?_⟩
  simp only [laP]
  rw [bc64_ct, bc64_ct, bc64_ct, bc64_ct, show (0 : Int32) = nI 0 from rfl, nI_add, nI_add, nI_add, nI_add, Nat.zero_add]
theorem shP_0 {k : Nat → Int64} {v w : Nat} : ∀ n, n ≤ 6 → shP k 0 v w n = kMask w
  | 0, _ => rfl
  | n + 1, h => by
    rw [shP_last, if_neg, shP_0 n (by omega)]
    rw [is_bit _ (by omega)]
    show ¬ (BitVec.getLsbD (0 : Int32).toBitVec n = true)
    simp
theorem laP_0 {k : Nat → Int64} {v np : Nat} (h : np ≤ 6) : laP k 0 v np 4 = 216 := by
  simp only [laP]
  rw [shP_0 np h, shP_0 np h, shP_0 np h, shP_0 np h]
  decide +kernel
/-- the best pair so far -/
def prI (g : Nat → Nat → Int32) (p : Nat) (st : Int32 × Int32) : Nat → Int32 × Int32
  | 0 => st
  | n + 1 => if g p (p + 1 + n) < (prI g p st n).2 then (nI (10 * p + (p + 1 + n)), g p (p + 1 + n)) else prI g p st n
def prO (g : Nat → Nat → Int32) (np : Nat) (l0 : Int32) : Nat → Int32 × Int32
  | 0 => (-1, l0)
  | p + 1 => prI g p (prO g np l0 p) (np - (p + 1))
def prR (s s' : Int32 × Int32) : Prop := s.1 = s'.1 ∧ (s.2 = s'.2 ∨ (s.2 = 217 ∧ s'.2 = 1000000))
theorem prI_R {g g' : Nat → Nat → Int32} {p np : Nat} {s s' : Int32 × Int32} (h : prR s s') : ∀ n, (∀ q, p < q → q < p + 1 + n → g p q = g' p q ∧ ∃ m, m ≤ 216 ∧ g p q = nI m) → prR (prI g p s n) (prI g' p s' n)
  | 0, _ => h
  | n + 1, hg => by
    have ih := prI_R (np := np) h n (fun q h1 h2 => hg q h1 (by omega))
    obtain ⟨e, m, hm, e2⟩ := hg (p + 1 + n) (by omega) (by omega)
    simp only [prI]
    rw [← e]
    rcases ih.2 with q | ⟨q1, q2⟩
    · rw [q]
      by_cases z : g p (p + 1 + n) < (prI g' p s' n).2
      · rw [if_pos z, if_pos z]
        exact ⟨rfl, Or.inl rfl⟩
      · rw [if_neg z, if_neg z]
        exact ih
    · have l1 : nI m < (217 : Int32) := nI_lt (a := m) (b := 217) (by omega) (by decide)
      have l2 : nI m < (1000000 : Int32) := nI_lt (a := m) (b := 1000000) (by omega) (by decide)
      rw [q1, q2, e2, if_pos l1, if_pos l2]
      exact ⟨rfl, Or.inl rfl⟩
theorem prO_R {g g' : Nat → Nat → Int32} {np : Nat} (hg : ∀ p q, p < np → q < np → g p q = g' p q ∧ ∃ m, m ≤ 216 ∧ g p q = nI m) : ∀ p, p ≤ np → prR (prO g np 217 p) (prO g' np 1000000 p)
  | 0, _ => ⟨rfl, Or.inr ⟨rfl, rfl⟩⟩
  | p + 1, h => prI_R (np := np) (prO_R hg p (by omega)) _ (fun q h1 h2 => hg p q (by omega) (by omega))
theorem st_pair {M : sk_M} (h : Inv M) (a : Int32) : StI Inv (fun Q X => w_X7_pair a M (fun r => Q r M) (fun e => X e M)) (w_X8_pair a) ["java/lang/IndexOutOfBoundsException"] := by
  unfold StI w_X7_pair
  obtain ⟨nv, np, nc, tx, dy, ch, lg, nr, op, hR⟩ := h.1.1
  obtain ⟨hN, hF, hW, hS, hV, hC, hL, hK, hT⟩ := id hR
  have n1 := hN.1
  have n2 := hN.2.1
  refine n7_V hF.1 n1 (fun v hv e => ?_) (fun hv => ⟨0, rfl, ?_⟩)
  · subst e
    let g7 : Nat → Nat → Int32 := fun p q => laP (M.2 9) (((1 : Int32) <<< (nI p &&& 31)) ||| ((1 : Int32) <<< (nI q &&& 31))) v np 4
    let g8 : Nat → Nat → Int32 := fun p q => laP (M.2 146) (((1 : Int32) <<< (nI p &&& 31)) ||| ((1 : Int32) <<< (nI q &&& 31))) v np 4
    have ten : ∀ p q, ((10 : Int32) * nI p) + nI q = nI (10 * p + q) := fun p q => by
      simp only [sk_lit, pk_mul, nI_add]
    refine lp_to (fun p => ((prO g7 np 217 p).1, (prO g7 np 217 p).2, nI p)) np (by unfold sk_F; omega) (fun p hp c hc => ?_) (fun c => ?_)
    · unfold w_X7_pair_L14
      rw [hF.2.1]
      refine i_t (nI_ge hp (by omega)) (sLet_i ?_)
      rw [show (nI p + 1 : Int32) = nI (p + 1 + 0) from nI_1 p]
      refine lp_to (fun n => ((prI g7 p (prO g7 np 217 p) n).1, (prI g7 p (prO g7 np 217 p) n).2, nI (p + 1 + n))) (np - (p + 1)) (by unfold sk_F; omega) (fun n hn c2 hc2 => ?_) (fun c2 => ?_)
      · unfold w_X7_pair_L32
        rw [hF.2.1]
        refine i_t (nI_ge (by omega) (by omega)) (c5_leftOfAll (by omega) (np := np) hF.2.1 n2 ?_)
        refine i_b (fun q => sLet_i ?_) (fun q => ?_)
        · show c2 (((10 : Int32) * nI p) + nI (p + 1 + n), g7 p (p + 1 + n), nI (p + 1 + n) + 1)
          rw [ten, nI_1]
          simp only [prI, if_pos (show g7 p (p + 1 + n) < _ from nlt_le.mp q)] at hc2
          exact hc2
        · show c2 (_, _, nI (p + 1 + n) + 1)
          rw [nI_1]
          simp only [prI, if_neg (show ¬ g7 p (p + 1 + n) < _ from fun z => q (nlt_le.mpr z))] at hc2
          exact hc2
      · unfold w_X7_pair_L32
        rw [hF.2.1, show p + 1 + (np - (p + 1)) = np by omega]
        exact i_f (nn (by omega)) hc
    · unfold w_X7_pair_L14
      rw [hF.2.1]
      refine i_f (nn (by omega)) ?_
      unfold w_X8_pair
      refine g8_V_y (nv := nv) hW.1 n1 hv ?_
      refine lp_to (fun p => ((prO g8 np 1000000 p).1, (prO g8 np 1000000 p).2, nI p)) np (by unfold sk_F; omega) (fun p hp c hc => ?_) (fun c => ?_)
      · unfold w_X8_pair_L29 f_X8_people
        rw [show (sk_si (sk_sl M 158 0 _) 140 0 0).1 141 1 = nI np from hW.2.1]
        refine i_t (nI_ge hp (by omega)) (sLet_i ?_)
        rw [show (nI p + 1 : Int32) = nI (p + 1 + 0) from nI_1 p]
        refine lp_to (fun n => ((prI g8 p (prO g8 np 1000000 p) n).1, (prI g8 p (prO g8 np 1000000 p) n).2, nI (p + 1 + n))) (np - (p + 1)) (by unfold sk_F; omega) (fun n hn c2 hc2 => ?_) (fun c2 => ?_)
        · unfold w_X8_pair_L44 f_X8_people
          rw [show (sk_si (sk_sl M 158 0 _) 140 0 0).1 141 1 = nI np from hW.2.1]
          refine i_t (nI_ge (by omega) (by omega)) (s8_leftBy (np := np) (by omega) hW.2.1 n2 ?_)
          refine i_b (fun q => ?_) (fun q => sLet_i ?_)
          · show c2 (_, _, nI (p + 1 + n) + 1)
            rw [nI_1]
            simp only [prI, if_neg (show ¬ g8 p (p + 1 + n) < _ from q)] at hc2
            exact hc2
          · show c2 (((10 : Int32) * nI p) + nI (p + 1 + n), g8 p (p + 1 + n), nI (p + 1 + n) + 1)
            rw [ten, nI_1]
            simp only [prI, if_pos (show g8 p (p + 1 + n) < _ from Classical.byContradiction q)] at hc2
            exact hc2
        · unfold w_X8_pair_L44 f_X8_people
          rw [show (sk_si (sk_sl M 158 0 _) 140 0 0).1 141 1 = nI np from hW.2.1, show p + 1 + (np - (p + 1)) = np by omega]
          exact i_f (nn (by omega)) hc
      · unfold w_X8_pair_L29 f_X8_people
        rw [show (sk_si (sk_sl M 158 0 _) 140 0 0).1 141 1 = nI np from hW.2.1]
        refine i_f (nn (by omega)) ?_
        have hr := prO_R (g := g7) (g' := g8) (np := np) (fun p q _ _ => ⟨hR.leftAll hv, laP_le⟩) np (Nat.le_refl _)
        exact due0 h hr.1
  · unfold w_X8_pair
    exact g8_V_n hW.1 n1 hv (dueX h rfl)
/-- the cheapest of those that will do, the least of equals -/
def lexB (pc : Nat → Nat) (P : Nat → Prop) (lo hi j : Nat) : Prop := lo ≤ j ∧ j < hi ∧ P j ∧ ∀ i, lo ≤ i → i < hi → P i → pc j < pc i ∨ (pc j = pc i ∧ j ≤ i)
theorem lexB_one {pc : Nat → Nat} {P : Nat → Prop} {lo hi j j' : Nat} (h : lexB pc P lo hi j) (h' : lexB pc P lo hi j') : j = j' := by
  have a := h.2.2.2 j' h'.1 h'.2.1 h'.2.2.1
  have b := h'.2.2.2 j h.1 h.2.1 h.2.2.1
  omega
/-- rising: the state after n -/
def lexU (pc : Nat → Nat) (P : Nat → Prop) (b0 c0 : Int32) (n : Nat) (b c : Int32) : Prop := (b = b0 ∧ c = c0 ∧ ∀ i, i < n → ¬ P i) ∨ ∃ j, b = nI j ∧ c = nI (pc j) ∧ lexB pc P 0 n j
theorem lexU_t {pc : Nat → Nat} {P : Nat → Prop} {b0 c0 b c : Int32} {n : Nat} (h : lexU pc P b0 c0 n b c) (hp : P n) (hc : nI (pc n) < c) (hb : ∀ i, i ≤ n → pc i < 100) : lexU pc P b0 c0 (n + 1) (nI n) (nI (pc n)) := by
  refine Or.inr ⟨n, rfl, rfl, Nat.zero_le _, by omega, hp, fun i _ hi hpi => ?_⟩
  rcases h with ⟨-, -, h⟩ | ⟨j, -, e, h⟩
  · rcases Nat.lt_succ_iff_lt_or_eq.mp hi with q | q
    · exact absurd hpi (h i q)
    · subst q; exact Or.inr ⟨rfl, Nat.le_refl _⟩
  · rw [e] at hc
    have hj := h.2.1
    have hlt : pc n < pc j := (nI_ltI (by have := hb n (by omega); omega) (by have := hb j (by omega); omega)).mp hc
    rcases Nat.lt_succ_iff_lt_or_eq.mp hi with q | q
    · have := h.2.2.2 i (Nat.zero_le _) q hpi
      omega
    · subst q; exact Or.inr ⟨rfl, Nat.le_refl _⟩
theorem lexU_f {pc : Nat → Nat} {P : Nat → Prop} {b0 c0 b c : Int32} {n : Nat} (h : lexU pc P b0 c0 n b c) (hq : ¬ (nI (pc n) < c ∧ P n)) (hb : ∀ i, i ≤ n → pc i < 100) (h0 : nI (pc n) < c0) : lexU pc P b0 c0 (n + 1) b c := by
  rcases h with ⟨e1, e2, h⟩ | ⟨j, e1, e2, h⟩
  · refine Or.inl ⟨e1, e2, fun i hi hpi => ?_⟩
    rcases Nat.lt_succ_iff_lt_or_eq.mp hi with q | q
    · exact h i q hpi
    · subst q
      exact hq ⟨by rw [e2]; exact h0, hpi⟩
  · refine Or.inr ⟨j, e1, e2, h.1, by have := h.2.1; omega, h.2.2.1, fun i _ hi hpi => ?_⟩
    rcases Nat.lt_succ_iff_lt_or_eq.mp hi with q | q
    · exact h.2.2.2 i (Nat.zero_le _) q hpi
    · subst q
      have hj := h.2.1
      have : ¬ pc i < pc j := fun z => hq ⟨by rw [e2]; exact nI_lt z (by have := hb j (by omega); omega), hpi⟩
      omega
/-- falling: the state when all from m on are seen; b0 at the start -/
def lexD (pc : Nat → Nat) (P : Nat → Prop) (b0 : Int32) (N m : Nat) (b : Int32) : Prop := (b = b0 ∧ ∀ i, m ≤ i → i < N → ¬ P i) ∨ ∃ j, b = nI j ∧ lexB pc P m N j
theorem lexD_t {pc : Nat → Nat} {P : Nat → Prop} {b0 b : Int32} {N m : Nat} (h : lexD pc P b0 N (m + 1) b) (hm : m < N) (hp : P m) (hc : ∀ j, lexB pc P (m + 1) N j → b = nI j → pc m ≤ pc j) : lexD pc P b0 N m (nI m) := by
  refine Or.inr ⟨m, rfl, Nat.le_refl _, hm, hp, fun i h1 h2 hpi => ?_⟩
  by_cases q : i = m
  · subst q; exact Or.inr ⟨rfl, Nat.le_refl _⟩
  · rcases h with ⟨-, h⟩ | ⟨j, e, h⟩
    · exact absurd hpi (h i (by omega) h2)
    · have a := hc j h e
      have b := h.2.2.2 i (by omega) h2 hpi
      omega
theorem lexD_f {pc : Nat → Nat} {P : Nat → Prop} {b0 b : Int32} {N m : Nat} (h : lexD pc P b0 N (m + 1) b) (hq : P m → ∃ j, b = nI j ∧ lexB pc P (m + 1) N j ∧ pc j < pc m) : lexD pc P b0 N m b := by
  rcases h with ⟨e, h⟩ | ⟨j, e, h⟩
  · by_cases hp : P m
    · obtain ⟨j, -, h2, -⟩ := hq hp
      exact absurd h2.2.2.1 (h j h2.1 h2.2.1)
    · refine Or.inl ⟨e, fun i h1 h2 hpi => ?_⟩
      by_cases q : i = m
      · subst q; exact hp hpi
      · exact h i (by omega) h2 hpi
  · by_cases hp : P m
    · obtain ⟨j', e', h2, hlt⟩ := hq hp
      refine Or.inr ⟨j', e', by have := h2.1; omega, h2.2.1, h2.2.2.1, fun i h3 h4 hpi => ?_⟩
      by_cases q : i = m
      · subst q; exact Or.inl hlt
      · exact h2.2.2.2 i (by omega) h4 hpi
    · refine Or.inr ⟨j, e, by have := h.1; omega, h.2.1, h.2.2.1, fun i h3 h4 hpi => ?_⟩
      by_cases q : i = m
      · subst q; exact absurd hpi hp
      · exact h.2.2.2 i (by omega) h4 hpi
