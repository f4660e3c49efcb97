/-! the codes that are left: code, wheel -/
theorem TB_c2 {M M' : sk_M} (h : TB M) (h1 : M'.1 130 10 = M.1 130 10) (h2 : M'.1 134 = M.1 134) : TB M' := by
  obtain ⟨fl, n, a, b, c⟩ := h
  exact ⟨fl, n, by rw [h1]; exact a, b, by rw [h2]; exact c⟩
theorem svF.toC {M M' : sk_M} (h : svF M M') : scC M M' := ⟨fun c hc => h.1 c (by omega) (by omega) (by omega), h.2.1, fun t => TB_c2 t (h.2.2 10 (by omega)) (h.1 134 (by omega) (by omega) (by omega))⟩
theorem swF.toC {M M' : sk_M} (h : swF M M') (ht : TB M') : scC M M' := ⟨fun c hc => h.1 c (by omega) (by omega) (by omega), h.2.1, fun _ => ht⟩
theorem enl_cg {S S' : Nat → Prop} : ∀ n, (∀ c, c < n → (S c ↔ S' c)) → enl S n = enl S' n
  | 0, _ => rfl
  | n + 1, h => by
    have ih := enl_cg n (fun c hc => h c (by omega))
    by_cases q : S n
    · rw [enl_t q, enl_t ((h n (by omega)).mp q), ih]
    · rw [enl_f q, enl_f (fun z => q ((h n (by omega)).mpr z)), ih]
/-- the list of the codes that can still be -/
noncomputable def lft (K : Nat → Int64) (p v : Nat) : List Nat := enl (kbit K (4 * (6 * p + v))) 216
theorem Rel.lfts {F : Nat → Nat → Int32} {KF : Nat → Int64} {W : Nat → Int32} {K : Nat → Int64} {nv np nc tx dy ch lg nr op : Nat} (h : Rel F KF W K nv np nc tx dy ch lg nr op) {p v : Nat} (hp : p < np) (hv : v < nv) : lft KF p v = lft K p v := by
  refine enl_cg 216 (fun c hc => ?_)
  unfold kbit
  rw [h.2.2.2.2.2.2.2.1.1 p hp v hv (c / 64) (by omega)]
theorem c4_load {M : sk_M} {Q : sk_M → Prop} {p v : Nat} (hp : p < 6) (hv : v < 6) (h : ∀ M', svF M M' → SV M' (lft (M.2 9) p v) → Q M') : w_X4_load (nI p) (nI v) M Q := by
  unfold w_X4_load
  refine ⟨vp_in_nI hp (by decide), vp_in_nI hv (by decide), fun M9 h9 => ?_⟩
  rw [nI_clamp (by omega), nI_clamp (by omega)] at h9
  exact h M9 h9.1 h9.2
theorem enl_len_mono {S : Nat → Prop} {m : Nat} : ∀ n, (enl S m).length ≤ (enl S (m + n)).length
  | 0 => Nat.le_refl _
  | n + 1 => by
    have ih := enl_len_mono (S := S) (m := m) n
    rw [← Nat.add_assoc]
    by_cases q : S (m + n)
    · rw [enl_t q, List.length_append]
      omega
    · rw [enl_f q]
      exact ih
/-- the k-th of them -/
theorem enl_kth {S : Nat → Prop} {k : Nat} : ∀ n, k < (enl S n).length → ∃ c, c < n ∧ S c ∧ (enl S c).length = k ∧ (enl S n).getD k 0 = c
  | 0, h => absurd h (by simp [enl])
  | n + 1, h => by
    by_cases q : S n
    · rw [enl_t q] at h ⊢
      by_cases z : k < (enl S n).length
      · obtain ⟨c, h1, h2, h3, h4⟩ := enl_kth n z
        exact ⟨c, by omega, h2, h3, by rw [getD_a1 z]; exact h4⟩
      · rw [List.length_append, List.length_singleton] at h
        have e : k = (enl S n).length := by omega
        refine ⟨n, by omega, q, e.symm, ?_⟩
        rw [e, getD_a2]
    · rw [enl_f q] at h ⊢
      obtain ⟨c, h1, h2, h3, h4⟩ := enl_kth n h
      exact ⟨c, by omega, h2, h3, h4⟩
theorem st_code {M : sk_M} (h : Inv M) (a b d : Int32) : StI Inv (fun Q X => w_X7_code a b d M Q X) (w_X8_code a b d) ["java/lang/IndexOutOfBoundsException"] := by
  unfold StI w_X7_code
  obtain ⟨nv, np, nc, tx, dy, ch, lg, nr, op, hR⟩ := h.1.1
  obtain ⟨hN, hF, hW, hS, hV, hC, hL, hK, hT⟩ := id hR
  have n1 := hN.1
  have n2 := hN.2.1
  refine n7_PV hF.2.1 hF.1 n2 n1 (fun p v hp hv e e' => ?_) (fun q => ⟨0, rfl, ?_⟩)
  · subst e e'
    refine c4_load (by omega) (by omega) (fun M1 s1 l1 => ?_)
    rw [hR.lfts hp hv] at l1
    obtain ⟨l2, l3, l4, l5⟩ := l1
    have sc := s1.toC
    have hI := h.scC sc
    have w1 : M1.1 141 = M.1 141 := sc.1 141 (by omega)
    have k1 : M1.2 = M.2 := sc.2.1
    -- the reference, up to the code found, or to the end
    have run : ∀ (x : Int32) (m : Nat), m ≤ 216 → (∀ c, c < m → kbit (M.2 146) (4 * (6 * p + v)) c → ¬ nI (enl (kbit (M.2 146) (4 * (6 * p + v))) c).length = d) → ((m = 216 ∧ x = -1) ∨ (m < 216 ∧ kbit (M.2 146) (4 * (6 * p + v)) m ∧ nI (enl (kbit (M.2 146) (4 * (6 * p + v))) m).length = d ∧ x = nI m)) → w_X8_code (nI p) (nI v) d (sk_sl M1 158 0 x.toInt64) (fun b M2 => M2.1 140 0 = 0 ∧ M2.2 158 0 = b.toInt64 ∧ Inv M2) := by
      intro x m hm hno hx
      unfold w_X8_code
      refine g8_PV_y (np := np) (nv := nv) (by show M1.1 141 1 = _; rw [w1]; exact hW.2.1) (by show M1.1 141 0 = _; rw [w1]; exact hW.1) n2 n1 hp hv ?_
      have ek : (sk_si (sk_sl M1 158 0 x.toInt64) 140 0 0).2 146 = M.2 146 := by show (sk_sl M1 158 0 x.toInt64).2 146 = _; rw [sl_c (by omega), k1]
      refine lp_to (fun c => (nI (enl (kbit (M.2 146) (4 * (6 * p + v))) c).length, nI c)) m (by unfold sk_F; omega) (fun c hc cc hcc => ?_) (fun cc => ?_)
      · unfold w_X8_code_L42
        refine i_t (nI_ge (b := 216) (by omega) (by decide)) (s8_canBe (by omega) (by omega) (by omega) ?_)
        rw [ek]
        refine i_b (fun q => ?_) (fun q => i_f (hno c hc (bI_n.mp q)) ?_)
        · rw [enl_f (bI_z.mp q)] at hcc
          rw [nI_1]
          exact hcc
        · rw [enl_t (bI_n.mp q), List.length_append, List.length_singleton] at hcc
          show cc (nI _ + 1, nI c + 1)
          rw [nI_1, nI_1]
          exact hcc
      · unfold w_X8_code_L42
        rcases hx with ⟨rfl, x2⟩ | ⟨x1, x2, x3, x4⟩
        · refine i_f (nn (n := 216) (by decide)) ?_
          exact due0 hI x2
        · refine i_t (nI_ge (b := 216) x1 (by decide)) (s8_canBe (by omega) (by omega) x1 ?_)
          rw [ek, bI_t x2]
          refine i_f (by decide) (i_t x3 ?_)
          exact due0 hI x4
    rw [l2]
    by_cases hd : vp_in d (lft (M.2 146) p v).length
    · obtain ⟨k, hk, rfl⟩ := vp_in_of hd (by omega)
      refine i_t ⟨nI_pos (by omega), nI_ge hk (by omega)⟩ ⟨vp_in_nI (by omega) (by decide), ?_⟩
      rw [nI_clamp (by omega), (l4 k hk).1]
      obtain ⟨c, c1, c2, c3, c4⟩ := enl_kth 216 hk
      have hlen : ∀ z, z ≤ 216 → (enl (kbit (M.2 146) (4 * (6 * p + v))) z).length ≤ 216 := fun z hz => Nat.le_trans (enl_len _ z) hz
      refine run _ c (by omega) (fun z hz hkz e9 => ?_) (Or.inr ⟨c1, c2, by rw [c3], ?_⟩)
      · have e8 := (nI_eq (by have := hlen z (by omega); omega) (by omega)).mp e9
        have m1 := enl_len_mono (S := kbit (M.2 146) (4 * (6 * p + v))) (m := z + 1) (c - (z + 1))
        rw [show z + 1 + (c - (z + 1)) = c by omega, c3, enl_t hkz, List.length_append, List.length_singleton] at m1
        omega
      · show nI ((enl (kbit (M.2 146) (4 * (6 * p + v))) 216).getD k 0) = nI c
        rw [c4]
    · refine i_f ?_ ?_
      · rintro ⟨q1, q2⟩
        rcases vp_no (by omega) hd with q | q
        · exact q1 q
        · exact q (nlt_le.mp q2)
      · refine run _ 216 (Nat.le_refl _) (fun z hz hkz e9 => hd ?_) (Or.inl ⟨rfl, rfl⟩)
        rw [← e9]
        have m1 := enl_len_mono (S := kbit (M.2 146) (4 * (6 * p + v))) (m := z + 1) (216 - (z + 1))
        rw [show z + 1 + (216 - (z + 1)) = 216 by omega, enl_t hkz, List.length_append, List.length_singleton] at m1
        refine vp_in_nI ?_ (by omega)
        show _ < (enl (kbit (M.2 146) (4 * (6 * p + v))) 216).length
        omega
  · unfold w_X8_code
    exact g8_PV_n hW.2.1 hW.1 n2 n1 q (dueX h rfl)
theorem figN {w c : Nat} (hw : w < 3) (hc : c < 216) : f_X8_figureOf (nI c) (nI w) = nI (c / dvs w % 6) := by
  unfold f_X8_figureOf dvs
  have e36 : nI c / (36 : Int32) = nI (c / 36) := pk_div (a := c) (d := 36) (by omega) (by decide) (by decide)
  have e6 : nI c / (6 : Int32) = nI (c / 6) := pk_div (a := c) (d := 6) (by omega) (by decide) (by decide)
  have r1 : rmI (nI (c / 6)) (6 : Int32) = nI (c / 6 % 6) := rmN (a := c / 6) (d := 6) (by omega) (by decide) (by decide)
  have r2 : rmI (nI c) (6 : Int32) = nI (c % 6) := rmN (a := c) (d := 6) (by omega) (by decide) (by decide)
  have : w = 0 ∨ w = 1 ∨ w = 2 := by omega
  rcases this with rfl | rfl | rfl
  · rw [if_pos (show nI 0 = 0 from rfl), e36, if_pos rfl, Nat.mod_eq_of_lt (by omega)]
  · rw [if_neg (by decide), if_pos (show nI 1 = 1 from rfl), e6, r1, if_neg (by decide), if_pos rfl]
  · rw [if_neg (by decide), if_neg (by decide), r2, if_neg (by decide), if_neg (by decide), Nat.div_one]
theorem st_wheel {M : sk_M} (h : Inv M) (a b d f : Int32) : StI Inv (fun Q X => w_X7_wheel a b d f M Q X) (w_X8_wheel a b d f) ["java/lang/IndexOutOfBoundsException"] := by
  unfold StI w_X7_wheel
  obtain ⟨nv, np, nc, tx, dy, ch, lg, nr, op, hR⟩ := h.1.1
  obtain ⟨hN, hF, hW, hS, hV, hC, hL, hK, hT⟩ := id hR
  have n1 := hN.1
  have n2 := hN.2.1
  have no : ¬ vp_in a np ∨ ¬ vp_in b nv ∨ ¬ vp_in d 3 → w_X8_wheel a b d f M (fun _ M2 => M2.1 140 0 = nI (0 + 1) ∧ Inv M2) := by
    intro q
    unfold w_X8_wheel
    refine sLet_i (sLet_i (gN (if_pos ?_) (dueX h rfl)))
    by_cases hp : vp_in a np
    · by_cases hb : vp_in b nv
      · have hv : ¬ vp_in d 3 := (q.resolve_left (fun x => x hp)).resolve_left (fun x => x hb)
        rw [inN_n 3 (by decide) (by decide) hv]
        exact Or.inr (Or.inr rfl)
      · rw [noV_nt hW.1 n1 hb]
        exact Or.inr (Or.inl (by decide))
    · rw [noP_nt hW.2.1 n2 hp]
      exact Or.inl (by decide)
  refine n7_PV hF.2.1 hF.1 n2 n1 (fun p v hp hv e e' => ?_) (fun q => ⟨0, rfl, no (q.imp id Or.inl)⟩)
  subst e e'
  by_cases hd : vp_in d 3
  · refine n7_W_y hd ?_
    obtain ⟨w, hw, rfl⟩ := vp_in_of hd (by decide)
    refine c4_load (by omega) (by omega) (fun M1 s1 l1 => ?_)
    rw [hR.lfts hp hv] at l1
    have sc := s1.toC
    have hI := h.scC sc
    have w1 : M1.1 141 = M.1 141 := sc.1 141 (by omega)
    have k1 : M1.2 = M.2 := sc.2.1
    unfold w_X4_sidesOf
    refine ⟨hd, lft (M.2 146) p v, l1, ?_⟩
    rw [nI_clamp (by omega)]
    have run : ∀ (x : Int32) (y : Int32), y = (lft (M.2 146) p v).foldl (sdS (dvs w)) 0 → x = (if ¬ (f = 0) then y else if bc32 y = 1 then f_J6_numberOfTrailingZeros_0f7a4 y else -1) → w_X8_wheel (nI p) (nI v) (nI w) f (sk_sl M1 158 0 x.toInt64) (fun b M2 => M2.1 140 0 = 0 ∧ M2.2 158 0 = b.toInt64 ∧ Inv M2) := by
      intro x y hy hx
      unfold w_X8_wheel
      refine sLet_i (sLet_i (gY (if_neg ?_) ?_))
      · rw [noP_yt (M := sk_sl M1 158 0 x.toInt64) (n := np) (by show M1.1 141 1 = _; rw [w1]; exact hW.2.1) n2 (vp_in_nI hp (by omega)), noV_yt (M := sk_sl M1 158 0 x.toInt64) (n := nv) (by show M1.1 141 0 = _; rw [w1]; exact hW.1) n1 (vp_in_nI hv (by omega)), inN_y 3 (by decide) (by decide) hd]
        decide
      have ek : (sk_si (sk_sl M1 158 0 x.toInt64) 140 0 0).2 146 = M.2 146 := by show (sk_sl M1 158 0 x.toInt64).2 146 = _; rw [sl_c (by omega), k1]
      unfold w_X8_figuresOf
      refine lp_to (fun c => ((enl (kbit (M.2 146) (4 * (6 * p + v))) c).foldl (sdS (dvs w)) 0, nI c)) 216 (by decide) (fun c hc cc hcc => ?_) (fun cc => ?_)
      · unfold w_X8_figuresOf_L6
        refine i_t (nI_ge hc (by decide)) (s8_canBe (by omega) (by omega) hc ?_)
        rw [ek]
        refine i_b (fun q => sLet_i ?_) (fun q => sLet_i ?_)
        · rw [enl_t (bI_n.mp q), List.foldl_append] at hcc
          rw [figN hw hc, nI_1]
          exact hcc
        · rw [enl_f (fun z => q (bI_n.mpr z))] at hcc
          rw [or0I, nI_1]
          exact hcc
      · unfold w_X8_figuresOf_L6
        refine i_f (nn (n := 216) (by decide)) ?_
        show (if ¬ (f = 0) then _ else _)
        have ey : (enl (kbit (M.2 146) (4 * (6 * p + v))) 216).foldl (sdS (dvs w)) 0 = y := hy.symm
        rw [ey]
        refine i_b (fun q => ?_) (fun q => i_b (fun q2 => ?_) (fun q2 => ?_))
        · exact due0 hI (by rw [hx, if_pos q])
        · exact due0 hI (by rw [hx, if_neg q, if_pos q2])
        · exact due0 hI (by rw [hx, if_neg q, if_neg q2])
    refine i_b (fun q => run _ _ rfl (by rw [if_pos q])) (fun q => i_b (fun q2 => run _ _ rfl (by rw [if_neg q, if_pos q2])) (fun q2 => run _ _ rfl (by rw [if_neg q, if_neg q2])))
  · exact n7_W_n hd ⟨0, rfl, no (Or.inr (Or.inr hd))⟩
