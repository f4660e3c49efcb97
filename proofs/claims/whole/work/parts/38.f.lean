/-! contracts: contract, broken -/
def qr8 (W : Nat → Int32) (c d : Nat) : Prop := W (35 + 4 * c) = W (35 + 4 * d) ∧ W (36 + 4 * c) = W (36 + 4 * d) ∧ ¬ W (34 + 4 * c) = W (34 + 4 * d)
theorem s8_areQuarrel {M : sk_M} {Q : Int32 → Prop} {c d : Nat} (hc : c < 12) (hd : d < 12) (h : Q (bI (qr8 (M.1 141) c d))) : w_X8_areQuarrel (nI c) (nI d) M Q := by
  unfold w_X8_areQuarrel
  have e0 : ∀ x, 34 + 4 * x + 0 = 34 + 4 * x := fun _ => rfl
  have e1 : ∀ x, 34 + 4 * x + 1 = 35 + 4 * x := fun _ => by omega
  have e2 : ∀ x, 34 + 4 * x + 2 = 36 + 4 * x := fun _ => by omega
  refine s8_ofC (k := 1) hc (by decide) (s8_ofC (k := 1) hd (by decide) ?_)
  rw [e1, e1]
  refine i_b (fun q1 => ?_) (fun q1 => ?_)
  · refine s8_ofC (k := 2) hc (by decide) (s8_ofC (k := 2) hd (by decide) ?_)
    rw [e2, e2]
    refine i_b (fun q2 => ?_) (fun q2 => ?_)
    · refine s8_ofC (k := 0) hc (by decide) (s8_ofC (k := 0) hd (by decide) ?_)
      rw [e0, e0]
      refine i_b (fun q3 => ?_) (fun q3 => ?_)
      · rw [bI_t (show qr8 (M.1 141) c d from ⟨q1, q2, q3⟩)] at h; exact h
      · rw [bI_f (show ¬ qr8 (M.1 141) c d from fun z => q3 z.2.2)] at h; exact h
    · rw [bI_f (show ¬ qr8 (M.1 141) c d from fun z => q2 z.2.1)] at h; exact h
  · rw [bI_f (show ¬ qr8 (M.1 141) c d from fun z => q1 z.1)] at h; exact h
theorem s8_quarrelsOf {M : sk_M} {Q : Int32 → Prop} {c nc : Nat} (hc : c < 12) (e : M.1 141 2 = nI nc) (hn : nc ≤ 12) (h : Q (bitsP (qr8 (M.1 141) c) nc)) : w_X8_quarrelsOf (nI c) M Q := by
  unfold w_X8_quarrelsOf
  refine lp_to (fun i => (bitsP (qr8 (M.1 141) c) i, nI i)) nc (by unfold sk_F; omega) (fun i hi k hk => ?_) (fun k => ?_)
  · unfold w_X8_quarrelsOf_L4 f_X8_contracts
    rw [e]
    refine i_t (nI_ge hi (by omega)) (s8_areQuarrel hc (by omega) ?_)
    rw [nI_1]
    refine i_b (fun q => sLet_i ?_) (fun q => sLet_i ?_)
    · rw [bitsP_t (P := qr8 (M.1 141) c) (bI_n.mp q)]
      exact hk
    · rw [or0I, bitsP_f (P := qr8 (M.1 141) c) (fun z => q (bI_n.mpr z))]
      exact hk
  · unfold w_X8_quarrelsOf_L4 f_X8_contracts
    rw [e]
    exact i_f (nn (by omega)) h
theorem Rel.qr {F : Nat → Nat → Int32} {KF : Nat → Int64} {W : Nat → Int32} {K : Nat → Int64} {nv np nc tx dy ch lg nr op : Nat} (h : Rel F KF W K nv np nc tx dy ch lg nr op) {M : sk_M} (hM : M.1 = F) {c d : Nat} (hc : c < nc) (hd : d < nc) : qrl M 0 c d ↔ qr8 W c d := by
  obtain ⟨a1, a2, a3, a4, -⟩ := h.2.2.2.2.2.1 c hc
  obtain ⟨b1, b2, b3, b4, -⟩ := h.2.2.2.2.2.1 d hd
  unfold qrl qr8 isO
  rw [hM]
  simp only [Nat.zero_add]
  rw [← a4, ← b4, a1, a2, b1, b2]
  constructor
  · rintro ⟨q1, q2, q3⟩
    exact ⟨q1.symm, q2.symm, fun z => q3 z.symm⟩
  · rintro ⟨q1, q2, q3⟩
    exact ⟨q1.symm, q2.symm, fun z => q3 z.symm⟩
theorem c5_quarrelsOf {M : sk_M} {Q : Int32 → Prop} {c nc : Nat} (hc : c < 12) (e : M.1 0 2 = nI nc) (hn : nc ≤ 12) (h : Q (bitsP (qrl M 0 c) nc)) : w_X5_quarrelsOf 0 (nI c) M Q := by
  unfold w_X5_quarrelsOf
  rw [e]
  refine ⟨vp_in_nI hc (by decide), vp_in_nI (by omega) (by decide), ?_⟩
  rw [nI_clamp (by omega), nI_clamp (by omega)]
  exact h
theorem st_contract {M : sk_M} (h : Inv M) (a b : Int32) : StI Inv (fun Q X => w_X7_contract a b M (fun r => Q r M) (fun e => X e M)) (w_X8_contract a b) ["java/lang/IndexOutOfBoundsException", "java/util/NoSuchElementException"] := by
  unfold StI w_X7_contract
  obtain ⟨nv, np, nc, tx, dy, ch, lg, nr, op, hR⟩ := h.1.1
  obtain ⟨hN, hF, hW, hS, hV, hC, hL, hK, hT⟩ := id hR
  have n3 := hN.2.2.1
  rw [hF.2.2.1]
  by_cases ha : vp_in a nc
  · refine i_f (vp_yes (by omega) ha) ?_
    have g1 : ∀ M' : sk_M, M'.1 141 = M.1 141 → (if ((f_X8_in a (0 : Int32) ((f_X8_contracts (sk_si M' 140 0 0)) - (1 : Int32))) = 0) then (1 : Int32) else (0 : Int32)) = 0 := by
      intro M' hM
      unfold f_X8_contracts
      rw [si_c (by decide), hM, hW.2.2.1, in_y (by omega) ha, if_neg (by decide)]
    obtain ⟨c, hc, rfl⟩ := vp_in_of ha (by omega)
    obtain ⟨a1, a2, a3, a4, a5⟩ := hC c hc
    by_cases hb : vp_in b 5
    · obtain ⟨k, hk, rfl⟩ := vp_in_of hb (by decide)
      have g2 : (if ((f_X8_in (nI k) (0 : Int32) (4 : Int32)) = 0) then (1 : Int32) else (0 : Int32)) = 0 := by
        rw [inN_y 5 (by decide) (by decide) hb, if_neg (by decide)]
      have fin : ∀ x : Int32, (k = 4 → x = bitsP (qr8 (M.1 141) c) nc) → (k ≠ 4 → x = M.1 141 (34 + 4 * c + k)) → w_X8_contract (nI c) (nI k) (sk_sl M 158 0 x.toInt64) (fun b M2 => M2.1 140 0 = 0 ∧ M2.2 158 0 = b.toInt64 ∧ Inv M2) := by
        intro x h1 h2
        unfold w_X8_contract
        refine sLet_i (sLet_i (gY' (g1 _ rfl) (sLet_i (gY g2 ?_))))
        refine i_b (fun q => ?_) (fun q => ?_)
        · have q4 : k = 4 := (nI_eq (b := 4) (by omega) (by decide)).mp q
          refine s8_quarrelsOf (nc := nc) (by omega) hW.2.2.1 n3 ?_
          exact due0 h (h1 q4)
        · have q4 : k ≠ 4 := fun e => q (by rw [e]; rfl)
          refine s8_ofC (by omega) (by omega) ?_
          exact due0 h (h2 q4)
      have hcs : k = 0 ∨ k = 1 ∨ k = 2 ∨ k = 3 ∨ k = 4 := by omega
      rcases hcs with rfl | rfl | rfl | rfl | rfl
      · refine i_t rfl ⟨vp_in_nI (by omega) (by decide), ?_⟩
        rw [nI_clamp (by omega)]
        have e : M.1 141 (34 + 4 * c + 0) = bI (isO M 0 c) := by
          show M.1 141 (34 + 4 * c) = bI (¬ M.1 (0 + 6) c = -1)
          rw [a4, Nat.zero_add]
        refine i_b (fun q => fin _ (fun z => absurd z (by decide)) (fun _ => ?_)) (fun q => fin _ (fun z => absurd z (by decide)) (fun _ => ?_))
        · rw [e, bI_t (bI_n.mp q)]
        · rw [e, bI_f (fun z => q (bI_n.mpr z))]
      · refine i_f (by decide) (i_t rfl ⟨vp_in_nI (by omega) (by decide), fin _ (fun z => absurd z (by decide)) (fun _ => ?_)⟩)
        rw [nI_clamp (by omega), Nat.zero_add, a1]
        exact congrArg _ (by omega)
      · refine i_f (by decide) (i_f (by decide) (i_t rfl ⟨vp_in_nI (by omega) (by decide), fin _ (fun z => absurd z (by decide)) (fun _ => ?_)⟩))
        rw [nI_clamp (by omega), Nat.zero_add, a2]
        exact congrArg _ (by omega)
      · refine i_f (by decide) (i_f (by decide) (i_f (by decide) (i_t rfl ⟨vp_in_nI (by omega) (by decide), fin _ (fun z => absurd z (by decide)) (fun _ => ?_)⟩)))
        rw [nI_clamp (by omega), Nat.zero_add, a3]
        exact congrArg _ (by omega)
      · refine i_f (by decide) (i_f (by decide) (i_f (by decide) (i_f (by decide) (i_t rfl (c5_quarrelsOf (nc := nc) (by omega) hF.2.2.1 n3 (fin _ (fun _ => ?_) (fun z => absurd rfl z)))))))
        exact bitsP_cg nc (fun d hd => hR.qr rfl hc hd)
    · refine i_f (ne_of_out (k := 0) hb (by decide) (by decide)) (i_f (ne_of_out (k := 1) hb (by decide) (by decide)) (i_f (ne_of_out (k := 2) hb (by decide) (by decide)) (i_f (ne_of_out (k := 3) hb (by decide) (by decide)) (i_f (ne_of_out (k := 4) hb (by decide) (by decide)) ⟨1, rfl, ?_⟩))))
      unfold w_X8_contract
      refine sLet_i (sLet_i (gY' (g1 _ rfl) (sLet_i (gN ?_ (dueX h rfl)))))
      rw [inN_n 5 (by decide) (by decide) hb, if_pos rfl]
  · refine i_t (vp_no (by omega) ha) ⟨0, rfl, ?_⟩
    unfold w_X8_contract
    refine sLet_i (sLet_i (gN' ?_ (dueX h rfl)))
    unfold f_X8_contracts
    rw [si_c (by decide), hW.2.2.1, in_n (by omega) ha, if_pos rfl]
/-- a row of the log that bears on a contract -/
def lgP (W : Nat → Int32) (c : Nat) (o : Prop) (k : Nat) : Prop := (W (82 + 6 * k + 1) = W (35 + 4 * c) ∧ W (82 + 6 * k + 2) = W (36 + 4 * c)) ∧ (o → W (82 + 6 * k + 5) = 1 ∧ ¬ W (37 + 4 * c) < W (82 + 6 * k + 0))
theorem ex_t {P : Nat → Prop} {n : Nat} (h : P n) : ∃ k, k < n + 1 ∧ P k := ⟨n, by omega, h⟩
theorem ex_s {P : Nat → Prop} {n : Nat} (h : ¬ P n) : (∃ k, k < n + 1 ∧ P k) ↔ ∃ k, k < n ∧ P k :=
  ⟨fun ⟨k, a, b⟩ => ⟨k, by rcases Nat.lt_succ_iff_lt_or_eq.mp a with q | q; exact q; subst q; exact absurd b h, b⟩, fun ⟨k, a, b⟩ => ⟨k, by omega, b⟩⟩
theorem s8_isLogged {M : sk_M} {Q : Int32 → Prop} {c lg : Nat} {o : Int32} (hc : c < 12) (e : M.1 141 8 = nI lg) (hn : lg ≤ 80) (h : Q (bI (∃ k, k < lg ∧ lgP (M.1 141) c (¬ o = 0) k))) : w_X8_isLogged (nI c) o M Q := by
  unfold w_X8_isLogged
  have e1 : 34 + 4 * c + 1 = 35 + 4 * c := by omega
  have e2 : 34 + 4 * c + 2 = 36 + 4 * c := by omega
  have e3 : 34 + 4 * c + 3 = 37 + 4 * c := by omega
  have e0 : ((0 : Int32), (0 : Int32)) = (bI (∃ k, k < 0 ∧ lgP (M.1 141) c (¬ o = 0) k), nI 0) := by
    rw [bI_f (fun ⟨k, hk, _⟩ => absurd hk (by omega))]
    rfl
  rw [e0]
  refine lp_to (fun i => (bI (∃ k, k < i ∧ lgP (M.1 141) c (¬ o = 0) k), nI i)) lg (by unfold sk_F; omega) (fun i hi kk hk => ?_) (fun kk => ?_)
  · unfold w_X8_isLogged_L5
    rw [e]
    refine i_t (nI_ge hi (by omega)) (s8_ofLog (k := 1) (by omega) (by decide) (s8_ofC (k := 1) hc (by decide) (sLet_i (sLet_i ?_))))
    rw [e1]
    have one : (∃ k, k < i + 1 ∧ lgP (M.1 141) c (¬ o = 0) k) → kk ((1 : Int32), nI i + (1 : Int32)) := fun z => by
      rw [bI_t z] at hk
      rw [nI_1]
      exact hk
    have zero : ¬ (∃ k, k < i + 1 ∧ lgP (M.1 141) c (¬ o = 0) k) → kk ((0 : Int32), nI i + (1 : Int32)) := fun z => by
      rw [bI_f z] at hk
      rw [nI_1]
      exact hk
    have up : (∃ k, k < i ∧ lgP (M.1 141) c (¬ o = 0) k) → (∃ k, k < i + 1 ∧ lgP (M.1 141) c (¬ o = 0) k) := fun ⟨k, a, b⟩ => ⟨k, by omega, b⟩
    refine i_b (fun q1 => ?_) (fun q1 => ?_)
    · refine s8_ofLog (k := 2) (by omega) (by decide) (s8_ofC (k := 2) hc (by decide) ?_)
      rw [e2]
      refine i_b (fun q2 => ?_) (fun q2 => ?_)
      · refine i_b (fun q3 => ?_) (fun q3 => one (up (bI_n.mp q3)))
        have q3' := bI_z.mp q3
        refine i_t (by decide) (i_b (fun q4 => ?_) (fun q4 => one (ex_t (P := lgP (M.1 141) c (¬ o = 0)) ⟨⟨q1, q2⟩, fun z => absurd z q4⟩)))
        refine s8_ofLog (k := 5) (by omega) (by decide) (i_b (fun q5 => ?_) (fun q5 => zero ?_))
        · refine s8_ofLog (k := 0) (by omega) (by decide) (s8_ofC (k := 3) hc (by decide) ?_)
          rw [e3]
          refine i_b (fun q6 => one (ex_t (P := lgP (M.1 141) c (¬ o = 0)) ⟨⟨q1, q2⟩, fun _ => ⟨q5, q6⟩⟩)) (fun q6 => zero ?_)
          rw [ex_s (P := lgP (M.1 141) c (¬ o = 0)) (fun z => q6 (z.2 q4).2)]
          exact q3'
        · rw [ex_s (P := lgP (M.1 141) c (¬ o = 0)) (fun z => q5 (z.2 q4).1)]
          exact q3'
      · refine i_b (fun q3 => i_f (by decide) (zero ?_)) (fun q3 => one (up (bI_n.mp q3)))
        rw [ex_s (P := lgP (M.1 141) c (¬ o = 0)) (fun z => q2 z.1.2)]
        exact bI_z.mp q3
    · refine i_b (fun q3 => i_f (by decide) (zero ?_)) (fun q3 => one (up (bI_n.mp q3)))
      rw [ex_s (P := lgP (M.1 141) c (¬ o = 0)) (fun z => q1 z.1.1)]
      exact bI_z.mp q3
  · unfold w_X8_isLogged_L5
    rw [e]
    exact i_f (nn (by omega)) ⟨bI_01 _, h⟩
def br8 (W : Nat → Int32) (lg c : Nat) : Prop := (W (34 + 4 * c) = 1 ∧ W (37 + 4 * c) < W 5 ∧ ¬ ∃ k, k < lg ∧ lgP W c True k) ∨ (¬ W (34 + 4 * c) = 1 ∧ ∃ k, k < lg ∧ lgP W c False k)
theorem lgP_cg {W : Nat → Int32} {c k : Nat} {o o' : Prop} (h : o ↔ o') : lgP W c o k ↔ lgP W c o' k := by
  unfold lgP
  rw [h]
theorem Rel.br {F : Nat → Nat → Int32} {KF : Nat → Int64} {W : Nat → Int32} {K : Nat → Int64} {nv np nc tx dy ch lg nr op : Nat} (h : Rel F KF W K nv np nc tx dy ch lg nr op) {M : sk_M} (hM : M.1 = F) {c : Nat} (hc : c < nc) : brk M 0 nr lg c ↔ br8 W lg c := by
  obtain ⟨a1, a2, a3, a4, -⟩ := h.2.2.2.2.2.1 c hc
  have hL := h.2.2.2.2.2.2.1
  have hd : M.1 0 5 = W 5 := by rw [hM, h.2.1.2.2.2.2.1, h.2.2.1.2.2.2.2.1]
  have ho : isO M 0 c ↔ W (34 + 4 * c) = 1 := by
    unfold isO
    rw [hM, Nat.zero_add, a4, bI_1]
  have hk : ∀ k, k < lg → (hitP M 0 nr c k ↔ lgP W c (W (34 + 4 * c) = 1) k) := fun k hk => by
    unfold hitP thr kep rwC lgP
    rw [ho, hM]
    simp only [Nat.zero_add]
    rw [hL k hk 1 (by decide), hL k hk 2 (by decide), hL k hk 5 (by decide), hL k hk 0 (by decide), a1, a2, a3]
  unfold brk br8
  rw [ho, hd, hM]
  simp only [Nat.zero_add]
  rw [a3]
  by_cases q : W (34 + 4 * c) = 1
  · have e : (∃ a, a < lg ∧ hitP M 0 nr c a) ↔ ∃ k, k < lg ∧ lgP W c True k := ⟨fun ⟨k, x, y⟩ => ⟨k, x, (lgP_cg (by simp [q])).mp ((hk k x).mp y)⟩, fun ⟨k, x, y⟩ => ⟨k, x, (hk k x).mpr ((lgP_cg (by simp [q])).mp y)⟩⟩
    rw [e]
    simp [q]
  · have e : (∃ a, a < lg ∧ hitP M 0 nr c a) ↔ ∃ k, k < lg ∧ lgP W c False k := ⟨fun ⟨k, x, y⟩ => ⟨k, x, (lgP_cg (by simp [q])).mp ((hk k x).mp y)⟩, fun ⟨k, x, y⟩ => ⟨k, x, (hk k x).mpr ((lgP_cg (by simp [q])).mp y)⟩⟩
    rw [e]
    simp [q]
theorem st_broken {M : sk_M} (h : Inv M) : StN Inv (fun Q => w_X7_broken M (fun r => Q r M)) w_X8_broken := by
  unfold StN w_X7_broken
  obtain ⟨nv, np, nc, tx, dy, ch, lg, nr, op, hR⟩ := h.1.1
  obtain ⟨hN, hF, hW, hS, hV, hC, hL, hK, hT⟩ := id hR
  have n3 := hN.2.2.1
  have n7 := hN.2.2.2.2.2.2.1
  have n8 := hN.2.2.2.2.2.2.2.1
  refine lp_to (fun i => (bitsP (brk M 0 nr lg) i, nI i)) nc (by unfold sk_F; omega) (fun i hi c hc => ?_) (fun c => ?_)
  · unfold w_X7_broken_L4
    rw [hF.2.2.1]
    refine i_t (nI_ge hi (by omega)) ?_
    unfold w_X5_isBroken
    rw [hF.2.2.2.2.2.2.2.1, hF.2.2.2.2.2.2.1]
    refine ⟨vp_in_nI (by omega) (by decide), vp_in_nI n8 (by decide), vp_in_nI (by omega) (by decide), ?_⟩
    rw [nI_clamp (by omega), nI_clamp (by omega), nI_clamp (by omega), nI_1]
    refine i_b (fun q => sLet_i ?_) (fun q => ?_)
    · rw [bitsP_t (P := brk M 0 nr lg) (bI_n.mp q)]
      exact hc
    · rw [bitsP_f (P := brk M 0 nr lg) (fun z => q (bI_n.mpr z))]
      exact hc
  · unfold w_X7_broken_L4
    rw [hF.2.2.1]
    refine i_f (nn (by omega)) ?_
    unfold w_X8_broken
    refine sLet_i ?_
    refine lp_to (fun i => (bitsP (br8 (M.1 141) lg) i, nI i)) nc (by unfold sk_F; omega) (fun i hi c hc => ?_) (fun c => ?_)
    · unfold w_X8_broken_L9 f_X8_contracts
      rw [show (sk_si M 140 0 0).1 141 2 = nI nc from hW.2.2.1]
      refine i_t (nI_ge hi (by omega)) (s8_ofC (k := 0) (by omega) (by decide) (sLet_i (sLet_i ?_)))
      have yes : br8 (M.1 141) lg i → c (bitsP (br8 (M.1 141) lg) i ||| ((1 : Int32) <<< (nI i &&& 31)), nI i + 1) := fun z => by
        rw [nI_1, bitsP_t (P := br8 (M.1 141) lg) z]
        exact hc
      have no : ¬ br8 (M.1 141) lg i → c (bitsP (br8 (M.1 141) lg) i ||| (0 : Int32), nI i + 1) := fun z => by
        rw [nI_1, or0I, bitsP_f (P := br8 (M.1 141) lg) z]
        exact hc
      have e0 : (sk_si M 140 0 0).1 141 (34 + 4 * i + 0) = M.1 141 (34 + 4 * i) := rfl
      have e8 : (sk_si M 140 0 0).1 141 8 = nI lg := hW.2.2.2.2.2.2
      by_cases q : M.1 141 (34 + 4 * i) = 1
      · rw [e0, if_pos q]
        refine i_t (by decide) (s8_ofC (k := 3) (by omega) (by decide) ?_)
        refine i_b (fun q2 => ?_) (fun q2 => i_f (by decide) (sLet_i (no ?_)))
        · have q2' : M.1 141 (37 + 4 * i) < M.1 141 5 := by
            rw [nlt_le] at q2
            rw [show 37 + 4 * i = 34 + 4 * i + 3 by omega]
            exact q2
          refine s8_isLogged (lg := lg) (by omega) e8 n7 ?_
          refine i_b (fun q3 => i_t (by decide) (sLet_i (yes ?_))) (fun q3 => i_f (by decide) (sLet_i (no ?_)))
          · refine Or.inl ⟨q, q2', fun ⟨k, x, y⟩ => bI_z.mp q3 ⟨k, x, (lgP_cg (by simp)).mp y⟩⟩
          · rintro (⟨-, -, z⟩ | ⟨z, -⟩)
            · obtain ⟨k, x, y⟩ := bI_n.mp q3
              exact z ⟨k, x, (lgP_cg (by simp)).mp y⟩
            · exact z q
        · rintro (⟨-, z, -⟩ | ⟨z, -⟩)
          · apply q2
            rw [nlt_le]
            rw [show 37 + 4 * i = 34 + 4 * i + 3 by omega] at z
            exact z
          · exact z q
      · rw [e0, if_neg q]
        refine i_f (by decide) (s8_isLogged (lg := lg) (by omega) e8 n7 ?_)
        refine i_b (fun q3 => sLet_i (yes ?_)) (fun q3 => sLet_i (no ?_))
        · obtain ⟨k, x, y⟩ := bI_n.mp q3
          exact Or.inr ⟨q, k, x, (lgP_cg (by simp)).mp y⟩
        · rintro (⟨z, -, -⟩ | ⟨-, k, x, y⟩)
          · exact q z
          · exact q3 (bI_n.mpr ⟨k, x, (lgP_cg (by simp)).mp y⟩)
    · unfold w_X8_broken_L9 f_X8_contracts
      rw [show (sk_si M 140 0 0).1 141 2 = nI nc from hW.2.2.1]
      refine i_f (nn (by omega)) ⟨?_, h.scR scR_th⟩
      exact bitsP_cg nc (fun j hj => hR.br rfl hj)
