/-! vault, rota: guards by days -/
theorem bit0 {g k : Nat} (hg : g < 2 ^ 31) (hk : k < 31) : ((nI g >>> (nI k &&& 31)) &&& 1 = 0) ↔ g.testBit k = false := by
  rw [pk_shrN hg (nI k &&& 31) k (sh31 k (by omega)), pk_andN (by have := Nat.div_le_self g (2 ^ k); omega) 1 (by decide)]
  have h1 : g / 2 ^ k % 2 ^ 1 < 2 := Nat.mod_lt _ (by decide)
  have e : nI (g / 2 ^ k % 2 ^ 1) = 0 ↔ g / 2 ^ k % 2 ^ 1 = 0 := nI_eq (b := 0) (by omega) (by decide)
  rw [e, Nat.testBit_eq_decide_div_mod_eq, decide_eq_false_iff_not]
  omega
def lgS (g : Nat) : Nat → Nat × Nat
  | 0 => (0, 0)
  | n + 1 => (if g.testBit (n % 7) then 0 else (lgS g n).1 + 1, max (lgS g n).2 (if g.testBit (n % 7) then 0 else (lgS g n).1 + 1))
theorem lgS_le (g : Nat) : ∀ n, (lgS g n).1 ≤ n ∧ (lgS g n).2 ≤ n
  | 0 => ⟨Nat.le_refl 0, Nat.le_refl 0⟩
  | n + 1 => by
    obtain ⟨a, b⟩ := lgS_le g n
    simp only [lgS]
    by_cases q : g.testBit (n % 7) = true
    · rw [if_pos q]; omega
    · rw [if_neg q]; omega
def nxG (g fr : Nat) : Nat := ((List.range 7).find? (fun n => g.testBit ((fr + n) % 7))).getD 0
def lmS (g : Nat) : Nat → Nat
  | 0 => 0
  | n + 1 => max (lmS g n) (nxG g n)
def gapN (g : Nat) : Nat := if g = 0 then 7 else lmS g 7
theorem nx_ok : ∀ g, g < 128 → g ≠ 0 → ∀ fr, fr < 7 → nxG g fr < 7 ∧ (∀ i, i < nxG g fr → g.testBit ((fr + i) % 7) = false) ∧ g.testBit ((fr + nxG g fr) % 7) = true := by decide +kernel
theorem gap_ok : ∀ g, g < 128 → g ≠ 0 → (lgS g 14).2 = lmS g 7 := by decide +kernel
theorem gap_le : ∀ g, g < 128 → gapN g ≤ 7 := by decide +kernel
theorem c7_longestGap {M : sk_M} {Q : Int32 → Prop} {g : Nat} (hg : g < 128) (h : Q (nI (gapN g))) : w_X7_longestGap (nI g) M Q := by
  unfold w_X7_longestGap
  have e : nI g &&& (127 : Int32) = nI g := by
    rw [pk_andN (by omega) 7 (by decide), Nat.mod_eq_of_lt (by omega)]
  rw [e]
  by_cases h0 : g = 0
  · subst h0
    exact i_t rfl h
  · refine i_f (fun q => h0 ((nI_eq (b := 0) (by omega) (by decide)).mp q)) ?_
    have z0 : lgS g 0 = (0, 0) := rfl
    have e0 : ((0 : Int32), (0 : Int32), (0 : Int32)) = (nI (lgS g 0).1, nI (lgS g 0).2, nI 0) := by rw [z0]; rfl
    rw [e0]
    refine lp_to (st := fun i => (nI (lgS g i).1, nI (lgS g i).2, nI i)) (n := 14) (by decide) ?_ ?_
    · intro i hi c hc
      unfold w_X7_longestGap_L16
      obtain ⟨b1, b2⟩ := lgS_le g i
      refine i_t (nI_ge hi (by decide)) (sLet_i (sLet_i ?_))
      have er : rmI (nI i) (7 : Int32) = nI (i % 7) := rmN (a := i) (d := 7) (by omega) (by decide) (by decide)
      have es : (if (((nI g >>> ((rmI (nI i) (7 : Int32)) &&& 31)) &&& (1 : Int32)) = 0) then (nI (lgS g i).1 + (1 : Int32)) else (0 : Int32)) = nI (if g.testBit (i % 7) then 0 else (lgS g i).1 + 1) := by
        rw [er]
        by_cases q : g.testBit (i % 7) = true
        · rw [if_neg (by rw [bit0 (by omega) (by omega), q]; simp), if_pos q]
          rfl
        · rw [if_pos ((bit0 (by omega) (by omega)).mpr (by simpa using q)), if_neg q, nI_1]
      show c (_, mxI (nI (lgS g i).2) _, nI i + 1)
      rw [es, nI_1, mxN (by omega) (by split <;> omega)]
      exact hc
    · intro c
      unfold w_X7_longestGap_L16
      refine i_f (nn (n := 14) (by decide)) ?_
      show Q (nI (lgS g 14).2)
      rw [gap_ok g hg h0]
      unfold gapN at h
      rw [if_neg h0] at h
      exact h
theorem lmS_le {g : Nat} (hg : g < 128) (h0 : g ≠ 0) : ∀ n, n ≤ 7 → lmS g n ≤ 7
  | 0, _ => Nat.zero_le _
  | n + 1, h => by
    have a := lmS_le hg h0 n (by omega)
    have b := (nx_ok g hg h0 n (by omega)).1
    simp only [lmS]
    omega
theorem s8_longOf {M : sk_M} {Q : Int32 → Prop} {g : Nat} (hg : g < 128) (h : Q (nI (gapN g))) : w_X8_longOf (nI g) M Q := by
  unfold w_X8_longOf
  by_cases h0 : g = 0
  · subst h0
    exact i_t rfl h
  · refine i_f (fun q => h0 ((nI_eq (b := 0) (by omega) (by decide)).mp q)) ?_
    unfold gapN at h
    rw [if_neg h0] at h
    refine lp_to (fun i => (nI (lmS g i), nI i)) 7 (by decide) (fun i hi c hc => ?_) (fun c => ?_)
    · unfold w_X8_longOf_L11
      refine i_t (nI_ge hi (by decide)) ?_
      obtain ⟨x1, x2, x3⟩ := nx_ok g hg h0 i hi
      have bd := lmS_le hg h0 i (by omega)
      have er : ∀ n, n < 7 → rmI (nI i + nI n) (7 : Int32) = nI ((i + n) % 7) := fun n hn => by
        rw [nI_add]
        exact rmN (a := i + n) (d := 7) (by omega) (by decide) (by decide)
      refine lp_to (fun n => nI n) (nxG g i) (by unfold sk_F; omega) (fun n hn c2 hc2 => ?_) (fun c2 => ?_)
      · unfold w_X8_longOf_L19
        show (if f_X8_has (nI g) (rmI (nI i + nI n) 7) = 0 then c2 (nI n + 1) else _)
        rw [er n (by omega), has_N, nI_1]
        refine i_t (bI_f ?_) hc2
        rw [has_tb (by omega) (by omega), x2 n hn]
        simp
      · unfold w_X8_longOf_L19
        show (if f_X8_has (nI g) (rmI (nI i + nI (nxG g i)) 7) = 0 then c2 (nI (nxG g i) + 1) else sLet (mxI (nI (lmS g i)) (nI (nxG g i))) fun y43 => c (y43, nI i + 1))
        rw [er _ x1, has_N, bI_t ((has_tb (by omega) (by omega)).mpr x3)]
        refine i_f (by decide) (sLet_i ?_)
        rw [mxN (by omega) (by omega), nI_1]
        exact hc
    · unfold w_X8_longOf_L11
      exact i_f (nn (n := 7) (by decide)) h
/-- the first of seven that isn't -/
theorem first7 (G : Nat → Prop) : ∃ m, m ≤ 7 ∧ (∀ i, i < m → G i) ∧ (m < 7 → ¬ G m) := by
  by_cases h : ∃ k, k < 7 ∧ ¬ G k
  · obtain ⟨k, hk⟩ := h
    obtain ⟨m, hm, hl⟩ := pk_least (fun k => k < 7 ∧ ¬ G k) ⟨k, hk⟩
    exact ⟨m, by omega, fun i hi => Classical.byContradiction fun z => hl i hi ⟨by omega, z⟩, fun _ => hm.2⟩
  · exact ⟨7, Nat.le_refl _, fun i hi => Classical.byContradiction fun z => h ⟨i, hi, z⟩, fun z => absurd z (by omega)⟩
theorem day_N {dy i : Nat} (hd : dy ≤ 9999) (hi : i ≤ 7) : mnI (9999 : Int32) (nI dy + nI i) = nI (min 9999 (dy + i)) := by
  rw [nI_add]
  exact mnN (a := 9999) (b := dy + i) (by decide) (by omega)
theorem st_vault {M : sk_M} (h : Inv M) (a b : Int32) : StI Inv (fun Q X => w_X7_vault a b M (fun r => Q r M) (fun e => X e M)) (w_X8_vault a b) ["java/lang/IndexOutOfBoundsException", "java/util/NoSuchElementException"] := by
  unfold StI w_X7_vault
  obtain ⟨nv, np, nc, tx, dy, ch, lg, nr, op, hR⟩ := h.1.1
  obtain ⟨hN, hF, hW, hS, hV, hC, hL, hK, hT⟩ := id hR
  have n1 := hN.1
  have n5 := hN.2.2.2.2.1
  have n9 := hN.2.2.2.2.2.2.2.2
  refine n7_V hF.1 n1 (fun v hv e => ?_) (fun hv => ⟨0, rfl, ?_⟩)
  · subst e
    obtain ⟨⟨c, hc, v1, w1⟩, ⟨g, hg, v2, w2⟩, ⟨wo, hwo, v3, w3⟩, w4⟩ := hV v hv
    have vin6 : vp_in (nI v) 6 := vp_in_nI (by omega) (by decide)
    have ecl : (nI v).toNatClampNeg = v := nI_clamp (by omega)
    have pre : ∀ (x : Int32) (k : Nat) (R : sk_M → Prop), k < 7 → R (sk_si (sk_sl M 158 0 x.toInt64) 140 0 0) → ∀ N : sk_M → Prop, sLet (sk_si (sk_sl M 158 0 x.toInt64) 140 0 0) fun M2 => w_X8_throwsIf (f_X8_noVault (nI v) M2) (1 : Int32) M2 (fun r12 M12 => if (r12 = 0) then (sLet (if ((f_X8_in (nI k) (0 : Int32) (6 : Int32)) = 0) then (1 : Int32) else (0 : Int32) : Int32) fun s34_26 => w_X8_throwsIf s34_26 (2 : Int32) M12 (fun r35 M35 => if (¬ (r35 = 0)) then N M35 else R M35)) else N M12) := by
      intro x k R hk hr N
      refine g8_V_y' (nv := nv) hW.1 n1 hv (sLet_i (gY ?_ hr))
      rw [inN_y 7 (by decide) (by decide) (vp_in_nI hk (by decide)), if_neg (by decide)]
    by_cases hb : vp_in b 7
    · obtain ⟨k, hk, rfl⟩ := vp_in_of hb (by decide)
      have hcs : k = 0 ∨ k = 1 ∨ k = 2 ∨ k = 3 ∨ k = 4 ∨ k = 5 ∨ k = 6 := by omega
      rcases hcs with rfl | rfl | rfl | rfl | rfl | rfl | rfl
      · refine i_t rfl ⟨vin6, ?_⟩
        unfold w_X8_vault
        refine pre _ 0 _ (by decide) ?_ _
        refine i_f (by decide) (i_f (by decide) (i_f (by decide) (s8_of (k := 0) (by omega) (by decide) (due0 h ?_))))
        rw [ecl, Nat.zero_add, v1]
        exact w1.symm
      · refine i_f (by decide) (i_t rfl ⟨vin6, ?_⟩)
        unfold w_X8_vault
        refine pre _ 1 _ (by decide) ?_ _
        refine i_f (by decide) (i_f (by decide) (i_f (by decide) (s8_of (k := 1) (by omega) (by decide) (due0 h ?_))))
        rw [ecl, Nat.zero_add, v2, show 10 + 4 * v + 1 = 11 + 4 * v by omega]
        exact w2.symm
      · refine i_f (by decide) (i_f (by decide) (i_t rfl ⟨vin6, ?_⟩))
        unfold w_X8_vault
        refine pre _ 2 _ (by decide) ?_ _
        refine i_f (by decide) (i_f (by decide) (i_f (by decide) (s8_of (k := 2) (by omega) (by decide) (due0 h ?_))))
        rw [ecl, Nat.zero_add, v3, show 10 + 4 * v + 2 = 12 + 4 * v by omega]
        exact w3.symm
      · refine i_f (by decide) (i_f (by decide) (i_f (by decide) (i_t rfl ?_)))
        unfold w_X8_vault
        refine pre _ 3 _ (by decide) ?_ _
        refine i_f (by decide) (i_f (by decide) (i_f (by decide) (s8_of (k := 3) (by omega) (by decide) (due0 h ?_))))
        rw [show 10 + 4 * v + 3 = 13 + 4 * v by omega]
        show (M.1 0 9 >>> (nI v &&& 31)) &&& 1 = M.1 141 (13 + 4 * v)
        have hop : op < 2 ^ 31 := Nat.lt_of_lt_of_le n9 (Nat.pow_le_pow_right (by decide) (by omega))
        rw [w4, hF.2.2.2.2.2.2.2.2]
        by_cases q : op.testBit v = true
        · rw [bI_t q]
          exact (has_tb hop (by omega)).mpr q
        · rw [bI_f q]
          exact (bit0 hop (by omega)).mpr (by simpa using q)
      · refine i_f (by decide) (i_f (by decide) (i_f (by decide) (i_f (by decide) (i_t rfl ⟨vin6, ?_⟩))))
        unfold w_X8_vault
        refine pre _ 4 _ (by decide) ?_ _
        refine i_t rfl (s8_of (k := 1) (by omega) (by decide) (due0 h ?_))
        rw [ecl, Nat.zero_add, v2, show 10 + 4 * v + 1 = 11 + 4 * v by omega]
        show f_X7_gaps (nI g) = (127 : Int32) &&& (M.1 141 (11 + 4 * v) ^^^ (-1 : Int32))
        rw [w2]
        rfl
      · refine i_f (by decide) (i_f (by decide) (i_f (by decide) (i_f (by decide) (i_f (by decide) (i_t rfl ⟨vin6, ?_⟩)))))
        rw [ecl, Nat.zero_add, v2, hF.2.2.2.2.1]
        obtain ⟨m, hm, hall, hno⟩ := first7 (fun i => g.testBit (min 9999 (dy + i) % 7) = true)
        have fin : ∀ x : Int32, x = (if m < 7 then nI m else -1) → w_X8_vault (nI v) (nI 5) (sk_sl M 158 0 x.toInt64) (fun b M2 => M2.1 140 0 = 0 ∧ M2.2 158 0 = b.toInt64 ∧ Inv M2) := by
          intro x hx
          unfold w_X8_vault
          refine pre _ 5 _ (by decide) ?_ _
          refine i_f (by decide) (i_t rfl ?_)
          unfold w_X8_soonOf
          have gd : ∀ i (Q : Int32 → Prop), i < 7 → Q (bI (g.testBit (min 9999 (dy + i) % 7) = true)) → w_X8_isGuarded (nI v) (mnI (9999 : Int32) (((sk_si (sk_sl M 158 0 x.toInt64) 140 0 0).1 141 5) + nI i)) (sk_si (sk_sl M 158 0 x.toInt64) 140 0 0) Q := by
            intro i Q hi hq
            rw [show (sk_si (sk_sl M 158 0 x.toInt64) 140 0 0).1 141 5 = nI dy from hW.2.2.2.2.1, day_N n5 (by omega)]
            refine s8_isGuarded (by omega) (by omega) ?_
            rw [show (sk_si (sk_sl M 158 0 x.toInt64) 140 0 0).1 141 (11 + 4 * v) = nI g from w2, bI_cg (has_tb (by omega) (by omega))]
            exact hq
          refine lp_to (fun i => nI i) m (by unfold sk_F; omega) (fun i hi c hc => ?_) (fun c => ?_)
          · unfold w_X8_soonOf_L2
            refine i_t (nI_ge (b := 7) (by omega) (by decide)) (gd i _ (by omega) ?_)
            rw [bI_t (hall i hi)]
            refine i_f (by decide) ?_
            rw [nI_1]
            exact hc
          · unfold w_X8_soonOf_L2
            by_cases q : m < 7
            · refine i_t (nI_ge (b := 7) q (by decide)) (gd m _ q ?_)
              rw [bI_f (hno q)]
              refine i_t rfl (due0 h ?_)
              rw [hx, if_pos q]
            · have : m = 7 := by omega
              subst this
              refine i_f (nn (n := 7) (by decide)) (due0 h ?_)
              rw [hx, if_neg q]
        unfold w_X7_soon
        have e7 : ∀ i, i < 7 → rmI (mnI (9999 : Int32) (nI dy + nI i)) (7 : Int32) = nI (min 9999 (dy + i) % 7) := fun i hi => by
          rw [day_N n5 (by omega)]
          exact rmN (a := min 9999 (dy + i)) (d := 7) (by omega) (by decide) (by decide)
        refine lp_to (fun i => nI i) m (by unfold sk_F; omega) (fun i hi c hc => ?_) (fun c => ?_)
        · unfold w_X7_soon_L2
          refine i_t (nI_ge (b := 7) (by omega) (by decide)) (sLet_i ?_)
          rw [e7 i (by omega)]
          refine i_f ?_ ?_
          · rw [bit0 (by omega) (by omega), hall i hi]
            simp
          · rw [nI_1]
            exact hc
        · unfold w_X7_soon_L2
          by_cases q : m < 7
          · refine i_t (nI_ge (b := 7) q (by decide)) (sLet_i ?_)
            rw [e7 m q]
            refine i_t ((bit0 (by omega) (by omega)).mpr (by simpa using hno q)) (fin _ ?_)
            rw [if_pos q]
          · have : m = 7 := by omega
            subst this
            refine i_f (nn (n := 7) (by decide)) (fin _ ?_)
            rw [if_neg q]
      · refine i_f (by decide) (i_f (by decide) (i_f (by decide) (i_f (by decide) (i_f (by decide) (i_f (by decide) (i_t rfl ⟨vin6, ?_⟩))))))
        rw [ecl, Nat.zero_add, v2]
        refine c7_longestGap hg ?_
        unfold w_X8_vault
        refine pre _ 6 _ (by decide) ?_ _
        refine i_f (by decide) (i_f (by decide) (i_t rfl (s8_of (k := 1) (by omega) (by decide) ?_)))
        rw [show 10 + 4 * v + 1 = 11 + 4 * v by omega, show (sk_si (sk_sl M 158 0 _) 140 0 0).1 141 (11 + 4 * v) = nI g from w2]
        exact s8_longOf hg (due0 h rfl)
    · refine i_f (ne_of_out (k := 0) hb (by decide) (by decide)) (i_f (ne_of_out (k := 1) hb (by decide) (by decide)) (i_f (ne_of_out (k := 2) hb (by decide) (by decide)) (i_f (ne_of_out (k := 3) hb (by decide) (by decide)) (i_f (ne_of_out (k := 4) hb (by decide) (by decide)) (i_f (ne_of_out (k := 5) hb (by decide) (by decide)) (i_f (ne_of_out (k := 6) hb (by decide) (by decide)) ⟨1, rfl, ?_⟩))))))
      unfold w_X8_vault
      refine g8_V_y' (nv := nv) hW.1 n1 hv (sLet_i (gN ?_ (dueX h rfl)))
      rw [inN_n 7 (by decide) (by decide) hb, if_pos rfl]
  · unfold w_X8_vault
    exact g8_V_n' hW.1 n1 hv (dueX h rfl)
