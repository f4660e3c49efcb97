/-! the class's small methods, and what the tie gives -/
theorem n7_V_y {M : sk_M} {a : Int32} {n : Nat} {Q : Prop} {X : String → Prop} (e : M.1 0 0 = nI n) (hn : n ≤ 6) (h : vp_in a n) (hq : Q) : w_X7_needVault a M Q X := by
  unfold w_X7_needVault
  rw [e]
  exact i_f (vp_yes (by omega) h) hq
theorem n7_V_n {M : sk_M} {a : Int32} {n : Nat} {Q : Prop} {X : String → Prop} (e : M.1 0 0 = nI n) (hn : n ≤ 6) (h : ¬ vp_in a n) (hq : X "java/lang/IndexOutOfBoundsException") : w_X7_needVault a M Q X := by
  unfold w_X7_needVault
  rw [e]
  exact i_t (vp_no (by omega) h) hq
theorem n7_P_y {M : sk_M} {a : Int32} {n : Nat} {Q : Prop} {X : String → Prop} (e : M.1 0 1 = nI n) (hn : n ≤ 6) (h : vp_in a n) (hq : Q) : w_X7_needPerson a M Q X := by
  unfold w_X7_needPerson
  rw [e]
  exact i_f (vp_yes (by omega) h) hq
theorem n7_P_n {M : sk_M} {a : Int32} {n : Nat} {Q : Prop} {X : String → Prop} (e : M.1 0 1 = nI n) (hn : n ≤ 6) (h : ¬ vp_in a n) (hq : X "java/lang/IndexOutOfBoundsException") : w_X7_needPerson a M Q X := by
  unfold w_X7_needPerson
  rw [e]
  exact i_t (vp_no (by omega) h) hq
theorem n7_C_y {M : sk_M} {a : Int32} {Q : Prop} {X : String → Prop} (h : vp_in a 216) (hq : Q) : w_X7_needCode a M Q X := by
  unfold w_X7_needCode
  exact i_f (vp_yes (n := 216) (by omega) h) hq
theorem n7_C_n {M : sk_M} {a : Int32} {Q : Prop} {X : String → Prop} (h : ¬ vp_in a 216) (hq : X "java/lang/IndexOutOfBoundsException") : w_X7_needCode a M Q X := by
  unfold w_X7_needCode
  exact i_t (vp_no (n := 216) (by omega) h) hq
theorem n7_W_y {M : sk_M} {a : Int32} {Q : Prop} {X : String → Prop} (h : vp_in a 3) (hq : Q) : w_X7_needWheel a M Q X := by
  unfold w_X7_needWheel
  exact i_f (vp_yes (n := 3) (by omega) h) hq
theorem n7_W_n {M : sk_M} {a : Int32} {Q : Prop} {X : String → Prop} (h : ¬ vp_in a 3) (hq : X "java/lang/IndexOutOfBoundsException") : w_X7_needWheel a M Q X := by
  unfold w_X7_needWheel
  exact i_t (vp_no (n := 3) (by omega) h) hq
theorem c5_leftOf {M : sk_M} {Q : Int32 → Prop} {b p v : Nat} (hp : p < 6) (hv : v < 6) (h : Q (leftP (M.2 (b + 9)) (4 * (6 * p + v)) 4)) : w_X5_leftOf b (nI p) (nI v) M Q := by
  unfold w_X5_leftOf
  simp (disch := omega) only [vpT, nI_clamp]
  exact ⟨trivial, trivial, h⟩
theorem c5_soundOf {M : sk_M} {Q : Int32 → Prop} {b t c : Nat} (ht : t < 216) (hc : c < 216) (h : Q (sndC (M.1 (b + 7)) t c)) : w_X5_soundOf b (nI t) (nI c) M Q := by
  unfold w_X5_soundOf
  simp (disch := omega) only [vpT, nI_clamp]
  exact ⟨trivial, trivial, h⟩
theorem c5_isGuarded {M : sk_M} {Q : Int32 → Prop} {b v dy : Nat} (hv : v < 6) (e : M.1 b 5 = nI dy) (hd : dy ≤ 9999) (h : Q (bI (isG M b dy v))) : w_X5_isGuarded b (nI v) M Q := by
  unfold w_X5_isGuarded
  rw [e]
  simp (disch := omega) only [vpT, nI_clamp]
  exact ⟨trivial, trivial, h⟩
theorem c5_shareOf {M : sk_M} {Q : Int32 → Prop} {b p v : Nat} (hp : p < 6) (hv : v < 6) (h : Q (if leftP (M.2 (b + 9)) (4 * (6 * p + v)) 4 = 0 then 0 else M.1 (b + 3) v / leftP (M.2 (b + 9)) (4 * (6 * p + v)) 4)) : w_X5_shareOf b (nI p) (nI v) M Q := by
  unfold w_X5_shareOf
  simp (disch := omega) only [vpT, nI_clamp]
  exact ⟨trivial, trivial, h⟩
theorem c5_rowCell {M : sk_M} {Q : Int32 → Prop} {b a k nr : Nat} (ha : a < 80) (hk : k < 6) (e : M.1 b 11 = nI nr) (hn : nr < 80) (h : Q (M.1 (b + 8) ((nr + 79 - a) % 80 * 6 + k))) : w_X5_rowCell b (nI a) (nI k) M Q := by
  unfold w_X5_rowCell
  rw [e]
  simp (disch := omega) only [vpT, nI_clamp]
  exact ⟨trivial, trivial, trivial, h⟩
theorem c5_leftOfAll {M : sk_M} {Q : Int32 → Prop} {b v np : Nat} {set : Int32} (hv : v < 6) (e : M.1 b 1 = nI np) (hn : np ≤ 6) (h : Q (laP (M.2 (b + 9)) set v np 4)) : w_X5_leftOfAll b set (nI v) M Q := by
  unfold w_X5_leftOfAll
  rw [e]
  simp (disch := omega) only [vpT, nI_clamp]
  exact ⟨trivial, trivial, h⟩
theorem leftP_cg {f g : Nat → Int64} {a a' : Nat} : ∀ n, (∀ k, k < n → f (a + k) = g (a' + k)) → leftP f a n = leftP g a' n
  | 0, _ => rfl
  | n + 1, h => by
    simp only [leftP]
    rw [leftP_cg n (fun k hk => h k (by omega)), h n (by omega)]
theorem shP_cg {f g : Nat → Int64} {set : Int32} {v w : Nat} : ∀ n, (∀ p, p < n → f (4 * (6 * p + v) + w) = g (4 * (6 * p + v) + w)) → shP f set v w n = shP g set v w n
  | 0, _ => rfl
  | n + 1, h => by
    simp only [shP]
    rw [shP_cg n (fun k hk => h k (by omega)), h n (by omega)]
theorem laP_cg {f g : Nat → Int64} {set : Int32} {v np : Nat} : ∀ n, (∀ p, p < np → ∀ k, k < n → f (4 * (6 * p + v) + k) = g (4 * (6 * p + v) + k)) → laP f set v np n = laP g set v np n
  | 0, _ => rfl
  | n + 1, h => by
    simp only [laP]
    rw [laP_cg n (fun p hp k hk => h p hp k (by omega)), shP_cg np (fun p hp => h p hp n (by omega))]
theorem Rel.left {F : Nat → Nat → Int32} {KF : Nat → Int64} {W : Nat → Int32} {K : Nat → Int64} {nv np nc tx dy ch lg nr op : Nat} (h : Rel F KF W K nv np nc tx dy ch lg nr op) {p v : Nat} (hp : p < np) (hv : v < nv) : leftP KF (4 * (6 * p + v)) 4 = leftP K (4 * (6 * p + v)) 4 :=
  leftP_cg 4 (fun k hk => h.2.2.2.2.2.2.2.1.1 p hp v hv k hk)
theorem Rel.leftAll {F : Nat → Nat → Int32} {KF : Nat → Int64} {W : Nat → Int32} {K : Nat → Int64} {nv np nc tx dy ch lg nr op : Nat} (h : Rel F KF W K nv np nc tx dy ch lg nr op) {v : Nat} {set : Int32} (hv : v < nv) : laP KF set v np 4 = laP K set v np 4 :=
  laP_cg 4 (fun p hp k hk => h.2.2.2.2.2.2.2.1.1 p hp v hv k hk)
theorem shP_last {k : Nat → Int64} {set : Int32} {v w n : Nat} : shP k set v w (n + 1) = if (set >>> (nI n &&& 31)) &&& 1 = 1 then shP k set v w n &&& k (4 * (6 * n + v) + w) else shP k set v w n := rfl
theorem or0I (x : Int32) : x ||| 0 = x := by
  apply Int32.toBitVec_inj.mp
  simp
theorem and_m1L (x : Int64) : x &&& (-1) = x := by
  apply Int64.toBitVec_inj.mp
  simp
theorem has_N {a : Int32} {k : Nat} : f_X8_has a (nI k) = bI ((a >>> (nI k &&& 31)) &&& 1 = 1) := by
  unfold f_X8_has
  exact bI_if
/-- what a set of people leaves -/
theorem s8_leftBy {M : sk_M} {Q : Int32 → Prop} {set : Int32} {v np : Nat} (hv : v < 6) (e : M.1 141 1 = nI np) (hn : np ≤ 6) (h : Q (laP (M.2 146) set v np 4)) : w_X8_leftBy set (nI v) M Q := by
  unfold w_X8_leftBy
  refine lp_to (fun i => (laP (M.2 146) set v np i, nI i)) 4 (by decide) (fun i hi c hc => ?_) (fun c => ?_)
  · unfold w_X8_leftBy_L5
    refine i_t (nI_ge hi (by decide)) ?_
    have e0 : (if ¬ ((3 : Int32) ≤ nI i) then (-1 : Int64) else (16777215 : Int64)) = shP (M.2 146) set v i 0 := by
      have : i = 0 ∨ i = 1 ∨ i = 2 ∨ i = 3 := by omega
      rcases this with rfl | rfl | rfl | rfl <;> rfl
    show lp _ _ _
    simp only [e0]
    refine lp_to (fun q => (shP (M.2 146) set v i q, nI q)) np (by unfold sk_F; omega) (fun q hq c2 hc2 => ?_) (fun c2 => ?_)
    · unfold w_X8_leftBy_L31 f_X8_people
      rw [e]
      refine i_t (nI_ge hq (by omega)) ?_
      rw [has_N]
      refine i_b (fun g => ?_) (fun g => ?_)
      · simp (disch := omega) only [at_N, sk_lit, nI_add, pk_mul, pk_divN, rmN, pk_sub, nI_clamp, nI_leI, nI_ltI, nI_eq, vpT, mnN, mxN, sLet]
        refine ⟨trivial, ?_⟩
        rw [shP_last, if_pos (bI_n.mp g)] at hc2
        exact hc2
      · simp (disch := omega) only [sk_lit, nI_add, pk_mul, pk_divN, rmN, pk_sub, nI_clamp, nI_leI, nI_ltI, nI_eq, vpT, mnN, mxN, sLet, and_m1L]
        rw [shP_last, if_neg (fun q => g (bI_n.mpr q))] at hc2
        exact hc2
    · unfold w_X8_leftBy_L31 f_X8_people
      rw [e]
      refine i_f (fun q => q (nI_le (Nat.le_refl _) (by omega))) ?_
      simp (disch := omega) only [sk_lit, nI_add, pk_mul, pk_divN, rmN, pk_sub, nI_clamp, nI_leI, nI_ltI, nI_eq, vpT, mnN, mxN, sLet]
      exact hc
  · unfold w_X8_leftBy_L5
    exact i_f (nn (n := 4) (by decide)) h
