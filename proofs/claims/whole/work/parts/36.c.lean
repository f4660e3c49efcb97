/-! the reference's small methods -/
theorem g8_ok {M : sk_M} {Q : Int32 → sk_M → Prop} {b c : Int32} (hb : b = 0) (h : Q 0 M) : w_X8_throwsIf b c M Q := by
  subst hb
  unfold w_X8_throwsIf
  exact i_f (fun q => q rfl) ⟨Or.inl rfl, h⟩
theorem g8_no {M : sk_M} {Q : Int32 → sk_M → Prop} {b c : Int32} (hb : b = 1) (h : Q 1 (sk_si M 140 0 c)) : w_X8_throwsIf b c M Q := by
  subst hb
  unfold w_X8_throwsIf
  exact i_t (by decide) ⟨Or.inr rfl, h⟩
theorem noV_y {M : sk_M} {a : Int32} {n : Nat} (e : M.1 141 0 = nI n) (hn : n ≤ 6) (h : vp_in a n) : f_X8_noVault a M = 0 := by
  unfold f_X8_noVault f_X8_vaults
  rw [e, in_y (by omega) h, if_neg (by decide)]
theorem noV_n {M : sk_M} {a : Int32} {n : Nat} (e : M.1 141 0 = nI n) (hn : n ≤ 6) (h : ¬ vp_in a n) : f_X8_noVault a M = 1 := by
  unfold f_X8_noVault f_X8_vaults
  rw [e, in_n (by omega) h, if_pos rfl]
theorem noP_y {M : sk_M} {a : Int32} {n : Nat} (e : M.1 141 1 = nI n) (hn : n ≤ 6) (h : vp_in a n) : f_X8_noPerson a M = 0 := by
  unfold f_X8_noPerson f_X8_people
  rw [e, in_y (by omega) h, if_neg (by decide)]
theorem noP_n {M : sk_M} {a : Int32} {n : Nat} (e : M.1 141 1 = nI n) (hn : n ≤ 6) (h : ¬ vp_in a n) : f_X8_noPerson a M = 1 := by
  unfold f_X8_noPerson f_X8_people
  rw [e, in_n (by omega) h, if_pos rfl]
theorem noC_y {a : Int32} (h : vp_in a 216) : f_X8_noCode a = 0 := by
  unfold f_X8_noCode
  rw [inN_y 216 (by decide) (by decide) h, if_neg (by decide)]
theorem noC_n {a : Int32} (h : ¬ vp_in a 216) : f_X8_noCode a = 1 := by
  unfold f_X8_noCode
  rw [inN_n 216 (by decide) (by decide) h, if_pos rfl]
theorem at_N {p v : Nat} : f_X8_at (nI p) (nI v) = nI (4 * (6 * p + v)) := by
  unfold f_X8_at
  simp only [sk_lit, pk_mul, nI_add]
theorem s8_of {M : sk_M} {Q : Int32 → Prop} {v k : Nat} (hv : v < 6) (hk : k < 4) (h : Q (M.1 141 (10 + 4 * v + k))) : w_X8_of (nI v) (nI k) M Q := by
  unfold w_X8_of
  simp (disch := omega) only [sk_lit, nI_add, pk_mul, pk_divN, rmN, pk_sub, nI_clamp, nI_leI, nI_ltI, nI_eq, vpT, mnN, mxN]
  exact ⟨trivial, h⟩
theorem s8_sets {M : sk_M} {Q : sk_M → Prop} {v k : Nat} {x : Int32} (hv : v < 6) (hk : k < 4) (h : Q (sk_si M 141 (10 + 4 * v + k) x)) : w_X8_sets (nI v) (nI k) x M Q := by
  unfold w_X8_sets
  simp (disch := omega) only [sk_lit, nI_add, pk_mul, pk_divN, rmN, pk_sub, nI_clamp, nI_leI, nI_ltI, nI_eq, vpT, mnN, mxN, sLet]
  exact ⟨trivial, h⟩
theorem s8_ofC {M : sk_M} {Q : Int32 → Prop} {v k : Nat} (hv : v < 12) (hk : k < 4) (h : Q (M.1 141 (34 + 4 * v + k))) : w_X8_ofContract (nI v) (nI k) M Q := by
  unfold w_X8_ofContract
  simp (disch := omega) only [sk_lit, nI_add, pk_mul, pk_divN, rmN, pk_sub, nI_clamp, nI_leI, nI_ltI, nI_eq, vpT, mnN, mxN]
  exact ⟨trivial, h⟩
theorem s8_leftOf {M : sk_M} {Q : Int32 → Prop} {p v : Nat} (hp : p < 6) (hv : v < 6) (h : Q (leftP (M.2 146) (4 * (6 * p + v)) 4)) : w_X8_leftOf (nI p) (nI v) M Q := by
  unfold w_X8_leftOf
  refine lp_to (fun i => (leftP (M.2 146) (4 * (6 * p + v)) i, nI i)) 4 (by decide) (fun i hi c hc => ?_) (fun c => ?_)
  · unfold w_X8_leftOf_L5
    refine i_t (nI_ge hi (by decide)) ?_
    simp (disch := omega) only [at_N, sk_lit, nI_add, pk_mul, pk_divN, rmN, pk_sub, nI_clamp, nI_leI, nI_ltI, nI_eq, vpT, mnN, mxN, sLet]
    exact ⟨trivial, hc⟩
  · unfold w_X8_leftOf_L5
    exact i_f (nn (n := 4) (by decide)) h
theorem s8_canBe {M : sk_M} {Q : Int32 → Prop} {p v c : Nat} (hp : p < 6) (hv : v < 6) (hc : c < 216) (h : Q (bI (kbit (M.2 146) (4 * (6 * p + v)) c))) : w_X8_canBe (nI p) (nI v) (nI c) M Q := by
  unfold w_X8_canBe
  have h1 : c / 64 < 4 := by omega
  simp only [lg_cmp_eq]
  simp (disch := omega) only [at_N, sk_lit, nI_add, pk_mul, pk_divN, rmN, pk_sub, nI_clamp, nI_leI, nI_ltI, nI_eq, vpT, mnN, mxN]
  refine ⟨trivial, i_b (fun q => ?_) (fun q => ?_)⟩
  · rw [bI_t (show kbit (M.2 146) (4 * (6 * p + v)) c from q)] at h; exact h
  · rw [bI_f (show ¬ kbit (M.2 146) (4 * (6 * p + v)) c from q)] at h; exact h
theorem s8_isNot {M : sk_M} {Q : sk_M → Prop} {p v c : Nat} (hp : p < 6) (hv : v < 6) (hc : c < 216) (h : Q (sk_sl M 146 (4 * (6 * p + v) + c / 64) (M.2 146 (4 * (6 * p + v) + c / 64) &&& (((1 : Int64) <<< ((nI (c % 64)).toInt64 &&& 63)) ^^^ (-1 : Int64))))) : w_X8_isNot (nI p) (nI v) (nI c) M Q := by
  unfold w_X8_isNot
  have h1 : c / 64 < 4 := by omega
  simp (disch := omega) only [at_N, sk_lit, nI_add, pk_mul, pk_divN, rmN, pk_sub, nI_clamp, nI_leI, nI_ltI, nI_eq, vpT, mnN, mxN, sLet]
  exact ⟨trivial, trivial, h⟩
theorem s8_isAlone {M : sk_M} {Q : sk_M → Prop} {p v c : Nat} (hp : p < 6) (hv : v < 6) (hc : c < 216) (h : Q (sk_sl M 146 (4 * (6 * p + v) + c / 64) (M.2 146 (4 * (6 * p + v) + c / 64) ||| ((1 : Int64) <<< ((nI (c % 64)).toInt64 &&& 63))))) : w_X8_isAlone (nI p) (nI v) (nI c) M Q := by
  unfold w_X8_isAlone
  have h1 : c / 64 < 4 := by omega
  simp (disch := omega) only [at_N, sk_lit, nI_add, pk_mul, pk_divN, rmN, pk_sub, nI_clamp, nI_leI, nI_ltI, nI_eq, vpT, mnN, mxN, sLet]
  exact ⟨trivial, trivial, h⟩
theorem s8_forgets {M : sk_M} {Q : sk_M → Prop} {p v : Nat} (hp : p < 6) (hv : v < 6) (h : Q (fk M 146 (4 * (6 * p + v)) 4)) : w_X8_forgets (nI p) (nI v) M Q := by
  unfold w_X8_forgets
  refine lp_to (fun i => (nI i, fk M 146 (4 * (6 * p + v)) i)) 4 (by decide) (fun i hi c hc => ?_) (fun c => ?_)
  · unfold w_X8_forgets_L2
    refine i_t (nI_ge hi (by decide)) ?_
    by_cases h3 : i = 3
    · subst h3
      refine i_f (nn (n := 3) (by decide)) ?_
      simp (disch := omega) only [at_N, sk_lit, nI_add, pk_mul, pk_divN, rmN, pk_sub, nI_clamp, nI_leI, nI_ltI, nI_eq, vpT, mnN, mxN, sLet]
      exact ⟨trivial, hc⟩
    · refine i_t (nI_ge (b := 3) (by omega) (by decide)) ?_
      simp (disch := omega) only [at_N, sk_lit, nI_add, pk_mul, pk_divN, rmN, pk_sub, nI_clamp, nI_leI, nI_ltI, nI_eq, vpT, mnN, mxN, sLet]
      simp only [fk, kMask, if_neg h3] at hc
      exact ⟨trivial, hc⟩
  · unfold w_X8_forgets_L2
    exact i_f (nn (n := 4) (by decide)) h
/-- the first n people forget vault v -/
theorem s8_allForget {M : sk_M} {Q : sk_M → Prop} {v : Nat} (hv : v < 6) (h : Q (knA M 146 v 6)) : w_X8_allForget (nI v) M Q := by
  unfold w_X8_allForget
  refine lp_to (fun i => (nI i, knA M 146 v i)) 6 (by decide) (fun i hi c hc => ?_) (fun c => ?_)
  · unfold w_X8_allForget_L2
    refine i_t (nI_ge hi (by decide)) ?_
    refine s8_forgets hi hv ?_
    simp only [sk_lit, nI_add]
    exact hc
  · unfold w_X8_allForget_L2
    exact i_f (nn (n := 6) (by decide)) h
theorem clk_N {w t c : Nat} : f_X8_clickAt (nI w) (nI t) (nI c) = nI (6 * (6 * w + t) + c) := by
  unfold f_X8_clickAt
  simp only [sk_lit, pk_mul, nI_add]
/-- the sound out of the clicks laid -/
theorem s8_soundOf {M : sk_M} {Q : Int32 → Prop} {t c : Nat} (ht : t < 216) (hc : c < 216) (h : Q (sndC (M.1 154) t c)) : w_X8_soundOf (nI t) (nI c) M Q := by
  unfold w_X8_soundOf
  have h1 : t / 36 < 6 := by omega
  have h2 : c / 36 < 6 := by omega
  have h3 : t / 6 % 6 < 6 := by omega
  have h4 : c / 6 % 6 < 6 := by omega
  have h5 : t % 6 < 6 := by omega
  have h6 : c % 6 < 6 := by omega
  simp (disch := omega) only [sk_lit, pk_divN, rmN, clk_N, nI_clamp, vpT]
  refine ⟨trivial, trivial, trivial, ?_⟩
  have e1 : 6 * (6 * 0 + t / 36) + c / 36 = t / 36 * 6 + c / 36 := by omega
  have e2 : 6 * (6 * 1 + t / 6 % 6) + c / 6 % 6 = 36 + t / 6 % 6 * 6 + c / 6 % 6 := by omega
  have e3 : 6 * (6 * 2 + t % 6) + c % 6 = 72 + t % 6 * 6 + c % 6 := by omega
  simp only [e1, e2, e3]
  exact h
