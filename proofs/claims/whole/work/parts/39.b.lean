/-! deaf, loudest -/
theorem c5_wheelRange {M : sk_M} {Q : Int32 → Prop} {w t : Nat} (hw : w < 3) (ht : t < 6) (h : Q (wRng (M.1 7) w t)) : w_X5_wheelRange 0 (nI w) (nI t) M Q := by
  unfold w_X5_wheelRange
  refine ⟨vp_in_nI hw (by decide), vp_in_nI ht (by decide), ?_⟩
  rw [nI_clamp (by omega), nI_clamp (by omega)]
  exact h
def dfW (cl : Nat → Int32) (w : Nat) : Prop := ∀ t, t < 6 → eqW cl w t
theorem eqW_cg {f g : Nat → Int32} {w t : Nat} (hw : w < 3) (ht : t < 6) (h : ∀ i, i < 108 → f i = g i) : eqW f w t ↔ eqW g w t := by
  unfold eqW
  constructor
  · intro q c hc
    rw [← h _ (by omega), ← h _ (by omega)]
    exact q c hc
  · intro q c hc
    rw [h _ (by omega), h _ (by omega)]
    exact q c hc
theorem all_s {P : Nat → Prop} {n : Nat} (h : P n) : (∀ k, k < n + 1 → P k) ↔ ∀ k, k < n → P k :=
  ⟨fun q k hk => q k (by omega), fun q k hk => by rcases Nat.lt_succ_iff_lt_or_eq.mp hk with z | z; exact q k z; subst z; exact h⟩
theorem st_deaf {M : sk_M} (h : Inv M) : StN Inv (fun Q => w_X7_deaf M (fun r => Q r M)) w_X8_deaf := by
  unfold StN w_X7_deaf
  have hL := h.1.2
  refine lp_to (fun w => (bitsP (dfW (M.1 7)) w, nI w)) 3 (by decide) (fun w hw c hc => ?_) (fun c => ?_)
  · unfold w_X7_deaf_L4
    refine i_t (nI_ge hw (by decide)) ?_
    have e0 : ((1 : Int32), (0 : Int32)) = (bI (∀ t, t < 0 → eqW (M.1 7) w t), nI 0) := by
      rw [bI_t (fun t ht => absurd ht (by omega))]
      rfl
    rw [e0]
    refine lp_to (fun t => (bI (∀ k, k < t → eqW (M.1 7) w k), nI t)) 6 (by decide) (fun t ht c2 hc2 => ?_) (fun c2 => ?_)
    · unfold w_X7_deaf_L14
      refine i_t (nI_ge ht (by decide)) ?_
      refine i_b (fun q => c5_wheelRange hw ht (i_b (fun q2 => ?_) (fun q2 => ?_))) (fun q => ?_)
      · rw [bI_t ((all_s (wRng_0.mp q2)).mpr (bI_n.mp q))] at hc2
        show c2 (1, nI t + 1)
        rw [nI_1]
        exact hc2
      · rw [bI_f (fun z => q2 (wRng_0.mpr (z t (by omega))))] at hc2
        show c2 (0, nI t + 1)
        rw [nI_1]
        exact hc2
      · rw [bI_f (fun z => q (bI_n.mpr (fun k hk => z k (by omega))))] at hc2
        show c2 (0, nI t + 1)
        rw [nI_1]
        exact hc2
    · unfold w_X7_deaf_L14
      refine i_f (nn (n := 6) (by decide)) ?_
      refine i_b (fun q => sLet_i ?_) (fun q => ?_)
      · show c (bitsP (dfW (M.1 7)) w ||| ((1 : Int32) <<< (nI w &&& 31)), nI w + 1)
        rw [nI_1, bitsP_t (P := dfW (M.1 7)) (bI_n.mp q)]
        exact hc
      · show c (bitsP (dfW (M.1 7)) w, nI w + 1)
        rw [nI_1, bitsP_f (P := dfW (M.1 7)) (fun z => q (bI_n.mpr z))]
        exact hc
  · unfold w_X7_deaf_L4
    refine i_f (nn (n := 3) (by decide)) ?_
    unfold w_X8_deaf
    refine sLet_i (s8_laysClicks (cl := M.1 7) hL.2.1 (fun M' hM' => ?_))
    obtain ⟨s1, s2⟩ := hM'.sc0
    refine lp_to (fun w => (bitsP (dfW (M'.1 154)) w, nI w)) 3 (by decide) (fun w hw c hc => ?_) (fun c => ?_)
    · unfold w_X8_deaf_L13
      refine i_t (nI_ge hw (by decide)) ?_
      have e0 : ((1 : Int32), (0 : Int32)) = (bI (∀ t, t < 0 → eqW (M'.1 154) w t), nI 0) := by
        rw [bI_t (fun t ht => absurd ht (by omega))]
        rfl
      rw [e0]
      refine lp_to (fun t => (bI (∀ k, k < t → eqW (M'.1 154) w k), nI t)) 6 (by decide) (fun t ht c2 hc2 => ?_) (fun c2 => ?_)
      · unfold w_X8_deaf_L23
        refine i_t (nI_ge ht (by decide)) ?_
        -- the codes, from 1 on
        have go : lp (w_X8_deaf_L33 M' (bitsP (dfW (M'.1 154)) w, nI w) (bI (∀ k, k < t → eqW (M'.1 154) w k), nI t) (fun s84 : Int32 => c2 (s84, (nI t + (1 : Int32))))) sk_F (bI ((∀ k, k < t → eqW (M'.1 154) w k) ∧ ∀ x, x < 0 + 1 → M'.1 154 (36 * w + 6 * t + x) = M'.1 154 (36 * w + 6 * t)), nI (0 + 1)) := by
          refine lp_to (fun x => (bI ((∀ k, k < t → eqW (M'.1 154) w k) ∧ ∀ y, y < x + 1 → M'.1 154 (36 * w + 6 * t + y) = M'.1 154 (36 * w + 6 * t)), nI (x + 1))) 5 (by decide) (fun x hx c3 hc3 => ?_) (fun c3 => ?_)
          · unfold w_X8_deaf_L33
            refine i_t (nI_ge (a := x + 1) (b := 6) (by omega) (by decide)) ?_
            have ez : f_X8_clickAt (nI w) (nI t) (0 : Int32) = nI (36 * w + 6 * t) := by
              rw [show (0 : Int32) = nI 0 from rfl, clk_N]
              congr 1
              omega
            refine i_b (fun q => ?_) (fun q => ?_)
            · show vp_in (f_X8_clickAt (nI w) (nI t) (nI (x + 1))) 108 ∧ vp_in (f_X8_clickAt (nI w) (nI t) (0 : Int32)) 108 ∧ if (M'.1 154 (f_X8_clickAt (nI w) (nI t) (nI (x + 1))).toNatClampNeg = M'.1 154 (f_X8_clickAt (nI w) (nI t) (0 : Int32)).toNatClampNeg) then c3 (1, nI (x + 1) + 1) else c3 (0, nI (x + 1) + 1)
              rw [ez, clk_N, nI_clamp (by omega), nI_clamp (by omega), show 6 * (6 * w + t) + (x + 1) = 36 * w + 6 * t + (x + 1) by omega, nI_1]
              refine ⟨vp_in_nI (by omega) (by decide), vp_in_nI (by omega) (by decide), ?_⟩
              have q' := bI_n.mp q
              refine i_b (fun q2 => ?_) (fun q2 => ?_)
              · rw [bI_t ⟨q'.1, (all_s (P := fun y => M'.1 154 (36 * w + 6 * t + y) = M'.1 154 (36 * w + 6 * t)) q2).mpr q'.2⟩] at hc3
                exact hc3
              · rw [bI_f (fun z => q2 (z.2 (x + 1) (by omega)))] at hc3
                exact hc3
            · show c3 (0, nI (x + 1) + 1)
              rw [nI_1]
              rw [bI_f (fun z => q (bI_n.mpr ⟨z.1, fun y hy => z.2 y (by omega)⟩))] at hc3
              exact hc3
          · unfold w_X8_deaf_L33
            refine i_f (nn (n := 6) (by decide)) ?_
            show c2 (bI _, nI t + 1)
            rw [nI_1]
            have e : ((∀ k, k < t → eqW (M'.1 154) w k) ∧ ∀ y, y < 5 + 1 → M'.1 154 (36 * w + 6 * t + y) = M'.1 154 (36 * w + 6 * t)) ↔ ∀ k, k < t + 1 → eqW (M'.1 154) w k :=
              ⟨fun z => (all_s (P := fun k => eqW (M'.1 154) w k) z.2).mpr z.1, fun z => ⟨fun k hk => z k (by omega), z t (by omega)⟩⟩
            rw [bI_cg e]
            exact hc2
        have ea : bI ((∀ k, k < t → eqW (M'.1 154) w k) ∧ ∀ x, x < 0 + 1 → M'.1 154 (36 * w + 6 * t + x) = M'.1 154 (36 * w + 6 * t)) = bI (∀ k, k < t → eqW (M'.1 154) w k) :=
          bI_cg ⟨fun z => z.1, fun z => ⟨z, fun x hx => by have : x = 0 := by omega
                                                           subst this; rfl⟩⟩
        rw [ea] at go
        exact go
      · unfold w_X8_deaf_L23
        refine i_f (nn (n := 6) (by decide)) ?_
        refine i_b (fun q => sLet_i ?_) (fun q => sLet_i ?_)
        · show c (bitsP (dfW (M'.1 154)) w ||| ((1 : Int32) <<< (nI w &&& 31)), nI w + 1)
          rw [nI_1, bitsP_t (P := dfW (M'.1 154)) (bI_n.mp q)]
          exact hc
        · show c (bitsP (dfW (M'.1 154)) w ||| (0 : Int32), nI w + 1)
          rw [nI_1, or0I, bitsP_f (P := dfW (M'.1 154)) (fun z => q (bI_n.mpr z))]
          exact hc
    · unfold w_X8_deaf_L13
      refine i_f (nn (n := 3) (by decide)) ⟨?_, h.scR s1⟩
      exact bitsP_cg 3 (fun w hw => ⟨fun z t ht => (eqW_cg hw ht (fun i hi => (hM'.2.2 i hi).symm)).mp (z t ht), fun z t ht => (eqW_cg hw ht (fun i hi => (hM'.2.2 i hi).symm)).mpr (z t ht)⟩)
/-- the loudness of a turning: the wheels' ranges summed up -/
def rg7 (cl : Nat → Int32) (t : Nat) : Int32 := wRng cl 0 (t / 36) + wRng cl 1 (t / 6 % 6) + wRng cl 2 (t % 6)
def hiF (f : Nat → Int32) : Nat → Int32
  | 0 => -1000000
  | n + 1 => mxI (hiF f n) (f n)
def loF (f : Nat → Int32) : Nat → Int32
  | 0 => 1000000
  | n + 1 => mnI (loF f n) (f n)
theorem hiF_p {f : Nat → Int32} : ∀ n, (∀ i, i < n → f i ≤ hiF f n) ∧ (hiF f n = -1000000 ∨ ∃ i, i < n ∧ hiF f n = f i)
  | 0 => ⟨fun i hi => absurd hi (by omega), Or.inl rfl⟩
  | n + 1 => by
    obtain ⟨h1, h2⟩ := hiF_p (f := f) n
    obtain ⟨q1, q2, q3⟩ := mxI_le (x := hiF f n) (y := f n)
    refine ⟨fun i hi => ?_, ?_⟩
    · rcases Nat.lt_succ_iff_lt_or_eq.mp hi with z | z
      · exact le_trI (h1 i z) q1
      · subst z; exact q2
    · rcases q3 with q | q
      · rcases h2 with r | ⟨i, hi, r⟩
        · exact Or.inl (q.trans r)
        · exact Or.inr ⟨i, by omega, q.trans r⟩
      · exact Or.inr ⟨n, by omega, q⟩
theorem loF_p {f : Nat → Int32} : ∀ n, (∀ i, i < n → loF f n ≤ f i) ∧ (loF f n = 1000000 ∨ ∃ i, i < n ∧ loF f n = f i)
  | 0 => ⟨fun i hi => absurd hi (by omega), Or.inl rfl⟩
  | n + 1 => by
    obtain ⟨h1, h2⟩ := loF_p (f := f) n
    obtain ⟨q1, q2, q3⟩ := mnI_le (x := loF f n) (y := f n)
    refine ⟨fun i hi => ?_, ?_⟩
    · rcases Nat.lt_succ_iff_lt_or_eq.mp hi with z | z
      · exact le_trI q1 (h1 i z)
      · subst z; exact q2
    · rcases q3 with q | q
      · rcases h2 with r | ⟨i, hi, r⟩
        · exact Or.inl (q.trans r)
        · exact Or.inr ⟨i, by omega, q.trans r⟩
      · exact Or.inr ⟨n, by omega, q⟩
theorem subI {x y : Int32} (h1 : -2147483648 ≤ x.toInt - y.toInt) (h2 : x.toInt - y.toInt < 2147483648) : (x - y).toInt = x.toInt - y.toInt := by
  rw [Int32.toInt_sub, Int.bmod_eq_of_le (by omega) (by omega)]
theorem rg_eq {cl : Nat → Int32} (h : clB cl) {t : Nat} (ht : t < 216) : hiF (sndC cl t) 216 - loF (sndC cl t) 216 = rg7 cl t := by
  unfold rg7 wRng
  obtain ⟨a1, ia, hia, a2⟩ := mxR_p (f := cl) (a := 36 * 0 + 6 * (t / 36)) 5
  obtain ⟨b1, jb, hjb, b2⟩ := mxR_p (f := cl) (a := 36 * 1 + 6 * (t / 6 % 6)) 5
  obtain ⟨d1, kd, hkd, d2⟩ := mxR_p (f := cl) (a := 36 * 2 + 6 * (t % 6)) 5
  obtain ⟨a3, ia', hia', a4⟩ := mnR_p (f := cl) (a := 36 * 0 + 6 * (t / 36)) 5
  obtain ⟨b3, jb', hjb', b4⟩ := mnR_p (f := cl) (a := 36 * 1 + 6 * (t / 6 % 6)) 5
  obtain ⟨d3, kd', hkd', d4⟩ := mnR_p (f := cl) (a := 36 * 2 + 6 * (t % 6)) 5
  have r1 := h (36 * 0 + 6 * (t / 36) + ia) (by omega)
  have r2 := h (36 * 1 + 6 * (t / 6 % 6) + jb) (by omega)
  have r3 := h (36 * 2 + 6 * (t % 6) + kd) (by omega)
  have r4 := h (36 * 0 + 6 * (t / 36) + ia') (by omega)
  have r5 := h (36 * 1 + 6 * (t / 6 % 6) + jb') (by omega)
  have r6 := h (36 * 2 + 6 * (t % 6) + kd') (by omega)
  have si : ∀ c, c < 216 → (sndC cl t c).toInt = (cl (36 * 0 + 6 * (t / 36) + c / 36)).toInt + (cl (36 * 1 + 6 * (t / 6 % 6) + c / 6 % 6)).toInt + (cl (36 * 2 + 6 * (t % 6) + c % 6)).toInt := fun c hc => by
    rw [snd_int h ht hc, show t / 36 * 6 + c / 36 = 36 * 0 + 6 * (t / 36) + c / 36 by omega, show 36 + t / 6 % 6 * 6 + c / 6 % 6 = 36 * 1 + 6 * (t / 6 % 6) + c / 6 % 6 by omega, show 72 + t % 6 * 6 + c % 6 = 36 * 2 + 6 * (t % 6) + c % 6 by omega]
  have sb : ∀ c, c < 216 → -3564 ≤ (sndC cl t c).toInt ∧ (sndC cl t c).toInt ≤ 3564 := fun c hc => by
    have u1 := h (36 * 0 + 6 * (t / 36) + c / 36) (by omega)
    have u2 := h (36 * 1 + 6 * (t / 6 % 6) + c / 6 % 6) (by omega)
    have u3 := h (36 * 2 + 6 * (t % 6) + c % 6) (by omega)
    rw [si c hc]
    omega
  obtain ⟨h1, h2⟩ := hiF_p (f := sndC cl t) 216
  obtain ⟨l1, l2⟩ := loF_p (f := sndC cl t) 216
  have hiE : (hiF (sndC cl t) 216).toInt = (mxR cl (36 * 0 + 6 * (t / 36)) 5).toInt + (mxR cl (36 * 1 + 6 * (t / 6 % 6)) 5).toInt + (mxR cl (36 * 2 + 6 * (t % 6)) 5).toInt := by
    have low := h1 (36 * ia + 6 * jb + kd) (by omega)
    rw [Int32.le_iff_toInt_le, si _ (by omega), show (36 * ia + 6 * jb + kd) / 36 = ia by omega, show (36 * ia + 6 * jb + kd) / 6 % 6 = jb by omega, show (36 * ia + 6 * jb + kd) % 6 = kd by omega, ← a2, ← b2, ← d2] at low
    rcases h2 with q | ⟨c, hc, q⟩
    · have := congrArg Int32.toInt q
      rw [show (-1000000 : Int32).toInt = -1000000 by decide] at this
      rw [a2, b2, d2] at low
      omega
    · have e := si c hc
      rw [← q] at e
      have x1 := a1 (c / 36) (by omega)
      have x2 := b1 (c / 6 % 6) (by omega)
      have x3 := d1 (c % 6) (by omega)
      rw [Int32.le_iff_toInt_le] at x1 x2 x3
      omega
  have loE : (loF (sndC cl t) 216).toInt = (mnR cl (36 * 0 + 6 * (t / 36)) 5).toInt + (mnR cl (36 * 1 + 6 * (t / 6 % 6)) 5).toInt + (mnR cl (36 * 2 + 6 * (t % 6)) 5).toInt := by
    have low := l1 (36 * ia' + 6 * jb' + kd') (by omega)
    rw [Int32.le_iff_toInt_le, si _ (by omega), show (36 * ia' + 6 * jb' + kd') / 36 = ia' by omega, show (36 * ia' + 6 * jb' + kd') / 6 % 6 = jb' by omega, show (36 * ia' + 6 * jb' + kd') % 6 = kd' by omega, ← a4, ← b4, ← d4] at low
    rcases l2 with q | ⟨c, hc, q⟩
    · have := congrArg Int32.toInt q
      rw [show (1000000 : Int32).toInt = 1000000 by decide] at this
      rw [a4, b4, d4] at low
      omega
    · have e := si c hc
      rw [← q] at e
      have x1 := a3 (c / 36) (by omega)
      have x2 := b3 (c / 6 % 6) (by omega)
      have x3 := d3 (c % 6) (by omega)
      rw [Int32.le_iff_toInt_le] at x1 x2 x3
      omega
  rw [← a2] at r1
  rw [← b2] at r2
  rw [← d2] at r3
  rw [← a4] at r4
  rw [← b4] at r5
  rw [← d4] at r6
  have s1 := subI (x := mxR cl (36 * 0 + 6 * (t / 36)) 5) (y := mnR cl (36 * 0 + 6 * (t / 36)) 5) (by omega) (by omega)
  have s2 := subI (x := mxR cl (36 * 1 + 6 * (t / 6 % 6)) 5) (y := mnR cl (36 * 1 + 6 * (t / 6 % 6)) 5) (by omega) (by omega)
  have s3 := subI (x := mxR cl (36 * 2 + 6 * (t % 6)) 5) (y := mnR cl (36 * 2 + 6 * (t % 6)) 5) (by omega) (by omega)
  apply Int32.toInt_inj.mp
  rw [subI (by omega) (by omega), sk_addI (by rw [sk_addI (by omega) (by omega)]; omega) (by rw [sk_addI (by omega) (by omega)]; omega), sk_addI (by omega) (by omega)]
  omega
theorem hiF_cg {f g : Nat → Int32} : ∀ n, (∀ j, j < n → f j = g j) → hiF f n = hiF g n ∧ loF f n = loF g n
  | 0, _ => ⟨rfl, rfl⟩
  | n + 1, h => by
    obtain ⟨a, b⟩ := hiF_cg n (fun j hj => h j (by omega))
    simp only [hiF, loF]
    rw [a, b, h n (by omega)]
    exact ⟨rfl, rfl⟩
theorem s8_rangeOf {M : sk_M} {Q : Int32 → Prop} {t : Nat} (ht : t < 216) (h : Q (hiF (sndC (M.1 154) t) 216 - loF (sndC (M.1 154) t) 216)) : w_X8_rangeOf (nI t) M Q := by
  unfold w_X8_rangeOf
  refine lp_to (fun i => (hiF (sndC (M.1 154) t) i, loF (sndC (M.1 154) t) i, nI i)) 216 (by decide) (fun i hi c hc => ?_) (fun c => ?_)
  · unfold w_X8_rangeOf_L11
    refine i_t (nI_ge hi (by decide)) (s8_soundOf ht hi (sLet_i (s8_soundOf ht hi (sLet_i ?_))))
    show c (_, _, nI i + 1)
    rw [nI_1]
    exact hc
  · unfold w_X8_rangeOf_L11
    refine i_f (nn (n := 216) (by decide)) ?_
    dsimp only
    exact h
/-- the loudest so far -/
def ldF (R : Nat → Int32) : Nat → Nat
  | 0 => 0
  | n + 1 => if R (ldF R n) < R (n + 1) then n + 1 else ldF R n
theorem ldF_le {R : Nat → Int32} : ∀ n, ldF R n ≤ n
  | 0 => Nat.le_refl 0
  | n + 1 => by
    have := ldF_le (R := R) n
    simp only [ldF]
    split <;> omega
theorem st_loudest {M : sk_M} (h : Inv M) : StN Inv (fun Q => w_X7_loudest M (fun r => Q r M)) w_X8_loudest := by
  unfold StN w_X7_loudest
  have hL := h.1.2
  have c5 : ∀ (Q : Int32 → Prop) (t : Nat), t < 216 → Q (rg7 (M.1 7) t) → w_X5_rangeOf 0 (nI t) M Q := fun Q t ht hq => by
    unfold w_X5_rangeOf
    refine ⟨vp_in_nI ht (by decide), ?_⟩
    rw [nI_clamp (by omega)]
    exact hq
  refine c5 _ 0 (by decide) ?_
  refine lp_to (fun i => (nI (ldF (rg7 (M.1 7)) i), rg7 (M.1 7) (ldF (rg7 (M.1 7)) i), nI (i + 1))) 215 (by decide) (fun i hi c hc => ?_) (fun c => ?_)
  · unfold w_X7_loudest_L13
    refine i_t (nI_ge (a := i + 1) (b := 216) (by omega) (by decide)) (c5 _ (i + 1) (by omega) ?_)
    refine i_b (fun q => ?_) (fun q => ?_)
    · show c (nI (i + 1), rg7 (M.1 7) (i + 1), nI (i + 1) + 1)
      rw [nI_1]
      simp only [ldF, if_pos (nlt_le.mp q)] at hc
      exact hc
    · show c (_, _, nI (i + 1) + 1)
      rw [nI_1]
      simp only [ldF, if_neg (fun z => q (nlt_le.mpr z))] at hc
      exact hc
  · unfold w_X7_loudest_L13
    refine i_f (nn (n := 216) (by decide)) ?_
    unfold w_X8_loudest
    refine sLet_i (s8_laysClicks (cl := M.1 7) hL.2.1 (fun M' hM' => ?_))
    obtain ⟨s1, s2⟩ := hM'.sc0
    have r8 : ∀ (Q : Int32 → Prop) (t : Nat), t < 216 → Q (rg7 (M.1 7) t) → w_X8_rangeOf (nI t) M' Q := fun Q t ht hq => by
      refine s8_rangeOf ht ?_
      obtain ⟨g1, g2⟩ := hiF_cg (f := sndC (M'.1 154) t) (g := sndC (M.1 7) t) 216 (fun j hj => sndC_cg hM'.2.2 ht hj)
      rw [g1, g2, rg_eq hL.1 ht]
      exact hq
    refine lp_to (fun i => (nI (ldF (rg7 (M.1 7)) i), nI (i + 1))) 215 (by decide) (fun i hi c hc => ?_) (fun c => ?_)
    · unfold w_X8_loudest_L13
      have hle := ldF_le (R := rg7 (M.1 7)) i
      refine i_t (nI_ge (a := i + 1) (b := 216) (by omega) (by decide)) (r8 _ (i + 1) (by omega) (r8 _ _ (by omega) ?_))
      refine i_b (fun q => ?_) (fun q => ?_)
      · show c (nI (i + 1), nI (i + 1) + 1)
        rw [nI_1]
        simp only [ldF, if_pos (nlt_le.mp q)] at hc
        exact hc
      · show c (_, nI (i + 1) + 1)
        rw [nI_1]
        simp only [ldF, if_neg (fun z => q (nlt_le.mpr z))] at hc
        exact hc
    · unfold w_X8_loudest_L13
      exact i_f (nn (n := 216) (by decide)) ⟨rfl, h.scR s1⟩
