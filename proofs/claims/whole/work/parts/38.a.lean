/-! questions of who knows how much: alone, together, gains, price, richest, risky, pair -/
def ib (x : Int32) (i : Nat) : Bool := x.toBitVec.getLsbD i
theorem i_l : ∀ k, k < 32 → ((nI k &&& 31).toBitVec.smod 32).toNat = k := by decide +kernel
theorem is_bit (x : Int32) {k : Nat} (hk : k < 32) : (x >>> (nI k &&& 31)) &&& 1 = 1 ↔ ib x k = true := by
  have e : (x >>> (nI k &&& 31)).toBitVec = x.toBitVec.sshiftRight k := by
    rw [Int32.toBitVec_shiftRight]
    show x.toBitVec.sshiftRight ((nI k &&& 31).toBitVec.smod 32).toNat = _
    rw [i_l k hk]
  unfold ib
  rw [← Int32.toBitVec_inj, Int32.toBitVec_and, e]
  show x.toBitVec.sshiftRight k &&& 1#32 = 1#32 ↔ _
  constructor
  · intro h
    have t : (x.toBitVec.sshiftRight k &&& 1#32).getLsbD 0 = (1#32).getLsbD 0 := by rw [h]
    rw [BitVec.getLsbD_and, BitVec.getLsbD_sshiftRight] at t
    simpa [hk] using t
  · intro h
    apply BitVec.eq_of_getLsbD_eq
    intro i hi
    rw [BitVec.getLsbD_and, BitVec.getLsbD_sshiftRight]
    cases i with
    | zero => simp [hk, h]
    | succ i => simp
theorem ib_and (x y : Int32) (i : Nat) : ib (x &&& y) i = (ib x i && ib y i) := by unfold ib; rw [Int32.toBitVec_and, BitVec.getLsbD_and]
theorem ib_N {n i : Nat} (hi : i < 32) : ib (nI n) i = n.testBit i := by
  show (BitVec.ofNat 32 n).getLsbD i = _
  rw [BitVec.getLsbD_ofNat]
  simp [hi]
theorem all_N {n : Nat} (hn : n < 31) : ((1 : Int32) <<< (nI n &&& 31)) - 1 = nI (2 ^ n - 1) := by
  rw [one_N n hn]
  have h1 : 1 ≤ 2 ^ n := Nat.one_le_two_pow
  exact pk_sub (a := 2 ^ n) (b := 1) h1
theorem shP_set {k : Nat → Int64} {s s' : Int32} {v w : Nat} : ∀ n, (∀ p, p < n → ((s >>> (nI p &&& 31)) &&& 1 = 1 ↔ (s' >>> (nI p &&& 31)) &&& 1 = 1)) → shP k s v w n = shP k s' v w n
  | 0, _ => rfl
  | n + 1, h => by
    rw [shP_last, shP_last, shP_set n (fun p hp => h p (by omega))]
    by_cases q : (s >>> (nI n &&& 31)) &&& 1 = 1
    · rw [if_pos q, if_pos ((h n (by omega)).mp q)]
    · rw [if_neg q, if_neg (fun z => q ((h n (by omega)).mpr z))]
theorem laP_set {k : Nat → Int64} {s s' : Int32} {v np : Nat} (h : ∀ p, p < np → ((s >>> (nI p &&& 31)) &&& 1 = 1 ↔ (s' >>> (nI p &&& 31)) &&& 1 = 1)) : ∀ n, laP k s v np n = laP k s' v np n
  | 0 => rfl
  | n + 1 => by
    simp only [laP]
    rw [laP_set h n, shP_set np h]
theorem mask_set {s : Int32} {np p : Nat} (hn : np ≤ 6) (hp : p < np) : ((s &&& nI (2 ^ np - 1)) >>> (nI p &&& 31)) &&& 1 = 1 ↔ (s >>> (nI p &&& 31)) &&& 1 = 1 := by
  rw [is_bit _ (by omega), is_bit _ (by omega), ib_and, ib_N (by omega), Nat.testBit_two_pow_sub_one, decide_eq_true hp, Bool.and_true]
theorem bitsP_cg {P P' : Nat → Prop} : ∀ n, (∀ j, j < n → (P j ↔ P' j)) → bitsP P n = bitsP P' n
  | 0, _ => rfl
  | n + 1, h => by
    have ih := bitsP_cg n (fun j hj => h j (by omega))
    by_cases q : P n
    · rw [← bitsP_t q, ← bitsP_t ((h n (by omega)).mp q), ih]
    · rw [← bitsP_f q, ← bitsP_f (fun z => q ((h n (by omega)).mpr z)), ih]
theorem sumI_cg {f g : Nat → Int32} : ∀ n, (∀ j, j < n → f j = g j) → sumI f n = sumI g n
  | 0, _ => rfl
  | n + 1, h => by
    simp only [sumI]
    rw [sumI_cg n (fun j hj => h j (by omega)), h n (by omega)]
/-- the class's guards -/
theorem n7_PV {M : sk_M} {a b : Int32} {np nv : Nat} {Q : Prop} {X : String → Prop} (eP : M.1 0 1 = nI np) (eV : M.1 0 0 = nI nv) (n1 : np ≤ 6) (n2 : nv ≤ 6) (hy : ∀ p v, p < np → v < nv → a = nI p → b = nI v → Q) (hn : ¬ vp_in a np ∨ ¬ vp_in b nv → X "java/lang/IndexOutOfBoundsException") : w_X7_needPerson a M (w_X7_needVault b M Q X) X := by
  by_cases hp : vp_in a np
  · refine n7_P_y eP n1 hp ?_
    by_cases hv : vp_in b nv
    · obtain ⟨p, hp', e⟩ := vp_in_of hp (by omega)
      obtain ⟨v, hv', e'⟩ := vp_in_of hv (by omega)
      exact n7_V_y eV n2 hv (hy p v hp' hv' e e')
    · exact n7_V_n eV n2 hv (hn (Or.inr hv))
  · exact n7_P_n eP n1 hp (hn (Or.inl hp))
theorem n7_V {M : sk_M} {b : Int32} {nv : Nat} {Q : Prop} {X : String → Prop} (eV : M.1 0 0 = nI nv) (n2 : nv ≤ 6) (hy : ∀ v, v < nv → b = nI v → Q) (hn : ¬ vp_in b nv → X "java/lang/IndexOutOfBoundsException") : w_X7_needVault b M Q X := by
  by_cases hv : vp_in b nv
  · obtain ⟨v, hv', e'⟩ := vp_in_of hv (by omega)
    exact n7_V_y eV n2 hv (hy v hv' e')
  · exact n7_V_n eV n2 hv (hn hv)
theorem n7_P {M : sk_M} {b : Int32} {nv : Nat} {Q : Prop} {X : String → Prop} (eV : M.1 0 1 = nI nv) (n2 : nv ≤ 6) (hy : ∀ v, v < nv → b = nI v → Q) (hn : ¬ vp_in b nv → X "java/lang/IndexOutOfBoundsException") : w_X7_needPerson b M Q X := by
  by_cases hv : vp_in b nv
  · obtain ⟨v, hv', e'⟩ := vp_in_of hv (by omega)
    exact n7_P_y eV n2 hv (hy v hv' e')
  · exact n7_P_n eV n2 hv (hn hv)
theorem n7_C {M : sk_M} {b : Int32} {Q : Prop} {X : String → Prop} (hy : ∀ v, v < 216 → b = nI v → Q) (hn : ¬ vp_in b 216 → X "java/lang/IndexOutOfBoundsException") : w_X7_needCode b M Q X := by
  by_cases hv : vp_in b 216
  · obtain ⟨v, hv', e'⟩ := vp_in_of hv (by omega)
    exact n7_C_y hv (hy v hv' e')
  · exact n7_C_n hv (hn hv)
/-- the reference's -/
theorem g8_V_n {M : sk_M} {b : Int32} {nv : Nat} {N B : sk_M → Prop} (eV : M.1 141 0 = nI nv) (n2 : nv ≤ 6) (hv : ¬ vp_in b nv) (h : N (sk_si (sk_si M 140 0 0) 140 0 1)) : sLet (sk_si M 140 0 0) fun M2 => w_X8_throwsIf (f_X8_noVault b M2) 1 M2 (fun r M' => if ¬ (r = 0) then N M' else B M') :=
  sLet_i (gN (noV_nt eV n2 hv) h)
theorem g8_V_y {M : sk_M} {v nv : Nat} {N B : sk_M → Prop} (eV : M.1 141 0 = nI nv) (n2 : nv ≤ 6) (hv : v < nv) (h : B (sk_si M 140 0 0)) : sLet (sk_si M 140 0 0) fun M2 => w_X8_throwsIf (f_X8_noVault (nI v) M2) 1 M2 (fun r M' => if ¬ (r = 0) then N M' else B M') :=
  sLet_i (gY (noV_yt eV n2 (vp_in_nI hv (by omega))) h)
theorem g8_V_n' {M : sk_M} {b : Int32} {nv : Nat} {N B : sk_M → Prop} (eV : M.1 141 0 = nI nv) (n2 : nv ≤ 6) (hv : ¬ vp_in b nv) (h : N (sk_si (sk_si M 140 0 0) 140 0 1)) : sLet (sk_si M 140 0 0) fun M2 => w_X8_throwsIf (f_X8_noVault b M2) 1 M2 (fun r M' => if r = 0 then B M' else N M') :=
  sLet_i (gN' (noV_nt eV n2 hv) h)
theorem g8_V_y' {M : sk_M} {v nv : Nat} {N B : sk_M → Prop} (eV : M.1 141 0 = nI nv) (n2 : nv ≤ 6) (hv : v < nv) (h : B (sk_si M 140 0 0)) : sLet (sk_si M 140 0 0) fun M2 => w_X8_throwsIf (f_X8_noVault (nI v) M2) 1 M2 (fun r M' => if r = 0 then B M' else N M') :=
  sLet_i (gY' (noV_yt eV n2 (vp_in_nI hv (by omega))) h)
theorem g8_P_n {M : sk_M} {b : Int32} {nv : Nat} {N B : sk_M → Prop} (eV : M.1 141 1 = nI nv) (n2 : nv ≤ 6) (hv : ¬ vp_in b nv) (h : N (sk_si (sk_si M 140 0 0) 140 0 1)) : sLet (sk_si M 140 0 0) fun M2 => w_X8_throwsIf (f_X8_noPerson b M2) 1 M2 (fun r M' => if ¬ (r = 0) then N M' else B M') :=
  sLet_i (gN (noP_nt eV n2 hv) h)
theorem g8_P_y {M : sk_M} {v nv : Nat} {N B : sk_M → Prop} (eV : M.1 141 1 = nI nv) (n2 : nv ≤ 6) (hv : v < nv) (h : B (sk_si M 140 0 0)) : sLet (sk_si M 140 0 0) fun M2 => w_X8_throwsIf (f_X8_noPerson (nI v) M2) 1 M2 (fun r M' => if ¬ (r = 0) then N M' else B M') :=
  sLet_i (gY (noP_yt eV n2 (vp_in_nI hv (by omega))) h)
theorem g8_PV_n {M : sk_M} {a b : Int32} {np nv : Nat} {N B : sk_M → Prop} (eP : M.1 141 1 = nI np) (eV : M.1 141 0 = nI nv) (n1 : np ≤ 6) (n2 : nv ≤ 6) (hv : ¬ vp_in a np ∨ ¬ vp_in b nv) (h : N (sk_si (sk_si M 140 0 0) 140 0 1)) : sLet (sk_si M 140 0 0) fun M2 => sLet (if (¬ ((f_X8_noPerson a M2) = 0) ∨ (¬ ((f_X8_noVault b M2) = 0))) then (1 : Int32) else (0 : Int32) : Int32) fun s => w_X8_throwsIf s 1 M2 (fun r M' => if ¬ (r = 0) then N M' else B M') := by
  refine sLet_i (sLet_i (gN (if_pos ?_) h))
  by_cases hp : vp_in a np
  · rw [noV_nt eV n2 (hv.resolve_left (fun x => x hp))]
    exact Or.inr (by decide)
  · rw [noP_nt eP n1 hp]
    exact Or.inl (by decide)
theorem g8_PV_y {M : sk_M} {p v np nv : Nat} {N B : sk_M → Prop} (eP : M.1 141 1 = nI np) (eV : M.1 141 0 = nI nv) (n1 : np ≤ 6) (n2 : nv ≤ 6) (hp : p < np) (hv : v < nv) (h : B (sk_si M 140 0 0)) : sLet (sk_si M 140 0 0) fun M2 => sLet (if (¬ ((f_X8_noPerson (nI p) M2) = 0) ∨ (¬ ((f_X8_noVault (nI v) M2) = 0))) then (1 : Int32) else (0 : Int32) : Int32) fun s => w_X8_throwsIf s 1 M2 (fun r M' => if ¬ (r = 0) then N M' else B M') := by
  refine sLet_i (sLet_i (gY (if_neg ?_) h))
  rw [noP_yt eP n1 (vp_in_nI hp (by omega)), noV_yt eV n2 (vp_in_nI hv (by omega))]
  decide
theorem st_alone {M : sk_M} (h : Inv M) (a : Int32) : StI Inv (fun Q X => w_X7_alone a M (fun r => Q r M) (fun e => X e M)) (w_X8_alone a) ["java/lang/IndexOutOfBoundsException"] := by
  unfold StI w_X7_alone
  obtain ⟨nv, np, nc, tx, dy, ch, lg, nr, op, hR⟩ := h.1.1
  obtain ⟨hN, hF, hW, hS, hV, hC, hL, hK, hT⟩ := id hR
  have n1 := hN.1
  have n2 := hN.2.1
  refine n7_V hF.1 n1 (fun v hv e => ?_) (fun hv => ⟨0, rfl, ?_⟩)
  · subst e
    refine lp_to (fun i => (bitsP (fun p => leftP (M.2 9) (4 * (6 * p + v)) 4 = 1) i, nI i)) np (by unfold sk_F; omega) (fun i hi c hc => ?_) (fun c => ?_)
    · unfold w_X7_alone_L9
      rw [hF.2.1]
      refine i_t (nI_ge hi (by omega)) (c5_leftOf (by omega) (by omega) ?_)
      refine i_b (fun q => sLet_i ?_) (fun q => ?_)
      · rw [nI_1, bitsP_t (P := fun p => leftP (M.2 9) (4 * (6 * p + v)) 4 = 1) q]
        exact hc
      · rw [nI_1, bitsP_f (P := fun p => leftP (M.2 9) (4 * (6 * p + v)) 4 = 1) q]
        exact hc
    · unfold w_X7_alone_L9
      rw [hF.2.1]
      refine i_f (nn (by omega)) ?_
      unfold w_X8_alone
      refine g8_V_y (nv := nv) hW.1 n1 hv ?_
      refine lp_to (fun i => (bitsP (fun p => leftP (M.2 146) (4 * (6 * p + v)) 4 = 1) i, nI i)) np (by unfold sk_F; omega) (fun i hi c hc => ?_) (fun c => ?_)
      · unfold w_X8_alone_L24 f_X8_people
        rw [show (sk_si (sk_sl M 158 0 _) 140 0 0).1 141 1 = nI np from hW.2.1]
        refine i_t (nI_ge hi (by omega)) (s8_leftOf (by omega) (by omega) ?_)
        refine i_b (fun q => sLet_i ?_) (fun q => sLet_i ?_)
        · rw [nI_1, bitsP_t (P := fun p => leftP (M.2 146) (4 * (6 * p + v)) 4 = 1) q]
          exact hc
        · rw [nI_1, or0I, bitsP_f (P := fun p => leftP (M.2 146) (4 * (6 * p + v)) 4 = 1) q]
          exact hc
      · unfold w_X8_alone_L24 f_X8_people
        rw [show (sk_si (sk_sl M 158 0 _) 140 0 0).1 141 1 = nI np from hW.2.1]
        refine i_f (nn (by omega)) ?_
        exact due0 h (bitsP_cg np (fun j hj => by rw [hR.left hj hv]))
  · unfold w_X8_alone
    exact g8_V_n hW.1 n1 hv (dueX h rfl)
