/-! turnings that part: parts, outright -/
noncomputable def pD (f : Nat → Int32) (t : Nat) (S : Nat → Prop) : Nat → TR
  | 0 => (fun _ => 0, 0, 0)
  | n + 1 => by
    classical
    exact if S n ∧ n ≠ t then (bmp (pD f t S n).1 (slN f t n), (pD f t S n).2.1 + (if (pD f t S n).1 (slN f t n) = 0 then 1 else 0), max (pD f t S n).2.2 ((pD f t S n).1 (slN f t n) + 1)) else pD f t S n
theorem pD_t {f : Nat → Int32} {t n : Nat} {S : Nat → Prop} (h : S n ∧ n ≠ t) : pD f t S (n + 1) = (bmp (pD f t S n).1 (slN f t n), (pD f t S n).2.1 + (if (pD f t S n).1 (slN f t n) = 0 then 1 else 0), max (pD f t S n).2.2 ((pD f t S n).1 (slN f t n) + 1)) := by
  simp only [pD, h, if_true, and_self, ne_eq, not_false_eq_true]
theorem pD_f {f : Nat → Int32} {t n : Nat} {S : Nat → Prop} (h : ¬ (S n ∧ n ≠ t)) : pD f t S (n + 1) = pD f t S n := by
  simp only [pD, h, if_false]
theorem pD_le {f : Nat → Int32} {t : Nat} {S : Nat → Prop} : ∀ n, (∀ s, (pD f t S n).1 s ≤ n) ∧ (pD f t S n).2.1 ≤ n ∧ (pD f t S n).2.2 ≤ n
  | 0 => ⟨fun _ => Nat.le_refl 0, Nat.le_refl 0, Nat.le_refl 0⟩
  | n + 1 => by
    obtain ⟨a, b, c⟩ := pD_le (f := f) (t := t) (S := S) n
    by_cases q : S n ∧ n ≠ t
    · rw [pD_t q]
      have a1 := a (slN f t n)
      refine ⟨fun s => ?_, ?_, ?_⟩
      · show (if s = slN f t n then _ else _) ≤ _
        have := a s
        split <;> omega
      · show _ + (if _ then 1 else 0) ≤ _
        split <;> omega
      · show max _ _ ≤ _
        omega
    · rw [pD_f q]
      exact ⟨fun s => by have := a s; omega, by omega, by omega⟩
theorem pD_hit {f : Nat → Int32} {t s : Nat} {S : Nat → Prop} : ∀ n, (pD f t S n).1 s ≠ 0 → ∃ c, c < n ∧ slN f t c = s
  | 0, h => absurd rfl h
  | n + 1, h => by
    by_cases q : S n ∧ n ≠ t
    · rw [pD_t q] at h
      by_cases z : s = slN f t n
      · exact ⟨n, by omega, z.symm⟩
      · have h2 : (bmp (pD f t S n).1 (slN f t n)) s = (pD f t S n).1 s := if_neg z
        obtain ⟨c, hc, e⟩ := pD_hit n (fun y => h (h2.trans y))
        exact ⟨c, by omega, e⟩
    · rw [pD_f q] at h
      obtain ⟨c, hc, e⟩ := pD_hit n h
      exact ⟨c, by omega, e⟩
noncomputable def owN (S : Nat → Prop) (t n : Nat) : Nat := by
  classical
  exact if t < n ∧ S t then 1 else 0
theorem owN_t {S : Nat → Prop} {t n : Nat} (h : t < n ∧ S t) : owN S t n = 1 := by simp only [owN, h, if_true, and_self]
theorem owN_f {S : Nat → Prop} {t n : Nat} (h : ¬ (t < n ∧ S t)) : owN S t n = 0 := by simp only [owN, h, if_false]
theorem trF_app {f : Nat → Int32} {t c : Nat} {l : List Nat} : trF f t (l ++ [c]) = trS f t (trF f t l) c := by
  unfold trF
  rw [List.foldl_append]
  rfl
/-- the class's count of a list is the reference's, and the one turned to apart -/
theorem tr_pD {f : Nat → Int32} {t : Nat} {S : Nat → Prop} : ∀ n, trF f t (enl S n) = ((pD f t S n).1, (pD f t S n).2.1 + owN S t n, max (pD f t S n).2.2 (owN S t n))
  | 0 => by rw [owN_f (fun z => absurd z.1 (by omega))]; rfl
  | n + 1 => by
    have ih := tr_pD (f := f) (t := t) (S := S) n
    by_cases q : S n
    · rw [enl_t q, trF_app, ih]
      by_cases z : n = t
      · subst z
        have o1 : owN S n (n + 1) = 1 := owN_t ⟨by omega, q⟩
        have o0 : owN S n n = 0 := owN_f (fun y => absurd y.1 (by omega))
        rw [pD_f (fun y => y.2 rfl), o1, o0]
        unfold trS
        rw [if_pos rfl]
        dsimp only
        rw [Nat.add_zero, Nat.max_eq_left (Nat.zero_le _)]
      · rw [pD_t ⟨q, z⟩]
        have eo : owN S t (n + 1) = owN S t n := by
          by_cases y : t < n ∧ S t
          · rw [owN_t y, owN_t ⟨by omega, y.2⟩]
          · rw [owN_f y, owN_f (fun w => y ⟨by omega, w.2⟩)]
        rw [eo]
        unfold trS
        rw [if_neg z]
        dsimp only
        refine Prod.ext rfl (Prod.ext ?_ ?_)
        · dsimp only
          omega
        · dsimp only
          omega
    · rw [enl_f q, ih, pD_f (fun y => q y.1)]
      have eo : owN S t (n + 1) = owN S t n := by
        by_cases y : t < n ∧ S t
        · rw [owN_t y, owN_t ⟨by omega, y.2⟩]
        · rw [owN_f y, owN_f (fun w => y ⟨by have : t ≠ n := fun e => q (e ▸ w.2); omega, w.2⟩)]
      rw [eo]
/-- only the counts, which are 0 again -/
def ptF (M M' : sk_M) : Prop := (∀ c, c ≠ 155 → M'.1 c = M.1 c) ∧ M'.2 = M.2 ∧ cnt0 M'
theorem ptF.toR {M M' : sk_M} (h : ptF M M') : scR M M' := ⟨fun c hc => h.1 c (by omega), fun k _ => by rw [h.1 140 (by omega)], fun c _ => by rw [h.2.1], fun _ => h.2.2⟩
theorem ptF.trans {A B C : sk_M} (h : ptF A B) (g : ptF B C) : ptF A C := ⟨fun c hc => (g.1 c hc).trans (h.1 c hc), g.2.1.trans h.2.1, g.2.2⟩
theorem ptF.self {M : sk_M} (h : cnt0 M) : ptF M M := ⟨fun _ _ => rfl, rfl, h⟩
theorem s8_partsOf {M : sk_M} {Q : Int32 → sk_M → Prop} {cl : Nat → Int32} {p v t : Nat} {a4 : Int32} (hp : p < 6) (hv : v < 6) (ht : t < 216) (hcl : ∀ i, i < 108 → M.1 154 i = cl i) (hB : clB cl) (h0 : cnt0 M)
    (h : ∀ M', ptF M M' → Q (if ¬ (a4 = 0) then nI (trF cl t (lft (M.2 146) p v)).2.2 else nI (trF cl t (lft (M.2 146) p v)).2.1) M') : w_X8_partsOf (nI p) (nI v) (nI t) a4 M Q := by
  unfold w_X8_partsOf
  refine s8_canBe hp hv ht (sLet_i (sLet_i ?_))
  generalize hS : kbit (M.2 146) (4 * (6 * p + v)) = S at h ⊢
  have own : (if ¬ (bI (S t) = 0) then (1 : Int32) else (0 : Int32)) = nI (owN S t 216) := by
    by_cases q : S t
    · rw [if_pos (bI_n.mpr q), owN_t ⟨ht, q⟩]; rfl
    · rw [if_neg (fun z => q (bI_n.mp z)), owN_f (fun z => q z.2)]; rfl
  rw [own]
  have o1 : owN S t 216 ≤ 1 := by
    by_cases q : t < 216 ∧ S t
    · rw [owN_t q]; exact Nat.le_refl _
    · rw [owN_f q]; omega
  have slot : ∀ (N : sk_M) (Q : Int32 → Prop) (c : Nat), c < 216 → (∀ x, x ≠ 155 → N.1 x = M.1 x) → Q (sndC cl t c) → w_X8_soundOf (nI t) (nI c) N Q := fun N Q c hc hN hq => by
    refine s8_soundOf ht hc ?_
    rw [sndC_cg (f := N.1 154) (g := cl) (fun i hi => by rw [hN 154 (by omega)]; exact hcl i hi) ht hc]
    exact hq
  have es : ∀ c, c < 216 → (3564 : Int32) + sndC cl t c = nI (slN cl t c) ∧ slN cl t c < 7129 := fun c hc => by
    rw [Int32.add_comm]
    exact slN_ok hB ht hc
  refine lp_inv (fun c s => s.1 = nI (owN S t 216 + (pD cl t S c).2.1) ∧ s.2.1 = nI (max (owN S t 216) (pD cl t S c).2.2) ∧ s.2.2.1 = nI c ∧ (∀ x, x ≠ 155 → s.2.2.2.1 x = M.1 x) ∧ s.2.2.2.2 = M.2 ∧ ∀ z, z < 7129 → s.2.2.2.1 155 z = nI ((pD cl t S c).1 z)) 216 (by decide) ⟨rfl, ?_, rfl, fun _ _ => rfl, rfl, fun z hz => h0 z hz⟩ (fun c hc s k hI hk => ?_) (fun s k hI => ?_)
  · show nI (owN S t 216) = nI (max (owN S t 216) 0)
    rw [Nat.max_eq_left (Nat.zero_le _)]
  · obtain ⟨s1, s2, s3, sM⟩ := s
    obtain ⟨rfl, rfl, rfl, i1, i2, i3⟩ := hI
    obtain ⟨b1, b2, b3⟩ := pD_le (f := cl) (t := t) (S := S) c
    unfold w_X8_partsOf_L36
    refine i_t (nI_ge hc (by decide)) ?_
    have stay : ¬ (S c ∧ c ≠ t) → k (nI (owN S t 216 + (pD cl t S c).2.1), nI (max (owN S t 216) (pD cl t S c).2.2), nI c + (1 : Int32), sM) := fun hn => by
      rw [nI_1]
      refine hk _ ⟨by rw [pD_f hn], by rw [pD_f hn], rfl, i1, i2, by rw [pD_f hn]; exact i3⟩
    refine i_b (fun q => s8_canBe hp hv hc ?_) (fun q => stay (fun z => q (fun e => z.2 ((nI_eq (by omega) (by omega)).mp e))))
    have ct : c ≠ t := fun e => q (by rw [e])
    have ek : kbit (sM.2 146) (4 * (6 * p + v)) c ↔ S c := by
      have : sM.2 146 = M.2 146 := by show sM.2 146 = _; rw [i2]
      rw [this, hS]
    rw [bI_cg ek]
    refine i_b (fun q2 => stay (fun z => bI_z.mp q2 z.1)) (fun q2 => slot sM _ c hc i1 (sLet_i ?_))
    have hSc := bI_n.mp q2
    obtain ⟨e1, e2⟩ := es c hc
    rw [e1]
    have ec : (nI (slN cl t c)).toNatClampNeg = slN cl t c := nI_clamp (by omega)
    have vin := vp_in_nI e2 (by decide)
    rw [ec]
    refine ⟨vin, vin, sLet_i ⟨vin, sLet_i (sLet_i ⟨vin, sLet_i ?_⟩)⟩⟩
    have ev := i3 _ e2
    have bs := b1 (slN cl t c)
    show k (nI (owN S t 216 + (pD cl t S c).2.1) + (if ((sk_si sM 155 (slN cl t c) (sM.1 155 (slN cl t c) + 1)).1 155 (slN cl t c) = (1 : Int32)) then (1 : Int32) else (0 : Int32)), mxI (nI (max (owN S t 216) (pD cl t S c).2.2)) ((sk_si sM 155 (slN cl t c) (sM.1 155 (slN cl t c) + 1)).1 155 (slN cl t c)), nI c + (1 : Int32), sk_si sM 155 (slN cl t c) (sM.1 155 (slN cl t c) + 1))
    have ew : sM.1 155 (slN cl t c) + 1 = nI ((pD cl t S c).1 (slN cl t c) + 1) := by
      rw [show sM.1 155 (slN cl t c) = nI _ from ev, nI_1]
    rw [ew]
    have er : (sk_si sM 155 (slN cl t c) (nI ((pD cl t S c).1 (slN cl t c) + 1))).1 155 (slN cl t c) = nI ((pD cl t S c).1 (slN cl t c) + 1) := by rw [rd_si, if_pos ⟨rfl, rfl⟩]
    rw [er, nI_1 (a := c), mxN (by omega) (by omega)]
    have one : (if (nI ((pD cl t S c).1 (slN cl t c) + 1) = (1 : Int32)) then (1 : Int32) else (0 : Int32)) = nI (if (pD cl t S c).1 (slN cl t c) = 0 then 1 else 0) := by
      by_cases y : (pD cl t S c).1 (slN cl t c) = 0
      · rw [if_pos y, y]; rfl
      · rw [if_neg y, if_neg (fun w => y (by have := (nI_eq (b := 1) (by omega) (by decide)).mp w; omega))]; rfl
    rw [one, nI_add]
    refine hk _ ⟨?_, ?_, rfl, fun x hx => by rw [si_c hx, i1 x hx], by rw [si_2]; exact i2, fun z hz => ?_⟩
    · rw [pD_t ⟨hSc, ct⟩, Nat.add_assoc]
    · rw [pD_t ⟨hSc, ct⟩, Nat.max_assoc]
    · rw [pD_t ⟨hSc, ct⟩, rd_si]
      by_cases y : z = slN cl t c
      · rw [if_pos ⟨rfl, y⟩]
        have eb : bmp (pD cl t S c).1 (slN cl t c) z = (pD cl t S c).1 (slN cl t c) + 1 := if_pos y
        exact (congrArg nI eb).symm
      · rw [if_neg (fun w => y w.2)]
        show _ = nI (if z = slN cl t c then _ else _)
        rw [if_neg y]
        exact i3 z hz
  · obtain ⟨s1, s2, s3, sM⟩ := s
    obtain ⟨rfl, rfl, rfl, i1, i2, i3⟩ := hI
    unfold w_X8_partsOf_L36
    refine i_f (nn (n := 216) (by decide)) ?_
    refine lp_inv (fun c s => s.1 = nI c ∧ (∀ x, x ≠ 155 → s.2.1 x = M.1 x) ∧ s.2.2 = M.2 ∧ ∀ z, z < 7129 → s.2.1 155 z = 0 ∨ (s.2.1 155 z = nI ((pD cl t S 216).1 z) ∧ ∀ y, y < c → slN cl t y ≠ z)) 216 (by decide) ⟨rfl, i1, i2, fun z hz => Or.inr ⟨i3 z hz, fun y hy => absurd hy (by omega)⟩⟩ (fun c hc s kk hJ hkk => ?_) (fun s kk hJ => ?_)
    · obtain ⟨t1, tM⟩ := s
      obtain ⟨rfl, j1, j2, j3⟩ := hJ
      unfold w_X8_partsOf_L132
      refine i_t (nI_ge hc (by decide)) (slot tM _ c hc j1 ?_)
      obtain ⟨e1, e2⟩ := es c hc
      rw [e1]
      refine ⟨vp_in_nI e2 (by decide), sLet_i ?_⟩
      rw [nI_clamp (by omega), nI_1]
      refine hkk _ ⟨rfl, fun x hx => by rw [si_c hx, j1 x hx], by rw [si_2]; exact j2, fun z hz => ?_⟩
      rw [rd_si]
      by_cases y : z = slN cl t c
      · rw [if_pos ⟨rfl, y⟩]
        exact Or.inl rfl
      · rw [if_neg (fun w => y w.2)]
        rcases j3 z hz with w | ⟨w1, w2⟩
        · exact Or.inl w
        · refine Or.inr ⟨w1, fun x hx => ?_⟩
          rcases Nat.lt_succ_iff_lt_or_eq.mp hx with u | u
          · exact w2 x u
          · subst u; exact fun e => y e.symm
    · obtain ⟨t1, tM⟩ := s
      obtain ⟨rfl, j1, j2, j3⟩ := hJ
      unfold w_X8_partsOf_L132
      refine i_f (nn (n := 216) (by decide)) ?_
      have pf : ptF M tM := ⟨j1, j2, fun z hz => by
        rcases j3 z hz with w | ⟨w1, w2⟩
        · exact w
        · rw [show tM.1 155 z = nI _ from w1]
          have : (pD cl t S 216).1 z = 0 := Classical.byContradiction fun y => by
            obtain ⟨c, hc, e⟩ := pD_hit 216 y
            exact w2 c hc e
          rw [this]
          rfl⟩
      have hq := h tM pf
      have etr : trF cl t (lft (M.2 146) p v) = ((pD cl t S 216).1, (pD cl t S 216).2.1 + owN S t 216, max (pD cl t S 216).2.2 (owN S t 216)) := by
        unfold lft
        rw [hS]
        exact tr_pD 216
      rw [etr] at hq
      show (if ¬ (a4 = 0) then Q (nI (max (owN S t 216) (pD cl t S 216).2.2)) tM else Q (nI (owN S t 216 + (pD cl t S 216).2.1)) tM)
      rw [Nat.max_comm, Nat.add_comm]
      by_cases y : a4 = 0
      · rw [if_neg (fun w => w y)] at hq ⊢
        exact hq
      · rw [if_pos y] at hq ⊢
        exact hq
theorem lft_len (K : Nat → Int64) (p v : Nat) : (lft K p v).length ≤ 216 := enl_len _ 216
theorem tr_216 {cl : Nat → Int32} {t : Nat} {l : List Nat} (h : l.length ≤ 216) : (trF cl t l).2.2 ≤ 216 ∧ (trF cl t l).2.1 ≤ 216 := by
  have := trF_le (f := cl) (t := t) (l := l) l.length (Nat.le_refl _)
  rw [List.take_length] at this
  omega
theorem st_parts {M : sk_M} (h : Inv M) (a b d f : Int32) : StI Inv (fun Q X => w_X7_parts a b d f M Q X) (w_X8_parts a b d f) ["java/lang/IndexOutOfBoundsException"] := by
  unfold StI w_X7_parts
  obtain ⟨nv, np, nc, tx, dy, ch, lg, nr, op, hR⟩ := h.1.1
  obtain ⟨hN, hF, hW, hS, hV, hC, hL, hK, hT⟩ := id hR
  have hLw := h.1.2
  have n1 := hN.1
  have n2 := hN.2.1
  have no : ¬ vp_in a np ∨ ¬ vp_in b nv ∨ ¬ vp_in d 216 → w_X8_parts a b d f M (fun _ M2 => M2.1 140 0 = nI (0 + 1) ∧ Inv M2) := by
    intro q
    unfold w_X8_parts
    refine sLet_i (sLet_i (gN (if_pos ?_) (dueX h rfl)))
    by_cases hp : vp_in a np
    · by_cases hb : vp_in b nv
      · have hv : ¬ vp_in d 216 := (q.resolve_left (fun x => x hp)).resolve_left (fun x => x hb)
        rw [noC_n hv]
        exact Or.inr (Or.inr (by decide))
      · rw [noV_nt hW.1 n1 hb]
        exact Or.inr (Or.inl (by decide))
    · rw [noP_nt hW.2.1 n2 hp]
      exact Or.inl (by decide)
  refine n7_PV hF.2.1 hF.1 n2 n1 (fun p v hp hv e e' => ?_) (fun q => ⟨0, rfl, no (q.imp id Or.inl)⟩)
  subst e e'
  refine n7_C (fun t ht e => ?_) (fun q => ⟨0, rfl, no (Or.inr (Or.inr q))⟩)
  subst e
  refine c4_load (by omega) (by omega) (fun M1 s1 l1 => ?_)
  rw [hR.lfts hp hv] at l1
  have sc := s1.toC
  have hI := h.scC sc
  have len := lft_len (M.2 146) p v
  obtain ⟨g216, p216⟩ := tr_216 (cl := M.1 7) (t := t) len
  have c7 : M1.1 7 = M.1 7 := sc.1 7 (by omega)
  have run : ∀ (M2 : sk_M) (x : Int32), scC M M2 → x = (if ¬ (f = 0) then nI (trF (M.1 7) t (lft (M.2 146) p v)).2.2 else nI (trF (M.1 7) t (lft (M.2 146) p v)).2.1) → w_X8_parts (nI p) (nI v) (nI t) f (sk_sl M2 158 0 x.toInt64) (fun b M2 => M2.1 140 0 = 0 ∧ M2.2 158 0 = b.toInt64 ∧ Inv M2) := by
    intro M2 x sc2 hx
    have hI2 := h.scC sc2
    have w1 : M2.1 141 = M.1 141 := sc2.1 141 (by omega)
    have k1 : M2.2 = M.2 := sc2.2.1
    unfold w_X8_parts
    refine sLet_i (sLet_i (gY (if_neg ?_) ?_))
    · rw [noP_yt (M := sk_sl M2 158 0 x.toInt64) (n := np) (by show M2.1 141 1 = _; rw [w1]; exact hW.2.1) n2 (vp_in_nI hp (by omega)), noV_yt (M := sk_sl M2 158 0 x.toInt64) (n := nv) (by show M2.1 141 0 = _; rw [w1]; exact hW.1) n1 (vp_in_nI hv (by omega)), noC_y (vp_in_nI ht (by decide))]
      decide
    · refine s8_laysClicks (cl := M.1 7) (by show clkS (M2.1 141) _; rw [w1]; exact hLw.2.1) (fun M3 l3 => ?_)
      obtain ⟨r1, r2⟩ := l3.sc0
      have e3 : M3.2 146 = M.2 146 := by rw [l3.2.1]; show (sk_sl M2 158 0 x.toInt64).2 146 = _; rw [sl_c (by omega), k1]
      refine s8_partsOf (cl := M.1 7) (by omega) (by omega) ht l3.2.2 hLw.1 (r1.2.2.2 (fun i hi => hI2.2.2.2.2.2 i hi)) (fun M4 p4 => ?_)
      rw [e3]
      refine due hI2 (r1.trans p4.toR) ?_ hx
      rw [p4.1 140 (by omega)]
      exact r2
  refine i_b (fun q => ?_) (fun q => ?_)
  · unfold w_X4_greatestPart
    refine ⟨vp_in_nI ht (by decide), vp_in_nI (show 217 < 1000 by decide) (by decide), lft (M.2 146) p v, by show clB (M1.1 7); rw [c7]; exact hLw.1, l1, hI.2.2.2.2.1, ?_⟩
    rintro r M2 ⟨⟨k, rfl, k1, k2⟩, w2, t2⟩
    rw [nI_clamp (n := t) (by omega)] at k1 k2
    rw [show M1.1 (0 + 7) = M.1 7 from c7] at k1 k2
    have ek := k2 (by show k < 217; omega)
    refine run M2 _ (sc.trans (w2.toC t2)) ?_
    rw [if_pos q, ek]
  · unfold w_X4_partsBy
    refine ⟨vp_in_nI ht (by decide), lft (M.2 146) p v, by show clB (M1.1 7); rw [c7]; exact hLw.1, l1, hI.2.2.2.2.1, ?_⟩
    rintro M2 ⟨w2, t2⟩
    rw [nI_clamp (by omega), show M1.1 (0 + 7) = M.1 7 from c7]
    refine run M2 _ (sc.trans (w2.toC t2)) ?_
    rw [if_neg q]
