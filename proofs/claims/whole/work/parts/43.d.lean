/-! all of one leader are weighed; the best of all -/
theorem ldT_dg {f : Nat → Int32} {a b c u : Nat} (ha : a < 6) (hb : b < 6) (hc : c < 6) (hu : u < 216) : ldT f (36 * a + 6 * b + c) = u ↔ ldr f 0 a = u / 36 ∧ ldr f 1 b = u / 6 % 6 ∧ ldr f 2 c = u % 6 := by
  obtain ⟨g0, g1, g2, g3, g4⟩ := ldT_dig (f := f) (t := 36 * a + 6 * b + c) (by omega)
  rw [show (36 * a + 6 * b + c) / 36 = a by omega] at g2
  rw [show (36 * a + 6 * b + c) / 6 % 6 = b by omega] at g3
  rw [show (36 * a + 6 * b + c) % 6 = c by omega] at g4
  constructor
  · intro z
    rw [z] at g2 g3 g4
    exact ⟨g2.symm, g3.symm, g4.symm⟩
  · rintro ⟨z0, z1, z2⟩
    rw [z0] at g2
    rw [z1] at g3
    rw [z2] at g4
    omega
theorem c4_weighAlike {M : sk_M} {Q : sk_M → Prop} {f : Nat → Int32} {S D : Nat → Prop} {u fl g gp : Nat} (hu : u < 216) (hB : clB f) (hL : LdR f M) (hW : WS f S M u fl g gp) (hb : bsI f S M D)
    (h : ∀ M', wgF M M' → bsI f S M' (fun x => D x ∨ ldT f x = u) → Q M') : w_X4_weighAlike (nI (u / 36)) (nI (u / 6 % 6)) (nI (u % 6)) M Q := by
  have dig : ∀ x, x < 216 → ldT f x = u → u / 36 = ldr f 0 (x / 36) ∧ u / 6 % 6 = ldr f 1 (x / 6 % 6) ∧ u % 6 = ldr f 2 (x % 6) ∧ u / 36 ≤ x / 36 ∧ u / 6 % 6 ≤ x / 6 % 6 ∧ u % 6 ≤ x % 6 := fun x hx e => by
    obtain ⟨g0, g1, g2, g3, g4⟩ := ldT_dig (f := f) hx
    rw [e] at g2 g3 g4
    have b0 := ldr_le (f := f) (w := 0) (x := x / 36)
    have b1 := ldr_le (f := f) (w := 1) (x := x / 6 % 6)
    have b2 := ldr_le (f := f) (w := 2) (x := x % 6)
    exact ⟨g2, g3, g4, by omega, by omega, by omega⟩
  have lb : ∀ w x, x < 6 → ldr f w x < 6 := fun w x hx => Nat.lt_of_le_of_lt ldr_le hx
  have ld : ∀ N : sk_M, wgF M N → LdR f N := fun N w w' hw x hx => by rw [w.1 137 (by decide)]; exact hL w' hw x hx
  have hu0 : u / 36 < 6 := by omega
  unfold w_X4_weighAlike
  refine lp_inv (fun i s => s.1 = nI (u / 36 + i) ∧ wgF M s.2 ∧ bsI f S s.2 (fun x => D x ∨ (ldT f x = u ∧ x / 36 < u / 36 + i))) (6 - u / 36) (Nat.lt_of_le_of_lt (Nat.sub_le _ _) (by decide)) ⟨rfl, wgF.refl, hb.mono (fun x hx hD => ?_)⟩ (fun i hi s c hI hc => ?_) (fun s c hI => ?_)
  · rcases hD with hD | ⟨e, hD⟩
    · exact hD
    · have := dig x hx e
      omega
  · obtain ⟨s1, sM⟩ := s
    obtain ⟨rfl, i1, i2⟩ := hI
    have h1 : u / 36 + i < 6 := by omega
    have next : u / 36 + i + 1 = u / 36 + (i + 1) := by omega
    unfold w_X4_weighAlike_L3
    refine i_t (nI_ge h1 (by decide)) ?_
    dsimp only at i1 i2 ⊢
    rw [nI_1, next]
    generalize eo : u / 36 + i = one at h1 i2 hc
    refine lp_inx (fun j s => s.1 = nI (u / 6 % 6 + j) ∧ wgF M s.2 ∧ bsI f S s.2 (fun x => D x ∨ (ldT f x = u ∧ (x / 36 < one ∨ (x / 36 = one ∧ x / 6 % 6 < u / 6 % 6 + j))))) (6 - u / 6 % 6) (Nat.lt_of_le_of_lt (Nat.sub_le _ _) (by decide)) ⟨rfl, i1, i2.mono (fun x hx hD => ?_)⟩ (fun j hj s c2 hJ hc2 => ?_)
    · rcases hD with hD | ⟨e, hD⟩
      · exact Or.inl hD
      · have := dig x hx e
        exact Or.inr ⟨e, by omega⟩
    · obtain ⟨t1, tM⟩ := s
      obtain ⟨rfl, j1, j2⟩ := hJ
      have leave : (¬ (u / 6 % 6 + j < 6) ∨ ldr f 0 one ≠ u / 36) → c (nI (u / 36 + (i + 1)), tM) := fun q => by
        refine hc _ ⟨rfl, j1, j2.mono (fun x hx hD => ?_)⟩
        rcases hD with hD | ⟨e, hD⟩
        · exact Or.inl hD
        · have g := dig x hx e
          refine Or.inr ⟨e, ?_⟩
          by_cases z : x / 36 = one
          · rcases q with q | q
            · exact Or.inr ⟨z, by omega⟩
            · exact absurd (by rw [← z]; exact g.1.symm) q
          · left
            omega
      unfold w_X4_weighAlike_L13
      by_cases q : u / 6 % 6 + j < 6
      · have next2 : u / 6 % 6 + j + 1 = u / 6 % 6 + (j + 1) := by omega
        refine i_t (nI_ge q (by decide)) ⟨vp_in_nI (by omega) (by decide), ?_⟩
        dsimp only at j1 j2 ⊢
        have e0 := ld tM j1 0 (by omega) one h1
        rw [Nat.mul_zero, Nat.zero_add] at e0
        rw [nI_clamp (by omega), e0, nI_1, next2]
        have l0 := lb 0 one h1
        refine i_b (fun q2 => ?_) (fun q2 => leave (Or.inr (fun z => q2 (by rw [z]))))
        have o1 : ldr f 0 one = u / 36 := (nI_eq (by omega) (by omega)).mp q2
        generalize et : u / 6 % 6 + j = two at q j2
        refine lp_inx (fun k s => s.1 = nI (u % 6 + k) ∧ wgF M s.2 ∧ bsI f S s.2 (fun x => D x ∨ (ldT f x = u ∧ (x / 36 < one ∨ (x / 36 = one ∧ (x / 6 % 6 < two ∨ (x / 6 % 6 = two ∧ x % 6 < u % 6 + k))))))) (6 - u % 6) (Nat.lt_of_le_of_lt (Nat.sub_le _ _) (by decide)) ⟨rfl, j1, j2.mono (fun x hx hD => ?_)⟩ (fun k hk s c3 hK hc3 => ?_)
        · rcases hD with hD | ⟨e, hD⟩
          · exact Or.inl hD
          · have := dig x hx e
            exact Or.inr ⟨e, by omega⟩
        · obtain ⟨r1, rM⟩ := s
          obtain ⟨rfl, k1, k2⟩ := hK
          have leave2 : (¬ (u % 6 + k < 6) ∨ ldr f 1 two ≠ u / 6 % 6) → c2 (nI (u / 6 % 6 + (j + 1)), rM) := fun q => by
            refine hc2 _ (by omega) ⟨rfl, k1, k2.mono (fun x hx hD => ?_)⟩
            rcases hD with hD | ⟨e, hD⟩
            · exact Or.inl hD
            · have g := dig x hx e
              refine Or.inr ⟨e, ?_⟩
              rcases hD with hD | ⟨hD1, hD2⟩
              · exact Or.inl hD
              · refine Or.inr ⟨hD1, ?_⟩
                by_cases z : x / 6 % 6 = two
                · rcases q with q | q
                  · exact Or.inr ⟨z, by omega⟩
                  · exact absurd (by rw [← z]; exact g.2.1.symm) q
                · left
                  omega
          unfold w_X4_weighAlike_L34
          by_cases q3 : u % 6 + k < 6
          · have next3 : u % 6 + k + 1 = u % 6 + (k + 1) := by omega
            refine i_t (nI_ge q3 (by decide)) ?_
            dsimp only at k1 k2 ⊢
            have e1 := ld rM k1 1 (by omega) two q
            have e2 := ld rM k1 2 (by omega) (u % 6 + k) q3
            rw [show 6 * 1 + two = 6 + two by omega] at e1
            rw [show 6 * 2 + (u % 6 + k) = 12 + (u % 6 + k) by omega] at e2
            have l1 := lb 1 two q
            have l2 := lb 2 _ q3
            have lt1 : 6 + two < 18 := by omega
            have lt2 : 12 + (u % 6 + k) < 18 := by omega
            simp (disch := omega) only [sk_lit, pk_mul, nI_add, nI_clamp, vpT]
            rw [e1, e2, next3]
            refine ⟨trivial, i_b (fun q4 => ⟨trivial, i_b (fun q5 => ?_) (fun q5 => ?_)⟩) (fun q4 => leave2 (Or.inr (fun z => q4 (by rw [z]))))⟩
            · have o2 : ldr f 1 two = u / 6 % 6 := (nI_eq (by omega) (by omega)).mp q4
              have o3 : ldr f 2 (u % 6 + k) = u % 6 := (nI_eq (by omega) (by omega)).mp q5
              have eL : ldT f (36 * one + 6 * two + (u % 6 + k)) = u := (ldT_dg h1 q q3 hu).mpr ⟨o1, o2, o3⟩
              refine c4_weigh (by omega) hu hB (hW.wg k1) eL k2 (fun N w bs => ?_)
              refine hc3 _ (by omega) ⟨rfl, k1.trans w, bs.mono (fun x hx hD => ?_)⟩
              rcases hD with hD | ⟨e, hD⟩
              · exact Or.inl (Or.inl hD)
              · by_cases z : x = 36 * one + 6 * two + (u % 6 + k)
                · exact Or.inr z
                · refine Or.inl (Or.inr ⟨e, ?_⟩)
                  omega
            · refine hc3 _ (by omega) ⟨rfl, k1, k2.mono (fun x hx hD => ?_)⟩
              rcases hD with hD | ⟨e, hD⟩
              · exact Or.inl hD
              · have g := dig x hx e
                have g3 : x % 6 ≠ u % 6 + k := fun z => q5 (by rw [← z, ← g.2.2.1])
                refine Or.inr ⟨e, ?_⟩
                omega
          · refine i_f (fun z => z (nI_le (a := 6) (by omega) (by omega))) ?_
            exact leave2 (Or.inl q3)
      · refine i_f (fun z => z (nI_le (a := 6) (by omega) (by omega))) ?_
        exact leave (Or.inl q)
  · obtain ⟨s1, sM⟩ := s
    obtain ⟨rfl, i1, i2⟩ := hI
    unfold w_X4_weighAlike_L3
    refine i_f (fun z => z (nI_le (a := 6) (by omega) (by omega))) ?_
    refine h sM i1 (i2.mono (fun x hx hD => ?_))
    rcases hD with hD | hD
    · exact Or.inl hD
    · exact Or.inr ⟨hD, by omega⟩
theorem enl_ctP {S : Nat → Prop} : ∀ n, (enl S n).length = ctP S n
  | 0 => rfl
  | n + 1 => by
    simp only [ctP]
    by_cases z : S n
    · rw [enl_t z, List.length_append, enl_ctP n, ind_t z]; rfl
    · rw [enl_f z, enl_ctP n, ind_f z]; rfl
theorem ctP_mono {P P' : Nat → Prop} (h : ∀ c, P c → P' c) : ∀ n, ctP P n ≤ ctP P' n
  | 0 => Nat.le_refl 0
  | n + 1 => by
    have ih := ctP_mono h n
    simp only [ctP]
    by_cases z : P n
    · rw [ind_t z, ind_t (h n z)]; omega
    · rw [ind_f z]; omega
theorem isB_few {f : Nat → Int32} {S : Nat → Prop} (h0 : 0 < (enl S 216).length) (h2 : (enl S 216).length ≤ 2) : isB f S ((enl S 216).getD 0 0) := by
  obtain ⟨c, hc, hS, hl, e⟩ := enl_kth 216 h0
  rw [e]
  have least : ∀ x, S x → c ≤ x := fun x hx => Classical.byContradiction fun z => by
    have : x ∈ enl S c := (enl_mem c).mpr ⟨by omega, hx⟩
    rw [List.eq_nil_of_length_eq_zero hl] at this
    exact absurd this (by simp)
  have g1 : gP f S c ≤ 1 := by
    rw [gP_eq]
    have ow := owN_le (S := S) (t := c) (n := 216)
    have : (pD f c S 216).2.2 ≤ 1 := by
      rcases (pD_max (f := f) (t := c) (S := S) 216).2 with z | ⟨s, z⟩
      · omega
      · rw [← z, pD_ct]
        have m := ctP_mono (P := fun x => (S x ∧ slN f c x = s) ∧ x ≠ c) (P' := fun x => S x ∧ x ≠ c) (fun x y => ⟨y.1.1, y.2⟩) 216
        have r := ctP_rm (P := S) (t := c) 216
        rw [ind_t ⟨hc, hS⟩, ← enl_ctP (S := S)] at r
        omega
    omega
  have gc := gP_pos (f := f) hc hc hS
  refine ⟨hc, fun t ht => ?_⟩
  have gt := gP_pos (f := f) ht hc hS
  unfold kyT
  rw [k3_t hS]
  by_cases z : S t
  · rw [k3_t z]
    have := least t z
    omega
  · rw [k3_f z]
    omega
def btF (M0 M : sk_M) : Prop := (∀ c, c ≠ 130 → c ≠ 133 → c ≠ 134 → c ≠ 137 → M.1 c = M0.1 c) ∧ M.2 = M0.2 ∧ ∀ k, k < 9 → M.1 130 k = M0.1 130 k
theorem btF.SV {M0 M : sk_M} {l : List Nat} (h : btF M0 M) (v : SV M0 l) : SV M l := ⟨by rw [h.2.2 8 (by decide)]; exact v.1, v.2.1, fun i hi => by rw [h.1 131 (by decide) (by decide) (by decide) (by decide)]; exact v.2.2.1 i hi, fun c hc => by rw [h.1 132 (by decide) (by decide) (by decide) (by decide)]; exact v.2.2.2 c hc⟩
theorem btF.pa {A B C : sk_M} (h : btF A B) (g : paF B C) : btF A C := ⟨fun c a b d e => (g.1 c a b d).trans (h.1 c a b d e), g.2.1.trans h.2.1, fun k hk => (g.2.2 k (by omega)).trans (h.2.2 k hk)⟩
theorem btF.wg {A B C : sk_M} (h : btF A B) (g : wgF B C) : btF A C := ⟨fun c a b d e => (g.1 c a).trans (h.1 c a b d e), g.2.1.trans h.2.1, fun k hk => (g.2.2 k (by omega)).trans (h.2.2 k hk)⟩
theorem bsI.fld {f : Nat → Int32} {S : Nat → Prop} {M M' : sk_M} {D : Nat → Prop} (h : bsI f S M D) (e : ∀ k, 13 ≤ k → M'.1 130 k = M.1 130 k) : bsI f S M' D := by
  obtain ⟨b, bp, bc, a1, a2, a3, a4⟩ := h
  exact ⟨b, bp, bc, by rw [e 13 (by omega)]; exact a1, by rw [e 14 (by omega)]; exact a2, by rw [e 15 (by omega)]; exact a3, a4⟩
theorem c4_bestTurning {M : sk_M} {Q : Int32 → sk_M → Prop} {f : Nat → Int32} {S : Nat → Prop} (h7 : M.1 7 = f) (hB : clB f) (hT : TB M) (hV : SV M (enl S 216))
    (h : ∀ M' b, btF M M' → TB M' → isB f S b → Q (nI b) M') : w_X4_bestTurning M Q := by
  unfold w_X4_bestTurning
  have len := hV.2.1
  rw [hV.1]
  refine i_b (fun q => ?_) (fun q => ?_)
  · have q1 : (enl S 216).length = 1 ∨ (enl S 216).length = 2 := q.imp (fun z => (nI_eq (b := 1) (by omega) (by decide)).mp z) (fun z => (nI_eq (b := 2) (by omega) (by decide)).mp z)
    have h0 : 0 < (enl S 216).length := by omega
    rw [(hV.2.2.1 0 h0).1]
    exact h M _ ⟨fun _ _ _ _ _ => rfl, rfl, fun _ _ => rfl⟩ hT (isB_few h0 (by omega))
  · refine c4_findLeaders (fun M2 a1 a2 a3 => sLet_i (sLet_i (sLet_i ?_)))
    rw [h7] at a3
    generalize hN : sk_si (sk_si (sk_si M2 130 13 0) 130 14 217) 130 15 0 = N
    have n1 : ∀ c, c ≠ 130 → N.1 c = M2.1 c := fun c hc => by rw [← hN, si_c hc, si_c hc, si_c hc]
    have n2 : ∀ k, k < 13 → N.1 130 k = M2.1 130 k := fun k hk => by rw [← hN, rd_si, if_neg (by omega), rd_si, if_neg (by omega), rd_si, if_neg (by omega)]
    have bt : btF M N := ⟨fun c a _ _ d => by rw [n1 c a]; exact a1 c d, by rw [← hN, si_2, si_2, si_2]; exact a2, fun k hk => by rw [n2 k (by omega), a1 130 (by decide)]⟩
    have tb : TB N := TB_c2 hT (by rw [n2 10 (by decide), a1 130 (by decide)]) (by rw [n1 134 (by decide), a1 134 (by decide)])
    have lr : LdR f N := fun w hw x hx => by rw [n1 137 (by decide)]; exact a3 w hw x hx
    have bs : bsI f S N (fun x => ldT f x < 0) := by
      refine ⟨0, 217, False, ?_, ?_, ?_, by omega, by omega, Or.inl ⟨rfl, id, rfl⟩, fun t _ z => absurd z (by omega)⟩
      · rw [← hN, rd_si, if_neg (by omega), rd_si, if_neg (by omega), rd_si, if_pos ⟨rfl, rfl⟩]; rfl
      · rw [← hN, rd_si, if_neg (by omega), rd_si, if_pos ⟨rfl, rfl⟩]; rfl
      · rw [← hN, rd_si, if_pos ⟨rfl, rfl⟩, bI_f id]
    refine lp_inx (fun i s => s.1 = nI i ∧ btF M s.2 ∧ TB s.2 ∧ LdR f s.2 ∧ bsI f S s.2 (fun x => ldT f x < i)) 216 (by decide) ⟨rfl, bt, tb, lr, bs⟩ (fun i hi s c hI hc => ?_)
    obtain ⟨s1, sM⟩ := s
    obtain ⟨rfl, i1, i2, i3, i4⟩ := hI
    unfold w_X4_bestTurning_L46
    dsimp only at i1 i2 i3 i4 ⊢
    have e7 : sM.1 7 = f := (i1.1 7 (by decide) (by decide) (by decide) (by decide)).trans h7
    obtain ⟨b, bp, bc, b1, b2, b3, b4, b5, b6, b7⟩ := id i4
    rw [b1, b2, b3]
    by_cases q9 : i < 216
    · refine i_t (nI_ge q9 (by decide)) (i_b (fun z => ?_) (fun z => ?_))
      · obtain ⟨z1, z2, z3⟩ := z
        have y1 : bp = 1 := (nI_eq (b := 1) (by omega) (by decide)).mp z1
        have y2 : bc := bI_n.mp z2
        have y3 : b < i := Classical.byContradiction fun w => z3 (nI_le (by omega) (by omega))
        have y4 := b6.resolve_left (fun w => by omega)
        have hSb := y4.2.mp y2
        refine h sM b i1 i2 ⟨b4, fun t ht => ?_⟩
        have eb : kyT f S b = k3 bp bc b := by
          unfold kyT
          rw [← y4.1, ← propext y4.2]
        rw [eb]
        by_cases w : ldT f t < i
        · exact b7 t ht w
        · have g := (ldT_dig (f := f) ht).2.1
          have gt := gP_pos (f := f) ht b4 hSb
          unfold kyT
          rw [k3_t y2, y1]
          by_cases v : S t
          · rw [k3_t v]; omega
          · rw [k3_f v]; omega
      · refine c4_leads q9 i3 ?_
        have skip : (∀ x, x < 216 → ldT f x = i → kyT f S x < k3 bp bc b → False) → ∀ N : sk_M, btF M N → TB N → LdR f N → (∀ k, 13 ≤ k → N.1 130 k = sM.1 130 k) → c (nI i + 1, N) := fun hx N g1 g2 g3 g4 => by
          rw [nI_1]
          refine hc _ q9 ⟨rfl, g1, g2, g3, ⟨b, bp, bc, by rw [g4 13 (by omega)]; exact b1, by rw [g4 14 (by omega)]; exact b2, by rw [g4 15 (by omega)]; exact b3, b4, b5, b6, fun t ht hD => ?_⟩⟩
          by_cases w : ldT f t = i
          · exact Nat.le_of_not_lt (fun v => hx t ht w v)
          · exact b7 t ht (by omega)
        by_cases y : ldT f i = i
        · refine i_t (by rw [bI_t y]; decide) ?_
          rw [show nI bp + (2 : Int32) = nI (bp + 2) from nI_add bp 2]
          refine c4_partAll q9 e7 hB i2 (i1.SV hV) (by omega) (by omega) (fun M4 fl g gp p1 p2 p3 p4 p5 p6 p7 p8 => ?_) (fun M4 p1 p2 p3 => ?_)
          · refine i_t (by decide) ?_
            rw [show (36 : Int32) = nI 36 from rfl, show (6 : Int32) = nI 6 from rfl, pk_divN (by omega) (by decide) (by decide), pk_divN (by omega) (by decide) (by decide), rmN (by omega) (by decide) (by decide), rmN (by omega) (by decide) (by decide)]
            have bt4 := i1.pa p1
            have ws : WS f S M4 i fl g gp := ⟨(p1.1 7 (by decide) (by decide) (by decide)).trans e7, bt4.SV hV, p2, p3, p4, p5, p6, p7, p8⟩
            have lr4 : LdR f M4 := fun w hw x hx => by rw [p1.1 137 (by decide) (by decide) (by decide)]; exact i3 w hw x hx
            refine c4_weighAlike q9 hB lr4 ws (i4.fld (fun k hk => p1.2.2 k (by omega))) (fun M5 w5 bs5 => ?_)
            rw [nI_1]
            have t5 := (ws.wg w5).2.2.2.1
            refine hc _ q9 ⟨rfl, bt4.wg w5, ⟨_, _, t5⟩, fun w hw x hx => by rw [w5.1 137 (by decide)]; exact lr4 w hw x hx, bs5.mono (fun x hx hD => ?_)⟩
            by_cases v : ldT f x = i
            · exact Or.inr v
            · exact Or.inl (by omega)
          · refine i_f (by decide) ?_
            refine skip (fun x hx ex hk => ?_) M4 (i1.pa p1) p2 (fun w hw x hx => by rw [p1.1 137 (by decide) (by decide) (by decide)]; exact i3 w hw x hx) (fun k hk => p1.2.2 k (by omega))
            obtain ⟨s, hs⟩ := p3
            have g := gP_ge (S := S) (s := s) (show alT f x i by rw [← ex]; exact ldT_al hB hx) hx
            unfold kyT at hk
            have k1 : k3 bp bc b < 432 * (bp + 1) := by
              by_cases v : bc
              · rw [k3_t v]; omega
              · rw [k3_f v]; omega
            by_cases v : S x
            · rw [k3_t v] at hk; omega
            · rw [k3_f v] at hk; omega
        · refine i_f (by rw [bI_f y]; decide) ?_
          refine skip (fun x hx ex _ => y ?_) sM i1 i2 i3 (fun _ _ => rfl)
          obtain ⟨g0, g1, g2, g3, g4⟩ := ldT_dig (f := f) hx
          rw [ex] at g2 g3 g4
          have r0 := ldr_id (f := f) (w := 0) (x := x / 36)
          have r1 := ldr_id (f := f) (w := 1) (x := x / 6 % 6)
          have r2 := ldr_id (f := f) (w := 2) (x := x % 6)
          rw [← g2] at r0
          rw [← g3] at r1
          rw [← g4] at r2
          unfold ldT
          rw [r0, r1, r2]
          omega
    · have e : i = 216 := by omega
      subst e
      refine i_f (nn (n := 216) (by decide)) ?_
      have all : ∀ t, t < 216 → k3 bp bc b ≤ kyT f S t := fun t ht => b7 t ht (ldT_dig (f := f) ht).1
      rcases b6 with ⟨y1, y2, y3⟩ | y4
      · have g := all 0 (by omega)
        have g2 := gP_le (f := f) (S := S) (t := 0)
        rw [k3_f y2] at g
        unfold kyT at g
        by_cases v : S 0
        · rw [k3_t v] at g; omega
        · rw [k3_f v] at g; omega
      · refine h sM b i1 i2 ⟨b4, fun t ht => ?_⟩
        have eb : kyT f S b = k3 bp bc b := by
          unfold kyT
          rw [← y4.1, ← propext y4.2]
        rw [eb]
        exact all t ht
