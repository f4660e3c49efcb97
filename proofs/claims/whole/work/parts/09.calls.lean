/-! rules: calls and throws -/
section SKC
variable {G : sk_G} {X : sk_X} {R : Room} {E : sk_E} {cells slots pc q : Nat} {xs : List (Option Value)} {st : List Value} {M : sk_M}
theorem sk_A_mono {ad : Nat → Nat} {a b : Nat} (h : a ≤ b) : ∀ q, sk_A ad b q → sk_A ad a q := fun q hq => hq.elim Or.inl (fun z => Or.inr (Nat.le_trans h z))
theorem sk_A_lt {ad : Nat → Nat} {a b : Nat} : ∀ q, q < b → sk_A ad b q → sk_A ad a q := fun q h hq => hq.elim Or.inl (fun z => absurd h (Nat.not_lt.mpr z))
theorem sk_blind {M : sk_M} {sz : Nat} {as : List Value} : FrameBlind (sk_P G M sz as) := by
  intro a U g mk h
  obtain ⟨h0, h1, h2, h3, h4, h5⟩ := h
  exact ⟨h0, h1, h2, va_K.moved (u := U) (U := U.calling g mk a) (Vm.Alike.refl U.vm) h3, h4, sk_C.same (u := U) (U := U.calling g mk a) rfl h5⟩
theorem sk_pre {s : State} {H : Heap} {locs : List Loc} {p : Program} {m : MethodId} {args : Array Value} {meth : Method} {c : Code} {as : List Value} (hcx : sk_cx G X p s m args meth c) (hP : va_P G.2.1 vwCl (sk_ws G.2.2.1 G.2.2.2.1 M) H) (hS : va_S (sk_A G.2.2.1 s.heap.size) s.heap H locs) :
    ∀ U : State, U.heap = H → s.WarmedH U.vm → sk_P G M H.size as as.toArray U := by
  intro U hU hW
  refine ⟨rfl, by rw [hU], by rw [hU]; exact hP, va_K.moved hW.alike hcx.2.2.2.2.2.2.2.2.1, hcx.2.2.2.2.2.2.2.2.2.1, ?_⟩
  rw [hU]
  have h1 : sk_C G (sk_A G.2.2.1 s.heap.size) s H := hcx.2.2.2.2.2.2.2.2.2.2.kept hS.2.1
  exact (h1.narrow (sk_A_mono hS.1)).moved hW
theorem sk_all4 {a b c d : Cond} (h : [a, b, c, d].all sk_wok = true) : a ∈ sk_w ∧ b ∈ sk_w ∧ c ∈ sk_w ∧ d ∈ sk_w := by
  simp only [List.all_cons, List.all_nil, Bool.and_eq_true, and_true] at h
  exact ⟨sk_w_in h.1, sk_w_in h.2.1, sk_w_in h.2.2.1, sk_w_in h.2.2.2⟩
theorem sk_w_good {w : Cond} (h : w ∈ sk_w) : (w.onTables && w.keeps) = true ∨ ∃ ty, w = .arrayClass ty := good_of_word (List.mem_filter.mp h).2
theorem sk_good {Y : sk_X} (h : sk_cw Y ∈ sk_w) : GoodIn sk_w (sk_cw Y :: sk_w) := fun w hw => (List.mem_cons.mp hw).elim (fun e => by rw [e]; exact ⟨h, sk_w_good h⟩) (fun z => ⟨z, sk_w_good z⟩)
/-- a call's words, a method of an object -/
def sk_cV (own : String) (i : Nat) (Y : sk_X) : Bool := [Cond.methodLink own i Y.1, .instanceMethod Y.1, .selects Y.1.cls Y.1 Y.1, .initialized Y.1.cls].all sk_wok
def sk_cS (own : String) (i : Nat) (Y : sk_X) : Bool := [Cond.methodLink own i Y.1, .static Y.1, .initialized Y.1.cls, .initialized Y.1.cls].all sk_wok
def sk_np (Y : sk_X) (n : Nat) : Prop := Y.1.cls ≠ "java/lang/invoke/MethodHandle" ∧ Y.1.cls ≠ "java/lang/invoke/VarHandle" ∧ (parseMethodDescriptor Y.1.desc).map (fun d => d.parameters.length) = some n
/-- how a caller goes on -/
theorem sk_goes {po' : Option Value → sk_M → Prop} {xp' : String → sk_M → Prop} {mc' ms' : Nat} {rest : List Value} {a' : Array Value} {p : Program} {e : Env} {s : State} {m : MethodId} {args : Array Value} {below : List Frame} {meth : Method} {c : Code} {H : Heap} {locs : List Loc} {ls : Array Slot} {Q : State → Prop}
    (hcx : sk_cx G X p s m args meth c) (hS : va_S (sk_A G.2.2.1 s.heap.size) s.heap H locs) (hl : sk_L ls X.2.2.1 xs)
    (run : vx_Run p G.1 e R s m args below meth c H locs cells slots mc' ms' (F0 m pc ls st) rest (sk_Q G po' a') (sk_XC G xp') (sk_A G.2.2.1 H.size))
    (kx : ∀ (E9 : String) (M' : sk_M) (ce : Cell) (q9 : Addr) (H1 : Heap) (locs1 : List Loc), xp' E9 M' → va_P G.2.1 vwCl (sk_ws G.2.2.1 G.2.2.2.1 M') H1 → va_S (sk_A G.2.2.1 s.heap.size) s.heap H1 locs1 → H1[q9]? = some ce → ce.vm = .none → s.vm.findClass E9 = some ce.cls → vx_W p G.1 e R s m args below meth c H1 locs1 (cells + mc') (slots + ms') Q (F0 m pc ls rest) q9)
    (kk : ∀ (v : Option Value) (M' : sk_M) (H1 : Heap) (locs1 : List Loc), po' v M' → va_P G.2.1 vwCl (sk_ws G.2.2.1 G.2.2.2.1 M') H1 → va_S (sk_A G.2.2.1 s.heap.size) s.heap H1 locs1 → W p G.1 e R s m args below meth c H1 locs1 (cells + mc') (slots + ms') Q (F0 m (pc + 3) ls (v.toList ++ rest))) :
    W p G.1 e R s m args below meth c H locs cells slots Q (F0 m pc ls st) := by
  intro T hT XX
  rcases run T hT XX with ⟨v, st₀, t, T', L, h0, X', hL, e1, e2, ⟨⟨v', M', hv, hp, hP'⟩, hF⟩, go⟩ | ⟨q, st₀, t, T', L, E9, ce, h0, X', hL, e1, e2, ⟨⟨M', hp, hP'⟩, hF⟩, hce, hcv, hcl, go⟩
  · cases hv
    rw [h0] at hF
    obtain ⟨k1, k2, k3⟩ := vx_keep h0 e1 hS sk_A_lt (sk_A_mono hS.1) hL hF
    obtain ⟨t2, a1, b1⟩ := kk v M' T'.heap (locs ++ L) hp (by rw [e1]; exact hP') k3 T' rfl X'
    exact ⟨t2, go t2 a1, b1⟩
  · rw [h0] at hF
    obtain ⟨k1, k2, k3⟩ := vx_keep h0 e1 hS sk_A_lt (sk_A_mono hS.1) hL hF
    obtain ⟨t2, a1, b1⟩ := kx E9 M' ce q T'.heap (locs ++ L) hp (by rw [e1]; exact hP') k3 (by rw [e1]; exact hce) hcv hcl T' rfl X'
    exact ⟨t2, go.trans a1, b1⟩
theorem sk_runV {i c d' mc' ms' ci : Nat} {Y : sk_X} {C : String} {T : u_T} {N : Nat} {As rest : List Value} {po' : Option Value → sk_M → Prop} {xp' : String → sk_M → Prop} (hM : Ctr G Y d' mc' ms' (.ref (G.2.2.1 c) :: As) M po' xp') (hw : sk_cV X.1.cls i Y = true) (hcw : sk_wok (sk_cw Y) = true) (hn : sk_np Y As.length)
    (hc : vwCl[ci]? = some (C, T, N)) (hci : ci < 10) (hkd : sk_kd c = ci) (hlt : c < 159) (hC : C = Y.1.cls) (hf : d' + 1 ≤ R.frames) (hlo : 8 + (Y.2.2.1 + 11) + 64 * d' ≤ R.locals) (h1 : cells + mc' ≤ R.cells) (h2 : slots + ms' ≤ R.slots) (hst : st = As.reverse ++ .ref (G.2.2.1 c) :: rest) (hr : (rest.map fun v => v.category).sum ≤ 8)
    (d : decode X.2.1 pc = .ok (.invokevirtual i, 3)) {p : Program} {e : Env} {s : State} {m : MethodId} {args : Array Value} {below : List Frame} {meth : Method} {co : Code} {H : Heap} {locs : List Loc} {ls : Array Slot} (hcx : sk_cx G X p s m args meth co) (hP : va_P G.2.1 vwCl (sk_ws G.2.2.1 G.2.2.2.1 M) H) (hS : va_S (sk_A G.2.2.1 s.heap.size) s.heap H locs) (hl : sk_L ls X.2.2.1 xs) :
    vx_Run p G.1 e R s m args below meth co H locs cells slots mc' ms' (F0 m pc ls st) rest (sk_Q G po' (Value.ref (G.2.2.1 c) :: As).toArray) (sk_XC G xp') (sk_A G.2.2.1 H.size) := by
  obtain ⟨w1, w2, w3, w4⟩ := sk_all4 hw
  have w5 := sk_w_in hcw
  have hb := hcx.2.2.2.2.2.1
  have hg := sk_good w5
  refine vx_runV (Ts := sk_w) (own := X.1.cls) (C := Y.1.cls) (index := i) (cc := X.2.1) (nL := X.2.2.1) (bytes := Y.2.1) (maxL := Y.2.2.1) (ret := Y.2.2.2.1) (n := As.length) ⟨hcx.1, hcx.2.1, hcx.2.2.2.1, hcx.2.2.2.2.1, hb⟩ (hM H.size) ⟨callB_of As.length hb hg rfl rfl rfl (hb _ w4) (hb _ w1) hn ⟨hf, hlo⟩, hb _ w2, hb _ w3⟩ ⟨sk_blind, ?_, sk_pre hcx hP hS⟩ rfl rfl hl.1 hst (lv_room hr) d ⟨h1, h2⟩
  have := va_recv (q := (C, T, N)) hcx.2.2.2.2.2.2.2.2.1 hP hc (q0 := c) (by rw [sk_at hlt, sk_ce_obj hkd hci])
  rw [← hC]
  exact this
theorem sk_runS {i d' mc' ms' : Nat} {Y : sk_X} {As rest : List Value} {po' : Option Value → sk_M → Prop} {xp' : String → sk_M → Prop} (hM : Ctr G Y d' mc' ms' As M po' xp') (hw : sk_cS X.1.cls i Y = true) (hcw : sk_wok (sk_cw Y) = true) (hn : sk_np Y As.length)
    (hf : d' + 1 ≤ R.frames) (hlo : 8 + (Y.2.2.1 + 11) + 64 * d' ≤ R.locals) (h1 : cells + mc' ≤ R.cells) (h2 : slots + ms' ≤ R.slots) (hst : st = As.reverse ++ rest) (hr : (rest.map fun v => v.category).sum ≤ 8)
    (d : decode X.2.1 pc = .ok (.invokestatic i, 3)) {p : Program} {e : Env} {s : State} {m : MethodId} {args : Array Value} {below : List Frame} {meth : Method} {co : Code} {H : Heap} {locs : List Loc} {ls : Array Slot} (hcx : sk_cx G X p s m args meth co) (hP : va_P G.2.1 vwCl (sk_ws G.2.2.1 G.2.2.2.1 M) H) (hS : va_S (sk_A G.2.2.1 s.heap.size) s.heap H locs) (hl : sk_L ls X.2.2.1 xs) :
    vx_Run p G.1 e R s m args below meth co H locs cells slots mc' ms' (F0 m pc ls st) rest (sk_Q G po' As.toArray) (sk_XC G xp') (sk_A G.2.2.1 H.size) := by
  obtain ⟨w1, w2, w4, -⟩ := sk_all4 hw
  have w5 := sk_w_in hcw
  have hb := hcx.2.2.2.2.2.1
  have hg := sk_good w5
  exact vx_runS (Ts := sk_w) (own := X.1.cls) (index := i) (cc := X.2.1) (nL := X.2.2.1) (bytes := Y.2.1) (maxL := Y.2.2.1) (ret := Y.2.2.2.1) (n := As.length) ⟨hcx.1, hcx.2.1, hcx.2.2.2.1, hcx.2.2.2.2.1, hb⟩ (hM H.size) ⟨callB_of As.length hb hg rfl rfl rfl (hb _ w4) (hb _ w1) hn ⟨hf, hlo⟩, hb _ w2⟩ ⟨sk_blind, sk_pre hcx hP hS⟩ rfl rfl hl.1 hst (lv_room hr) d ⟨h1, h2⟩
/-- a method of an object that never throws -/
theorem T.cV {i c d' mc' ms' ci : Nat} {Y : sk_X} {C : String} {T : u_T} {N : Nat} {As rest : List Value} {po' : Option Value → sk_M → Prop} (hM : Ctr G Y d' mc' ms' (.ref (G.2.2.1 c) :: As) M po' (fun _ _ => False)) (hw : sk_cV X.1.cls i Y = true) (hcw : sk_wok (sk_cw Y) = true) (hn : sk_np Y As.length)
    (hc : vwCl[ci]? = some (C, T, N)) (hci : ci < 10) (hkd : sk_kd c = ci) (hlt : c < 159) (hC : C = Y.1.cls) (hf : d' + 1 ≤ R.frames) (hlo : 8 + (Y.2.2.1 + 11) + 64 * d' ≤ R.locals) (h1 : cells + mc' ≤ R.cells) (h2 : slots + ms' ≤ R.slots) (hst : st = As.reverse ++ .ref (G.2.2.1 c) :: rest) (hr : (rest.map fun v => v.category).sum ≤ 8)
    (d : decode X.2.1 pc = .ok (.invokevirtual i, 3)) (hq : pc + 3 = q) (kk : ∀ v M', po' v M' → TJ G X R E (cells + mc') (slots + ms') q xs (v.toList ++ rest) M') : TJ G X R E cells slots pc xs st M := by
  subst hq
  intro p e s m args below meth co H locs hcx hP hS ls hl
  exact sk_goes hcx hS hl (sk_runV hM hw hcw hn hc hci hkd hlt hC hf hlo h1 h2 hst hr d hcx hP hS hl) (fun _ _ _ _ _ _ h => h.elim) (fun v M' H1 locs1 hp hP1 hS1 => kk v M' hp p e s m args below meth co H1 locs1 hcx hP1 hS1 ls hl)
theorem T.cS {i d' mc' ms' : Nat} {Y : sk_X} {As rest : List Value} {po' : Option Value → sk_M → Prop} (hM : Ctr G Y d' mc' ms' As M po' (fun _ _ => False)) (hw : sk_cS X.1.cls i Y = true) (hcw : sk_wok (sk_cw Y) = true) (hn : sk_np Y As.length)
    (hf : d' + 1 ≤ R.frames) (hlo : 8 + (Y.2.2.1 + 11) + 64 * d' ≤ R.locals) (h1 : cells + mc' ≤ R.cells) (h2 : slots + ms' ≤ R.slots) (hst : st = As.reverse ++ rest) (hr : (rest.map fun v => v.category).sum ≤ 8)
    (d : decode X.2.1 pc = .ok (.invokestatic i, 3)) (hq : pc + 3 = q) (kk : ∀ v M', po' v M' → TJ G X R E (cells + mc') (slots + ms') q xs (v.toList ++ rest) M') : TJ G X R E cells slots pc xs st M := by
  subst hq
  intro p e s m args below meth co H locs hcx hP hS ls hl
  exact sk_goes hcx hS hl (sk_runS hM hw hcw hn hf hlo h1 h2 hst hr d hcx hP hS hl) (fun _ _ _ _ _ _ h => h.elim) (fun v M' H1 locs1 hp hP1 hS1 => kk v M' hp p e s m args below meth co H1 locs1 hcx hP1 hS1 ls hl)
/-- a callee that may throw, in a method without handlers -/
theorem T.cVx {i c d' mc' ms' ci mc ms : Nat} {Y : sk_X} {C : String} {T : u_T} {N : Nat} {As rest : List Value} {po po' : Option Value → sk_M → Prop} {xp xp' : String → sk_M → Prop} (hM : Ctr G Y d' mc' ms' (.ref (G.2.2.1 c) :: As) M po' xp') (hw : sk_cV X.1.cls i Y = true) (hcw : sk_wok (sk_cw Y) = true) (hn : sk_np Y As.length)
    (hc : vwCl[ci]? = some (C, T, N)) (hci : ci < 10) (hkd : sk_kd c = ci) (hlt : c < 159) (hC : C = Y.1.cls) (hf : d' + 1 ≤ R.frames) (hlo : 8 + (Y.2.2.1 + 11) + 64 * d' ≤ R.locals) (h1 : cells + mc' ≤ R.cells) (h2 : slots + ms' ≤ R.slots) (hst : st = As.reverse ++ .ref (G.2.2.1 c) :: rest) (hr : (rest.map fun v => v.category).sum ≤ 8)
    (d : decode X.2.1 pc = .ok (.invokevirtual i, 3)) (hq : pc + 3 = q) (hh : X.2.2.2.2 = []) (h3 : cells + mc' ≤ mc) (h4 : slots + ms' ≤ ms) (hx : ∀ E9 M', xp' E9 M' → xp E9 M') (kk : ∀ v M', po' v M' → TJ G X R (sk_K G mc ms po xp) (cells + mc') (slots + ms') q xs (v.toList ++ rest) M') : TJ G X R (sk_K G mc ms po xp) cells slots pc xs st M := by
  subst hq
  intro p e s m args below meth co H locs hcx hP hS ls hl
  refine sk_goes hcx hS hl (sk_runV hM hw hcw hn hc hci hkd hlt hC hf hlo h1 h2 hst hr d hcx hP hS hl) (fun E9 M' ce q9 H1 locs1 hp hP1 hS1 g1 g2 g3 => ?_) (fun v M' H1 locs1 hp hP1 hS1 => kk v M' hp p e s m args below meth co H1 locs1 hcx hP1 hS1 ls hl)
  exact vx_out (fun x9 hx9 => by rw [hcx.2.2.2.2.2.2.2.1, hh] at hx9; cases hx9) hcx.2.2.2.2.2.2.1 g1 g2 g3 (fun t ht _ => ⟨⟨M', hx _ _ hp, by rw [ht]; exact hP1⟩, hS1.F ht⟩) hS1.2.2 h3 h4
theorem T.cSx {i d' mc' ms' mc ms : Nat} {Y : sk_X} {As rest : List Value} {po po' : Option Value → sk_M → Prop} {xp xp' : String → sk_M → Prop} (hM : Ctr G Y d' mc' ms' As M po' xp') (hw : sk_cS X.1.cls i Y = true) (hcw : sk_wok (sk_cw Y) = true) (hn : sk_np Y As.length)
    (hf : d' + 1 ≤ R.frames) (hlo : 8 + (Y.2.2.1 + 11) + 64 * d' ≤ R.locals) (h1 : cells + mc' ≤ R.cells) (h2 : slots + ms' ≤ R.slots) (hst : st = As.reverse ++ rest) (hr : (rest.map fun v => v.category).sum ≤ 8)
    (d : decode X.2.1 pc = .ok (.invokestatic i, 3)) (hq : pc + 3 = q) (hh : X.2.2.2.2 = []) (h3 : cells + mc' ≤ mc) (h4 : slots + ms' ≤ ms) (hx : ∀ E9 M', xp' E9 M' → xp E9 M') (kk : ∀ v M', po' v M' → TJ G X R (sk_K G mc ms po xp) (cells + mc') (slots + ms') q xs (v.toList ++ rest) M') : TJ G X R (sk_K G mc ms po xp) cells slots pc xs st M := by
  subst hq
  intro p e s m args below meth co H locs hcx hP hS ls hl
  refine sk_goes hcx hS hl (sk_runS hM hw hcw hn hf hlo h1 h2 hst hr d hcx hP hS hl) (fun E9 M' ce q9 H1 locs1 hp hP1 hS1 g1 g2 g3 => ?_) (fun v M' H1 locs1 hp hP1 hS1 => kk v M' hp p e s m args below meth co H1 locs1 hcx hP1 hS1 ls hl)
  exact vx_out (fun x9 hx9 => by rw [hcx.2.2.2.2.2.2.2.1, hh] at hx9; cases hx9) hcx.2.2.2.2.2.2.1 g1 g2 g3 (fun t ht _ => ⟨⟨M', hx _ _ hp, by rw [ht]; exact hP1⟩, hS1.F ht⟩) hS1.2.2 h3 h4
/-- words of a throw, but the one of castable -/
def sk_tw (own : String) (ik ic : Nat) (cls : String) (names : List String) : Bool := (Cond.classLink own ik cls :: Cond.initialized cls :: vx_atS own ic cls names).all (fun w => (sk_wok w || decide (w = .castable cls cls) || decide (w ∈ sk_De.map Cond.declares)) && vx_ot w) && Bundle.fit cls && names.all Bundle.fit && decide (cls ∈ sk_Ex)
theorem T.throwS {ik is ic mc ms j : Nat} {cls text : String} {names : List String} {po : Option Value → sk_M → Prop} {xp : String → sk_M → Prop} (hw : sk_tw X.1.cls ik ic cls names = true) (hstr : (X.1.cls, is, text, j) ∈ sk_St)
    (d0 : decode X.2.1 pc = .ok (.new ik, 3)) (d3 : decode X.2.1 (pc + 3) = .ok (.dup, 1)) (d4 : decode X.2.1 (pc + 4) = .ok (.ldc is, 2)) (d6 : decode X.2.1 (pc + 6) = .ok (.invokespecial ic, 3)) (d9 : decode X.2.1 (pc + 9) = .ok (.athrow, 1)) (hh : X.2.2.2.2 = [])
    (hf : names.length + 3 < R.frames) (hlo : (st.map fun v => v.category).sum + (13 * (names.length + 1) + 43) ≤ R.locals) (h1 : cells + 1 ≤ R.cells) (h2 : slots + 6 ≤ R.slots) (h3 : cells + 1 ≤ mc) (h4 : slots + 6 ≤ ms) (hp : xp cls M) : TJ G X R (sk_K G mc ms po xp) cells slots pc xs st M := by
  simp only [sk_tw, Bool.and_eq_true, List.all_eq_true, Bool.or_eq_true, decide_eq_true_eq] at hw
  obtain ⟨⟨⟨hw, hw2⟩, hw3⟩, hw4⟩ := hw
  intro p e s m args below meth co H locs hcx hP hS ls hl
  have hC := hcx.2.2.2.2.2.2.2.2.2.2
  have ha : ∀ w ∈ Cond.classLink X.1.cls ik cls :: Cond.initialized cls :: vx_atS X.1.cls ic cls names, w.before args s = true := by
    intro w hwm
    rcases (hw w hwm).1 with (h | h) | h
    · exact hcx.2.2.2.2.2.1 _ (sk_w_in h)
    · rw [h]; exact va_Nw.use rfl (hC.2.2.2.2.2.1 cls hw4)
    · obtain ⟨y9, hy9, rfl⟩ := List.mem_map.mp h
      exact va_Nw.use rfl (hC.2.2.2.2.2.2.2.2 y9 hy9)
  refine vx_throwS (cls := cls) (names := names) (sa := G.2.2.2.2.1 j) (A := sk_A G.2.2.1 s.heap.size) (text := text) hcx.1 hcx.2.1 hC.1 hcx.2.2.2.2.1 hw2 hw3 (ha _ List.mem_cons_self) (ha _ (List.mem_cons_of_mem _ List.mem_cons_self)) (hC.2.2.2.2.1 _ hstr) (fun w h => ha w (List.mem_cons_of_mem _ (List.mem_cons_of_mem _ h))) (fun w h => (hw w h).2) hC.2.1 hC.2.2.1 hS (hl.1.trans hcx.2.2.2.1.symm) d0 d3 d4 d6 d9 (fun x9 hx9 => by rw [hcx.2.2.2.2.2.2.2.1, hh] at hx9; cases hx9) hf hlo h1 h2 hcx.2.2.2.2.2.2.1 (fun t _ hz hk => ⟨⟨M, hp, ?_⟩, ⟨Nat.le_trans hS.1 hz, fun q hq hA => by rw [hk q (Nat.lt_of_lt_of_le hq hS.1)]; exact hS.2.1 q hq hA⟩⟩) hS.2.2 h3 h4
  intro k q hq
  have hlt := vx_lt hP hq
  exact va_at.kept (hP k q hq) (hk _ hlt)
theorem T.throwSW {ik is ic mc ms j : Nat} {cls text : String} {names : List String} {po : Option Value → sk_M → Prop} {xp : String → sk_M → Prop} (hw : sk_tw X.1.cls ik ic cls names = true) (hstr : (X.1.cls, is, text, j) ∈ sk_St)
    (d0 : decode X.2.1 pc = .ok (.new ik, 3)) (d3 : decode X.2.1 (pc + 3) = .ok (.dup, 1)) (d4 : decode X.2.1 (pc + 4) = .ok (.ldc_w is, 3)) (d7 : decode X.2.1 (pc + 7) = .ok (.invokespecial ic, 3)) (d10 : decode X.2.1 (pc + 10) = .ok (.athrow, 1)) (hh : X.2.2.2.2 = [])
    (hf : names.length + 3 < R.frames) (hlo : (st.map fun v => v.category).sum + (13 * (names.length + 1) + 43) ≤ R.locals) (h1 : cells + 1 ≤ R.cells) (h2 : slots + 6 ≤ R.slots) (h3 : cells + 1 ≤ mc) (h4 : slots + 6 ≤ ms) (hp : xp cls M) : TJ G X R (sk_K G mc ms po xp) cells slots pc xs st M := by
  simp only [sk_tw, Bool.and_eq_true, List.all_eq_true, Bool.or_eq_true, decide_eq_true_eq] at hw
  obtain ⟨⟨⟨hw, hw2⟩, hw3⟩, hw4⟩ := hw
  intro p e s m args below meth co H locs hcx hP hS ls hl
  have hC := hcx.2.2.2.2.2.2.2.2.2.2
  have ha : ∀ w ∈ Cond.classLink X.1.cls ik cls :: Cond.initialized cls :: vx_atS X.1.cls ic cls names, w.before args s = true := by
    intro w hwm
    rcases (hw w hwm).1 with (h | h) | h
    · exact hcx.2.2.2.2.2.1 _ (sk_w_in h)
    · rw [h]; exact va_Nw.use rfl (hC.2.2.2.2.2.1 cls hw4)
    · obtain ⟨y9, hy9, rfl⟩ := List.mem_map.mp h
      exact va_Nw.use rfl (hC.2.2.2.2.2.2.2.2 y9 hy9)
  refine vx_throwSW (cls := cls) (names := names) (sa := G.2.2.2.2.1 j) (A := sk_A G.2.2.1 s.heap.size) (text := text) hcx.1 hcx.2.1 hC.1 hcx.2.2.2.2.1 hw2 hw3 (ha _ List.mem_cons_self) (ha _ (List.mem_cons_of_mem _ List.mem_cons_self)) (hC.2.2.2.2.1 _ hstr) (fun w h => ha w (List.mem_cons_of_mem _ (List.mem_cons_of_mem _ h))) (fun w h => (hw w h).2) hC.2.1 hC.2.2.1 hS (hl.1.trans hcx.2.2.2.1.symm) d0 d3 d4 d7 d10 (fun x9 hx9 => by rw [hcx.2.2.2.2.2.2.2.1, hh] at hx9; cases hx9) hf hlo h1 h2 hcx.2.2.2.2.2.2.1 (fun t _ hz hk => ⟨⟨M, hp, ?_⟩, ⟨Nat.le_trans hS.1 hz, fun q hq hA => by rw [hk q (Nat.lt_of_lt_of_le hq hS.1)]; exact hS.2.1 q hq hA⟩⟩) hS.2.2 h3 h4
  intro k q hq
  have hlt := vx_lt hP hq
  exact va_at.kept (hP k q hq) (hk _ hlt)
end SKC
