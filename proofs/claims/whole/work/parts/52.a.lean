/-! methods with handlers: their contracts, their calls; a callee's throw, caught here -/
def sk_cwH (X : sk_X) : Cond := .codeWith X.1 X.2.1 X.2.2.1 X.2.2.2.1 X.2.2.2.2
def CtrH (G : sk_G) (X : sk_X) (d mc ms : Nat) (args : List Value) (M : sk_M) (po : Option Value → sk_M → Prop) : Prop :=
  ∀ sz : Nat, vx_Met G.1 X.1 (sk_cwH X :: sk_w) (sk_R d mc ms) (sk_P G M sz args) (sk_Q G po) (sk_XC G noX) mc ms (sk_A G.2.2.1 sz)
set_option maxHeartbeats 1000000 in
theorem CtrH.of {G : sk_G} {y : MethodName} {cc : ByteArray} {n : Nat} {ret : Option FieldType} {hh : List (Nat × Nat × Nat × Nat)} {d mc ms : Nat} {args : List Value} {M : sk_M} {po : Option Value → sk_M → Prop} (k : Nat) (hy : plainName y.cls = true) (hlen : (lg_sl args).length ≤ n)
    (h : TJ G (y, cc, n, ret, hh) (sk_R d mc ms) (sk_K G mc ms po noX) 0 0 0 (sk_en args ++ List.replicate k none) [] M) : CtrH G (y, cc, n, ret, hh) d mc ms args M po := by
  intro sz
  refine vx_ofWH (cc := cc) (maxL := n) (ret := ret) (hh := hh) hy rfl ?_
  intro p e s m args' below meth c s₁ B hml hv
  obtain ⟨rfl, hsz, hP, hK, hinj, hC⟩ := hv
  subst hsz
  have hts := atoms_spec (ws := sk_cwH (y, cc, n, ret, hh) :: sk_w) B.pre
  have hl := lv_entry args (n := n) hlen
  rw [lg_entry_eq]
  generalize (lg_sl args ++ List.replicate (n - (lg_sl args).length) Slot.unset).toArray = ls at hl ⊢
  exact h p e s m args.toArray below meth c s.heap [] ⟨B.exec, B.bytes, B.returns, hml, findClass_of_methodNamed B.named, fun w hw => hts w (List.mem_cons_of_mem _ hw), B.notSynchronized, vx_table (x := y) B (hts _ List.mem_cons_self), hK, hinj, hC⟩ hP va_S.rf ls ((sk_L.of hl).nones k)
section SK52
variable {G : sk_G} {X : sk_X} {R : Room} {E : sk_E} {cells slots pc q : Nat} {xs : List (Option Value)} {st : List Value} {M : sk_M}
theorem sk_goodH {Y : sk_X} (h : sk_cwH Y ∈ sk_w) : GoodIn sk_w (sk_cwH Y :: sk_w) := fun w hw => (List.mem_cons.mp hw).elim (fun e => by rw [e]; exact ⟨h, sk_w_good h⟩) (fun z => ⟨z, sk_w_good z⟩)
theorem T.cSH {i d' mc' ms' : Nat} {Y : sk_X} {As rest : List Value} {po' : Option Value → sk_M → Prop} (hM : CtrH G Y d' mc' ms' As M po') (hw : sk_cS X.1.cls i Y = true) (hcw : sk_wok (sk_cwH Y) = true) (hn : sk_np Y As.length)
    (hf : d' + 1 ≤ R.frames) (hlo : 8 + (Y.2.2.1 + 11) + 64 * d' ≤ R.locals) (h1 : cells + mc' ≤ R.cells) (h2 : slots + ms' ≤ R.slots) (hst : st = As.reverse ++ rest) (hr : (rest.map fun v => v.category).sum ≤ 8)
    (d : decode X.2.1 pc = .ok (.invokestatic i, 3)) (hq : pc + 3 = q) (kk : ∀ v M', po' v M' → TJ G X R E (cells + mc') (slots + ms') q xs (v.toList ++ rest) M') : TJ G X R E cells slots pc xs st M := by
  subst hq
  intro p e s m args below meth co H locs hcx hP hS ls hl
  obtain ⟨w1, w2, w4, -⟩ := sk_all4 hw
  have w5 := sk_w_in hcw
  have hb := hcx.2.2.2.2.2.1
  have hg := sk_goodH w5
  refine sk_goes hcx hS hl (vx_runSX (Ts := sk_w) (own := X.1.cls) (index := i) (cc := X.2.1) (nL := X.2.2.1) (bytes := Y.2.1) (maxL := Y.2.2.1) (ret := Y.2.2.2.1) (hh := Y.2.2.2.2) (n := As.length) ⟨hcx.1, hcx.2.1, hcx.2.2.2.1, hcx.2.2.2.2.1, hb⟩ (hM H.size) (vx_cwSW As.length hb (fun w hwm => ?_) rfl rfl rfl hn ⟨hf, hlo⟩) ⟨sk_blind, sk_pre hcx hP hS⟩ rfl rfl hl.1 hst (lv_room hr) d ⟨h1, h2⟩) (fun _ _ _ _ _ _ h => h.elim) (fun v M' H1 locs1 hp hP1 hS1 => kk v M' hp p e s m args below meth co H1 locs1 hcx hP1 hS1 ls hl)
  unfold va_wsS at hwm
  rcases List.mem_append.mp hwm with h | h
  · simp only [List.mem_cons, List.not_mem_nil, or_false] at h
    rcases h with rfl | rfl | rfl
    · exact ⟨w1, sk_w_good w1⟩
    · exact ⟨w2, sk_w_good w2⟩
    · exact ⟨w4, sk_w_good w4⟩
  · exact hg w h
/-- what is owed where a callee has thrown E9: the row that takes it, and the judgement at its handler -/
def sk_cat (G : sk_G) (X : sk_X) (R : Room) (E : sk_E) (k n pc : Nat) (xs : List (Option Value)) (E9 : String) (M' : sk_M) : Prop :=
  ∃ pre x suf, X.2.2.2.2 = pre ++ x :: suf ∧ (∀ z ∈ pre, z.2.2.2 ≠ 0 ∧ ∃ nm, sk_wok (.classLink X.1.cls z.2.2.2 nm) = true ∧ (E9, nm) ∈ sk_Np) ∧ (x.1 ≤ pc ∧ pc < x.2.1) ∧ x.2.2.2 ≠ 0 ∧ sk_wok (.classLink X.1.cls x.2.2.2 E9) = true ∧ E9 ∈ sk_Ex ∧ ∀ q9, TJ G X R E k n x.2.2.1 xs [.ref q9] M'
theorem T.cVc {i c d' mc' ms' ci : Nat} {Y : sk_X} {C : String} {T : u_T} {N : Nat} {As rest : List Value} {po' : Option Value → sk_M → Prop} {xp' : String → sk_M → Prop} (hM : Ctr G Y d' mc' ms' (.ref (G.2.2.1 c) :: As) M po' xp') (hw : sk_cV X.1.cls i Y = true) (hcw : sk_wok (sk_cw Y) = true) (hn : sk_np Y As.length)
    (hc : vwCl[ci]? = some (C, T, N)) (hci : ci < 10) (hkd : sk_kd c = ci) (hlt : c < 159) (hC : C = Y.1.cls) (hf : d' + 1 ≤ R.frames) (hlo : 8 + (Y.2.2.1 + 11) + 64 * d' ≤ R.locals) (h1 : cells + mc' ≤ R.cells) (h2 : slots + ms' ≤ R.slots) (hst : st = As.reverse ++ .ref (G.2.2.1 c) :: rest) (hr : (rest.map fun v => v.category).sum ≤ 8)
    (d : decode X.2.1 pc = .ok (.invokevirtual i, 3)) (hq : pc + 3 = q) (hx : ∀ E9 M', xp' E9 M' → sk_cat G X R E (cells + mc') (slots + ms') pc xs E9 M') (kk : ∀ v M', po' v M' → TJ G X R E (cells + mc') (slots + ms') q xs (v.toList ++ rest) M') : TJ G X R E cells slots pc xs st M := by
  subst hq
  intro p e s m args below meth co H locs hcx hP hS ls hl
  refine sk_goes hcx hS hl (sk_runV hM hw hcw hn hc hci hkd hlt hC hf hlo h1 h2 hst hr d hcx hP hS hl) (fun E9 M' ce q9 H1 locs1 hp hP1 hS1 g1 g2 g3 => ?_) (fun v M' H1 locs1 hp hP1 hS1 => kk v M' hp p e s m args below meth co H1 locs1 hcx hP1 hS1 ls hl)
  obtain ⟨pre, x, suf, e1, e2, e3, e4, e5, e6, e7⟩ := hx E9 M' hp
  have hCC := hcx.2.2.2.2.2.2.2.2.2.2
  refine vx_catch (own := X.1.cls) (name := E9) (E := E9) hcx.2.2.2.2.1 (tableOf pre) ⟨x.1, x.2.1, x.2.2.1, x.2.2.2⟩ (tableOf suf) (by rw [hcx.2.2.2.2.2.2.2.1, e1]; simp [tableOf]) (fun z hz => ?_) (by simp [covers, e3.1, e3.2]) e4 (hcx.2.2.2.2.2.1 _ (sk_w_in e5)) (va_Nw.use rfl (hCC.2.2.2.2.2.1 E9 e6)) g1 g2 g3 (e7 q9 p e s m args below meth co H1 locs1 hcx hP1 hS1 ls hl)
  obtain ⟨y, hy, rfl⟩ := List.mem_map.mp hz
  obtain ⟨k0, nm, k1, k2⟩ := e2 y hy
  exact Or.inr ⟨k0, nm, hcx.2.2.2.2.2.1 _ (sk_w_in k1), hCC.2.2.2.2.2.2.1 _ k2⟩
end SK52
