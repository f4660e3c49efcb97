/-! the law's own end; rules for its script -/
def R_law : String := "SafeKnownLaw"
def lw_P (b : Addr) (xs : List Int32) (args : Array Value) (s : State) : Prop := args = #[.ref b] ∧ s.IntsAt b xs ∧ xs.length ≤ 3072 ∧ (Jvm.Cond.and given_1 narrow_1).before args s = true
def lw_Q (_ : Array Value) (s : State) (o : Outcome) (t : State) : Prop := o = .returned (some (.int 1)) ∧ Framed s o t [] 601024 7293033
def lw_Z (below : List Frame) (a : Array Value) (s : State) : State → Prop := fun t => ∃ o, t.status = .running ∧ Ended t below o ∧ lw_Q a s o t
/-- the law's own end, with 1 on the stack, nothing written that was there before, its room as the claim has it -/
theorem lw_ret {p : Program} {l : Launch} {e : Env} {s : State} {m : MethodId} {below : List Frame} {meth : Method} {c : Code} {b : Nat} (hx : p.tables.exec = Jvm.exec) (hb : c.code = code) (hr : meth.sig.returnType = ret) (hlocks : meth.locks = false) {pc : Nat} {H : Heap} {ls : Array Slot} (hdg : decode code pc = .ok (.ireturn, 1)) : W p l e room_1 s m #[Value.ref b] below meth c H [] 601024 7293033 (lw_Z below #[Value.ref b] s) (F0 m pc ls [.int 1]) := by
  intro T hT X
  obtain ⟨fs, hret, hrun, hended, hW, hframe⟩ := X.leave (v := some (.int 1)) (hlocks := hlocks) (fun h => by rw [hr] at h; cases h)
  have hmeth' : T.vm.method? m = some meth := X.method'
  refine ⟨T.setFrames fs, ?_, .returned (some (.int 1)), hrun, hended, rfl, ⟨_, rfl⟩, hW, hframe⟩
  jvm_step X.here [X.here.top, hx, hb, hdg, hmeth', hr, ret, narrow_b1]
  (try refine ⟨rfl, ?_⟩); (try refine ⟨rfl, ?_⟩)
  first | (intro acts; rw [hret _ acts rfl rfl rfl]) | rw [hret _ _ rfl rfl rfl]
  exact Steps.refl _
abbrev mL_law_ : sk_X := (yL_law_, cL_law_, 7, ret, [])
def lw_sc (ad : Nat → Nat) (b L : Nat) (ys : Nat → Int32) (args : Array Value) (s : State) : Prop := args = #[.ref b] ∧ va_X b L ys s s.heap ∧ b < s.heap.size ∧ ∀ c, c < 159 → s.heap.size ≤ ad c
def lw_E (G : sk_G) (b L : Nat) (ys : Nat → Int32) : sk_E := fun below args s t => lw_sc G.2.2.1 b L ys args s → lw_Z below args s t
theorem lw_sc.out {ad : Nat → Nat} {b L : Nat} {ys : Nat → Int32} {args : Array Value} {s : State} (h : lw_sc ad b L ys args s) : ¬ sk_A ad s.heap.size b := by
  obtain ⟨-, -, h3, h4⟩ := h
  rintro (⟨k, hk, rfl⟩ | z)
  · exact absurd h3 (Nat.not_lt.mpr (h4 k hk))
  · exact absurd h3 (Nat.not_lt.mpr z)
theorem rm_c {n : Nat} (h : n ≤ 601024) : n ≤ room_1.cells := h
theorem rm_s {n : Nat} (h : n ≤ 7293033) : n ≤ room_1.slots := h
theorem lgc {x y : Int64} (h : x = y) : lg_cmp x y = 0 := by
  subst h
  unfold lg_cmp
  rw [if_neg (by simp), if_pos rfl]
theorem lnz {j : Nat} (h : j < 2) : ¬ nI (j + 1) = 0 := by
  rcases j with _ | _ | j
  · decide
  · decide
  · omega
theorem StN.go {I : sk_M → Prop} {w7 : (Int32 → sk_M → Prop) → Prop} {w8 : sk_M → (Int32 → sk_M → Prop) → Prop} (h : StN I w7 w8) : w7 (fun r M1 => w8 M1 (fun b M2 => r = b ∧ I M2)) := h
theorem StI.go {I : sk_M → Prop} {w7 : (Int32 → sk_M → Prop) → (String → sk_M → Prop) → Prop} {w8 : sk_M → (Int32 → sk_M → Prop) → Prop} {es : List String} (h : StI I w7 w8 es) :
    w7 (fun r M1 => w8 (sk_sl M1 158 0 r.toInt64) (fun b M2 => M2.1 140 0 = 0 ∧ M2.2 158 0 = b.toInt64 ∧ I M2)) (fun e M1 => ∃ i, es[i]? = some e ∧ w8 M1 (fun _ M2 => M2.1 140 0 = nI (i + 1) ∧ I M2)) := h
theorem StB.go {I : sk_M → Prop} {w7 : (Int32 → sk_M → Prop) → (String → sk_M → Prop) → Prop} {w8 : sk_M → (Int32 → sk_M → Prop) → Prop} {es : List String} (h : StB I w7 w8 es) :
    w7 (fun r M1 => w8 (sk_sl M1 158 0 (if r = 0 then 0 else 1)) (fun b M2 => M2.1 140 0 = 0 ∧ M2.2 158 0 = (if b = 0 then 0 else 1) ∧ I M2)) (fun e M1 => ∃ i, es[i]? = some e ∧ w8 M1 (fun _ M2 => M2.1 140 0 = nI (i + 1) ∧ I M2)) := h
def lwv (i : Int32) (L : Nat) : Prop := vp_in i L ∧ vp_in (i + 1) L ∧ vp_in (i + 2) L ∧ vp_in (i + 3) L ∧ vp_in (i + 4) L ∧ vp_in (i + 5) L
section SK54
variable {G : sk_G} {X : sk_X} {R : Room} {cells slots pc q : Nat} {xs : List (Option Value)} {st : List Value} {M : sk_M} {b L : Nat} {ys : Nat → Int32}
theorem T.sld {i v : Int32} (hin : vp_in i L) (hv : v = ys i.toNatClampNeg) (d : decode X.2.1 pc = .ok (.iaload, 1)) (hq : pc + 1 = q) (kk : TJ G X R (lw_E G b L ys) cells slots q xs (.int v :: st) M) : TJ G X R (lw_E G b L ys) cells slots pc xs (.int i :: .ref b :: st) M := by
  subst hq hv
  intro p e s m args below meth c H locs hcx hP hS ls hl
  by_cases h : lw_sc G.2.2.1 b L ys args s
  · exact va_sld hcx.1 hcx.2.1 h.2.1 h.2.2.1 h.out hS hin d (kk p e s m args below meth c H locs hcx hP hS ls hl)
  · exact fun T hT XX => ⟨_, Steps.refl _, fun z => absurd z h⟩
theorem T.slen (d : decode X.2.1 pc = .ok (.arraylength, 1)) (hq : pc + 1 = q) (kk : TJ G X R (lw_E G b L ys) cells slots q xs (.int (nI L) :: st) M) : TJ G X R (lw_E G b L ys) cells slots pc xs (.ref b :: st) M := by
  subst hq
  intro p e s m args below meth c H locs hcx hP hS ls hl
  by_cases h : lw_sc G.2.2.1 b L ys args s
  · exact va_slen hcx.1 hcx.2.1 h.2.1 h.2.2.1 h.out hS d (kk p e s m args below meth c H locs hcx hP hS ls hl)
  · exact fun T hT XX => ⟨_, Steps.refl _, fun z => absurd z h⟩
theorem T.lwret (d : decode code pc = .ok (.ireturn, 1)) (hc : cells ≤ 601024) (hs : slots ≤ 7293033) : TJ G mL_law_ room_1 (lw_E G b L ys) cells slots pc xs [.int 1] M := by
  intro p e s m args below meth c H locs hcx hP hS ls hl
  by_cases h : lw_sc G.2.2.1 b L ys args s
  · obtain ⟨rfl, h2, h3, h4⟩ := h
    intro T hT XX
    obtain ⟨t, a1, b1⟩ := (va_forget (fun z hz => by
      rcases hS.2.2 z hz with ⟨k, hk, e9⟩ | e9
      · rw [e9]; exact h4 k hk
      · exact e9) (W.widen hc hs (lw_ret (b := b) hcx.1 hcx.2.1 hcx.2.2.1 hcx.2.2.2.2.2.2.1 d))) T hT XX
    exact ⟨t, a1, fun _ => b1⟩
  · exact fun T hT XX => ⟨_, Steps.refl _, fun z => absurd z h⟩
end SK54
/-! the law's calls: words -/
theorem w_L_133 : sk_cV RL 133 mX7_feed = true := sk_al4 (sk_okP 456 (by decide +kernel) (by decide +kernel)) (sk_okP 457 (by decide +kernel) (by decide +kernel)) (sk_okP 458 (by decide +kernel) (by decide +kernel)) (sk_okP 103 (by decide +kernel) (by decide +kernel))
theorem np_X7_feed : sk_np mX7_feed 5 := ⟨by decide +kernel, by decide +kernel, by decide +kernel⟩
theorem w_L_137 : sk_cV RL 137 mX8_feed = true := sk_al4 (sk_okP 1475 (by decide +kernel) (by decide +kernel)) (sk_okP 1476 (by decide +kernel) (by decide +kernel)) (sk_okP 1477 (by decide +kernel) (by decide +kernel)) (sk_okP 111 (by decide +kernel) (by decide +kernel))
theorem np_X8_feed : sk_np mX8_feed 5 := ⟨by decide +kernel, by decide +kernel, by decide +kernel⟩
theorem w_L_138 : sk_cV RL 138 mX7_end = true := sk_al4 (sk_okP 468 (by decide +kernel) (by decide +kernel)) (sk_okP 469 (by decide +kernel) (by decide +kernel)) (sk_okP 470 (by decide +kernel) (by decide +kernel)) (sk_okP 103 (by decide +kernel) (by decide +kernel))
theorem np_X7_end : sk_np mX7_end 1 := ⟨by decide +kernel, by decide +kernel, by decide +kernel⟩
theorem w_L_142 : sk_cV RL 142 mX8_end = true := sk_al4 (sk_okP 1479 (by decide +kernel) (by decide +kernel)) (sk_okP 1480 (by decide +kernel) (by decide +kernel)) (sk_okP 1481 (by decide +kernel) (by decide +kernel)) (sk_okP 111 (by decide +kernel) (by decide +kernel))
theorem np_X8_end : sk_np mX8_end 1 := ⟨by decide +kernel, by decide +kernel, by decide +kernel⟩
theorem w_L_143 : sk_cS RL 143 mL_bank = true := sk_al4 (sk_okP 601 (by decide +kernel) (by decide +kernel)) (sk_okP 602 (by decide +kernel) (by decide +kernel)) (sk_okP 102 (by decide +kernel) (by decide +kernel)) (sk_okP 102 (by decide +kernel) (by decide +kernel))
theorem w_L_148 : sk_cV RL 148 mX8_bank = true := sk_al4 (sk_okP 1487 (by decide +kernel) (by decide +kernel)) (sk_okP 1488 (by decide +kernel) (by decide +kernel)) (sk_okP 1489 (by decide +kernel) (by decide +kernel)) (sk_okP 111 (by decide +kernel) (by decide +kernel))
theorem np_X8_bank : sk_np mX8_bank 0 := ⟨by decide +kernel, by decide +kernel, by decide +kernel⟩
theorem w_L_149 : sk_cV RL 149 mX8_thrown = true := sk_al4 (sk_okP 1368 (by decide +kernel) (by decide +kernel)) (sk_okP 1369 (by decide +kernel) (by decide +kernel)) (sk_okP 1370 (by decide +kernel) (by decide +kernel)) (sk_okP 111 (by decide +kernel) (by decide +kernel))
theorem np_X8_thrown : sk_np mX8_thrown 0 := ⟨by decide +kernel, by decide +kernel, by decide +kernel⟩
theorem w_L_152 : sk_cS RL 152 mL_law = true := sk_al4 (sk_okP 823 (by decide +kernel) (by decide +kernel)) (sk_okP 824 (by decide +kernel) (by decide +kernel)) (sk_okP 102 (by decide +kernel) (by decide +kernel)) (sk_okP 102 (by decide +kernel) (by decide +kernel))
theorem w_L_154 : sk_cV RL 154 mX8_law = true := sk_al4 (sk_okP 1658 (by decide +kernel) (by decide +kernel)) (sk_okP 1659 (by decide +kernel) (by decide +kernel)) (sk_okP 1660 (by decide +kernel) (by decide +kernel)) (sk_okP 111 (by decide +kernel) (by decide +kernel))
theorem np_X8_law : sk_np mX8_law 0 := ⟨by decide +kernel, by decide +kernel, by decide +kernel⟩
theorem w_L_155 : sk_cV RL 155 mX7_fault = true := sk_al4 (sk_okP 472 (by decide +kernel) (by decide +kernel)) (sk_okP 473 (by decide +kernel) (by decide +kernel)) (sk_okP 474 (by decide +kernel) (by decide +kernel)) (sk_okP 103 (by decide +kernel) (by decide +kernel))
theorem np_X7_fault : sk_np mX7_fault 0 := ⟨by decide +kernel, by decide +kernel, by decide +kernel⟩
theorem w_L_158 : sk_cV RL 158 mX8_fault = true := sk_al4 (sk_okP 1483 (by decide +kernel) (by decide +kernel)) (sk_okP 1484 (by decide +kernel) (by decide +kernel)) (sk_okP 1485 (by decide +kernel) (by decide +kernel)) (sk_okP 111 (by decide +kernel) (by decide +kernel))
theorem np_X8_fault : sk_np mX8_fault 0 := ⟨by decide +kernel, by decide +kernel, by decide +kernel⟩
theorem w_L_159 : sk_cS RL 159 mL_vault = true := sk_al4 (sk_okP 896 (by decide +kernel) (by decide +kernel)) (sk_okP 897 (by decide +kernel) (by decide +kernel)) (sk_okP 102 (by decide +kernel) (by decide +kernel)) (sk_okP 102 (by decide +kernel) (by decide +kernel))
theorem w_L_162 : sk_cV RL 162 mX8_vault = true := sk_al4 (sk_okP 1703 (by decide +kernel) (by decide +kernel)) (sk_okP 1704 (by decide +kernel) (by decide +kernel)) (sk_okP 1705 (by decide +kernel) (by decide +kernel)) (sk_okP 111 (by decide +kernel) (by decide +kernel))
theorem np_X8_vault : sk_np mX8_vault 2 := ⟨by decide +kernel, by decide +kernel, by decide +kernel⟩
theorem w_L_163 : sk_cS RL 163 mL_left = true := sk_al4 (sk_okP 952 (by decide +kernel) (by decide +kernel)) (sk_okP 953 (by decide +kernel) (by decide +kernel)) (sk_okP 102 (by decide +kernel) (by decide +kernel)) (sk_okP 102 (by decide +kernel) (by decide +kernel))
theorem w_L_165 : sk_cV RL 165 mX8_left = true := sk_al4 (sk_okP 1731 (by decide +kernel) (by decide +kernel)) (sk_okP 1732 (by decide +kernel) (by decide +kernel)) (sk_okP 1733 (by decide +kernel) (by decide +kernel)) (sk_okP 111 (by decide +kernel) (by decide +kernel))
theorem np_X8_left : sk_np mX8_left 2 := ⟨by decide +kernel, by decide +kernel, by decide +kernel⟩
theorem w_L_166 : sk_cS RL 166 mL_code = true := sk_al4 (sk_okP 964 (by decide +kernel) (by decide +kernel)) (sk_okP 965 (by decide +kernel) (by decide +kernel)) (sk_okP 102 (by decide +kernel) (by decide +kernel)) (sk_okP 102 (by decide +kernel) (by decide +kernel))
theorem w_L_169 : sk_cV RL 169 mX8_code = true := sk_al4 (sk_okP 1744 (by decide +kernel) (by decide +kernel)) (sk_okP 1745 (by decide +kernel) (by decide +kernel)) (sk_okP 1746 (by decide +kernel) (by decide +kernel)) (sk_okP 111 (by decide +kernel) (by decide +kernel))
theorem np_X8_code : sk_np mX8_code 3 := ⟨by decide +kernel, by decide +kernel, by decide +kernel⟩
theorem w_L_170 : sk_cS RL 170 mL_wheel = true := sk_al4 (sk_okP 979 (by decide +kernel) (by decide +kernel)) (sk_okP 980 (by decide +kernel) (by decide +kernel)) (sk_okP 102 (by decide +kernel) (by decide +kernel)) (sk_okP 102 (by decide +kernel) (by decide +kernel))
theorem w_L_173 : sk_cV RL 173 mX8_wheel = true := sk_al4 (sk_okP 1752 (by decide +kernel) (by decide +kernel)) (sk_okP 1753 (by decide +kernel) (by decide +kernel)) (sk_okP 1754 (by decide +kernel) (by decide +kernel)) (sk_okP 111 (by decide +kernel) (by decide +kernel))
theorem np_X8_wheel : sk_np mX8_wheel 4 := ⟨by decide +kernel, by decide +kernel, by decide +kernel⟩
theorem w_L_174 : sk_cS RL 174 mL_click = true := sk_al4 (sk_okP 994 (by decide +kernel) (by decide +kernel)) (sk_okP 995 (by decide +kernel) (by decide +kernel)) (sk_okP 102 (by decide +kernel) (by decide +kernel)) (sk_okP 102 (by decide +kernel) (by decide +kernel))
theorem w_L_176 : sk_cV RL 176 mX8_click = true := sk_al4 (sk_okP 1662 (by decide +kernel) (by decide +kernel)) (sk_okP 1663 (by decide +kernel) (by decide +kernel)) (sk_okP 1664 (by decide +kernel) (by decide +kernel)) (sk_okP 111 (by decide +kernel) (by decide +kernel))
theorem np_X8_click : sk_np mX8_click 3 := ⟨by decide +kernel, by decide +kernel, by decide +kernel⟩
theorem w_L_177 : sk_cS RL 177 mL_sound = true := sk_al4 (sk_okP 1002 (by decide +kernel) (by decide +kernel)) (sk_okP 1003 (by decide +kernel) (by decide +kernel)) (sk_okP 102 (by decide +kernel) (by decide +kernel)) (sk_okP 102 (by decide +kernel) (by decide +kernel))
theorem w_L_179 : sk_cV RL 179 mX8_sound = true := sk_al4 (sk_okP 1685 (by decide +kernel) (by decide +kernel)) (sk_okP 1686 (by decide +kernel) (by decide +kernel)) (sk_okP 1687 (by decide +kernel) (by decide +kernel)) (sk_okP 111 (by decide +kernel) (by decide +kernel))
theorem np_X8_sound : sk_np mX8_sound 2 := ⟨by decide +kernel, by decide +kernel, by decide +kernel⟩
theorem w_L_180 : sk_cS RL 180 mL_turn = true := sk_al4 (sk_okP 1017 (by decide +kernel) (by decide +kernel)) (sk_okP 1018 (by decide +kernel) (by decide +kernel)) (sk_okP 102 (by decide +kernel) (by decide +kernel)) (sk_okP 102 (by decide +kernel) (by decide +kernel))
theorem w_L_182 : sk_cV RL 182 mX8_turn = true := sk_al4 (sk_okP 1764 (by decide +kernel) (by decide +kernel)) (sk_okP 1765 (by decide +kernel) (by decide +kernel)) (sk_okP 1766 (by decide +kernel) (by decide +kernel)) (sk_okP 111 (by decide +kernel) (by decide +kernel))
theorem np_X8_turn : sk_np mX8_turn 3 := ⟨by decide +kernel, by decide +kernel, by decide +kernel⟩
theorem w_L_183 : sk_cS RL 183 mL_tell = true := sk_al4 (sk_okP 1067 (by decide +kernel) (by decide +kernel)) (sk_okP 1068 (by decide +kernel) (by decide +kernel)) (sk_okP 102 (by decide +kernel) (by decide +kernel)) (sk_okP 102 (by decide +kernel) (by decide +kernel))
theorem w_L_185 : sk_cV RL 185 mX8_tell = true := sk_al4 (sk_okP 1788 (by decide +kernel) (by decide +kernel)) (sk_okP 1789 (by decide +kernel) (by decide +kernel)) (sk_okP 1790 (by decide +kernel) (by decide +kernel)) (sk_okP 111 (by decide +kernel) (by decide +kernel))
theorem np_X8_tell : sk_np mX8_tell 3 := ⟨by decide +kernel, by decide +kernel, by decide +kernel⟩
theorem w_L_186 : sk_cS RL 186 mL_forget = true := sk_al4 (sk_okP 1083 (by decide +kernel) (by decide +kernel)) (sk_okP 1084 (by decide +kernel) (by decide +kernel)) (sk_okP 102 (by decide +kernel) (by decide +kernel)) (sk_okP 102 (by decide +kernel) (by decide +kernel))
theorem w_L_188 : sk_cV RL 188 mX8_forget = true := sk_al4 (sk_okP 1792 (by decide +kernel) (by decide +kernel)) (sk_okP 1793 (by decide +kernel) (by decide +kernel)) (sk_okP 1794 (by decide +kernel) (by decide +kernel)) (sk_okP 111 (by decide +kernel) (by decide +kernel))
theorem np_X8_forget : sk_np mX8_forget 2 := ⟨by decide +kernel, by decide +kernel, by decide +kernel⟩
theorem w_L_189 : sk_cS RL 189 mL_change = true := sk_al4 (sk_okP 1091 (by decide +kernel) (by decide +kernel)) (sk_okP 1092 (by decide +kernel) (by decide +kernel)) (sk_okP 102 (by decide +kernel) (by decide +kernel)) (sk_okP 102 (by decide +kernel) (by decide +kernel))
theorem w_L_191 : sk_cV RL 191 mX8_change = true := sk_al4 (sk_okP 1796 (by decide +kernel) (by decide +kernel)) (sk_okP 1797 (by decide +kernel) (by decide +kernel)) (sk_okP 1798 (by decide +kernel) (by decide +kernel)) (sk_okP 111 (by decide +kernel) (by decide +kernel))
theorem np_X8_change : sk_np mX8_change 2 := ⟨by decide +kernel, by decide +kernel, by decide +kernel⟩
theorem w_L_192 : sk_cS RL 192 mL_guard = true := sk_al4 (sk_okP 1102 (by decide +kernel) (by decide +kernel)) (sk_okP 1103 (by decide +kernel) (by decide +kernel)) (sk_okP 102 (by decide +kernel) (by decide +kernel)) (sk_okP 102 (by decide +kernel) (by decide +kernel))
theorem w_L_195 : sk_cV RL 195 mX8_guard = true := sk_al4 (sk_okP 1804 (by decide +kernel) (by decide +kernel)) (sk_okP 1805 (by decide +kernel) (by decide +kernel)) (sk_okP 1806 (by decide +kernel) (by decide +kernel)) (sk_okP 111 (by decide +kernel) (by decide +kernel))
theorem np_X8_guard : sk_np mX8_guard 3 := ⟨by decide +kernel, by decide +kernel, by decide +kernel⟩
theorem w_L_196 : sk_cS RL 196 mL_days = true := sk_al4 (sk_okP 1110 (by decide +kernel) (by decide +kernel)) (sk_okP 1111 (by decide +kernel) (by decide +kernel)) (sk_okP 102 (by decide +kernel) (by decide +kernel)) (sk_okP 102 (by decide +kernel) (by decide +kernel))
theorem w_L_199 : sk_cV RL 199 mX8_days = true := sk_al4 (sk_okP 1808 (by decide +kernel) (by decide +kernel)) (sk_okP 1809 (by decide +kernel) (by decide +kernel)) (sk_okP 1810 (by decide +kernel) (by decide +kernel)) (sk_okP 111 (by decide +kernel) (by decide +kernel))
theorem np_X8_days : sk_np mX8_days 1 := ⟨by decide +kernel, by decide +kernel, by decide +kernel⟩
theorem w_L_200 : sk_cS RL 200 mL_parts = true := sk_al4 (sk_okP 1132 (by decide +kernel) (by decide +kernel)) (sk_okP 1133 (by decide +kernel) (by decide +kernel)) (sk_okP 102 (by decide +kernel) (by decide +kernel)) (sk_okP 102 (by decide +kernel) (by decide +kernel))
theorem w_L_202 : sk_cV RL 202 mX8_parts = true := sk_al4 (sk_okP 1821 (by decide +kernel) (by decide +kernel)) (sk_okP 1822 (by decide +kernel) (by decide +kernel)) (sk_okP 1823 (by decide +kernel) (by decide +kernel)) (sk_okP 111 (by decide +kernel) (by decide +kernel))
theorem np_X8_parts : sk_np mX8_parts 4 := ⟨by decide +kernel, by decide +kernel, by decide +kernel⟩
theorem w_L_203 : sk_cS RL 203 mL_next = true := sk_al4 (sk_okP 1158 (by decide +kernel) (by decide +kernel)) (sk_okP 1159 (by decide +kernel) (by decide +kernel)) (sk_okP 102 (by decide +kernel) (by decide +kernel)) (sk_okP 102 (by decide +kernel) (by decide +kernel))
theorem w_L_205 : sk_cV RL 205 mX8_next = true := sk_al4 (sk_okP 1829 (by decide +kernel) (by decide +kernel)) (sk_okP 1830 (by decide +kernel) (by decide +kernel)) (sk_okP 1831 (by decide +kernel) (by decide +kernel)) (sk_okP 111 (by decide +kernel) (by decide +kernel))
theorem np_X8_next : sk_np mX8_next 2 := ⟨by decide +kernel, by decide +kernel, by decide +kernel⟩
theorem w_L_206 : sk_cS RL 206 mL_outright = true := sk_al4 (sk_okP 1193 (by decide +kernel) (by decide +kernel)) (sk_okP 1194 (by decide +kernel) (by decide +kernel)) (sk_okP 102 (by decide +kernel) (by decide +kernel)) (sk_okP 102 (by decide +kernel) (by decide +kernel))
theorem w_L_208 : sk_cV RL 208 mX8_outright = true := sk_al4 (sk_okP 1838 (by decide +kernel) (by decide +kernel)) (sk_okP 1839 (by decide +kernel) (by decide +kernel)) (sk_okP 1840 (by decide +kernel) (by decide +kernel)) (sk_okP 111 (by decide +kernel) (by decide +kernel))
theorem np_X8_outright : sk_np mX8_outright 2 := ⟨by decide +kernel, by decide +kernel, by decide +kernel⟩
theorem w_L_209 : sk_cS RL 209 mL_worst = true := sk_al4 (sk_okP 1200 (by decide +kernel) (by decide +kernel)) (sk_okP 1201 (by decide +kernel) (by decide +kernel)) (sk_okP 102 (by decide +kernel) (by decide +kernel)) (sk_okP 102 (by decide +kernel) (by decide +kernel))
theorem w_L_211 : sk_cV RL 211 mX8_worst = true := sk_al4 (sk_okP 1842 (by decide +kernel) (by decide +kernel)) (sk_okP 1843 (by decide +kernel) (by decide +kernel)) (sk_okP 1844 (by decide +kernel) (by decide +kernel)) (sk_okP 111 (by decide +kernel) (by decide +kernel))
theorem np_X8_worst : sk_np mX8_worst 2 := ⟨by decide +kernel, by decide +kernel, by decide +kernel⟩
theorem w_L_212 : sk_cS RL 212 mL_quietest = true := sk_al4 (sk_okP 1221 (by decide +kernel) (by decide +kernel)) (sk_okP 1222 (by decide +kernel) (by decide +kernel)) (sk_okP 102 (by decide +kernel) (by decide +kernel)) (sk_okP 102 (by decide +kernel) (by decide +kernel))
theorem w_L_214 : sk_cV RL 214 mX8_quietest = true := sk_al4 (sk_okP 1850 (by decide +kernel) (by decide +kernel)) (sk_okP 1851 (by decide +kernel) (by decide +kernel)) (sk_okP 1852 (by decide +kernel) (by decide +kernel)) (sk_okP 111 (by decide +kernel) (by decide +kernel))
theorem np_X8_quietest : sk_np mX8_quietest 1 := ⟨by decide +kernel, by decide +kernel, by decide +kernel⟩
theorem w_L_215 : sk_cV RL 215 mX7_loudest = true := sk_al4 (sk_okP 476 (by decide +kernel) (by decide +kernel)) (sk_okP 477 (by decide +kernel) (by decide +kernel)) (sk_okP 478 (by decide +kernel) (by decide +kernel)) (sk_okP 103 (by decide +kernel) (by decide +kernel))
theorem np_X7_loudest : sk_np mX7_loudest 0 := ⟨by decide +kernel, by decide +kernel, by decide +kernel⟩
theorem w_L_218 : sk_cV RL 218 mX8_loudest = true := sk_al4 (sk_okP 1858 (by decide +kernel) (by decide +kernel)) (sk_okP 1859 (by decide +kernel) (by decide +kernel)) (sk_okP 1860 (by decide +kernel) (by decide +kernel)) (sk_okP 111 (by decide +kernel) (by decide +kernel))
theorem np_X8_loudest : sk_np mX8_loudest 0 := ⟨by decide +kernel, by decide +kernel, by decide +kernel⟩
theorem w_L_219 : sk_cV RL 219 mX7_deaf = true := sk_al4 (sk_okP 494 (by decide +kernel) (by decide +kernel)) (sk_okP 495 (by decide +kernel) (by decide +kernel)) (sk_okP 496 (by decide +kernel) (by decide +kernel)) (sk_okP 103 (by decide +kernel) (by decide +kernel))
theorem np_X7_deaf : sk_np mX7_deaf 0 := ⟨by decide +kernel, by decide +kernel, by decide +kernel⟩
theorem w_L_222 : sk_cV RL 222 mX8_deaf = true := sk_al4 (sk_okP 1867 (by decide +kernel) (by decide +kernel)) (sk_okP 1868 (by decide +kernel) (by decide +kernel)) (sk_okP 1869 (by decide +kernel) (by decide +kernel)) (sk_okP 111 (by decide +kernel) (by decide +kernel))
theorem np_X8_deaf : sk_np mX8_deaf 0 := ⟨by decide +kernel, by decide +kernel, by decide +kernel⟩
theorem w_L_223 : sk_cS RL 223 mL_alone = true := sk_al4 (sk_okP 1236 (by decide +kernel) (by decide +kernel)) (sk_okP 1237 (by decide +kernel) (by decide +kernel)) (sk_okP 102 (by decide +kernel) (by decide +kernel)) (sk_okP 102 (by decide +kernel) (by decide +kernel))
theorem w_L_225 : sk_cV RL 225 mX8_alone = true := sk_al4 (sk_okP 1871 (by decide +kernel) (by decide +kernel)) (sk_okP 1872 (by decide +kernel) (by decide +kernel)) (sk_okP 1873 (by decide +kernel) (by decide +kernel)) (sk_okP 111 (by decide +kernel) (by decide +kernel))
theorem np_X8_alone : sk_np mX8_alone 1 := ⟨by decide +kernel, by decide +kernel, by decide +kernel⟩
theorem w_L_226 : sk_cS RL 226 mL_together = true := sk_al4 (sk_okP 1243 (by decide +kernel) (by decide +kernel)) (sk_okP 1244 (by decide +kernel) (by decide +kernel)) (sk_okP 102 (by decide +kernel) (by decide +kernel)) (sk_okP 102 (by decide +kernel) (by decide +kernel))
theorem w_L_228 : sk_cV RL 228 mX8_together = true := sk_al4 (sk_okP 1875 (by decide +kernel) (by decide +kernel)) (sk_okP 1876 (by decide +kernel) (by decide +kernel)) (sk_okP 1877 (by decide +kernel) (by decide +kernel)) (sk_okP 111 (by decide +kernel) (by decide +kernel))
theorem np_X8_together : sk_np mX8_together 2 := ⟨by decide +kernel, by decide +kernel, by decide +kernel⟩
theorem w_L_229 : sk_cS RL 229 mL_fewest = true := sk_al4 (sk_okP 1254 (by decide +kernel) (by decide +kernel)) (sk_okP 1255 (by decide +kernel) (by decide +kernel)) (sk_okP 102 (by decide +kernel) (by decide +kernel)) (sk_okP 102 (by decide +kernel) (by decide +kernel))
theorem w_L_232 : sk_cV RL 232 mX8_fewest = true := sk_al4 (sk_okP 1887 (by decide +kernel) (by decide +kernel)) (sk_okP 1888 (by decide +kernel) (by decide +kernel)) (sk_okP 1889 (by decide +kernel) (by decide +kernel)) (sk_okP 111 (by decide +kernel) (by decide +kernel))
theorem np_X8_fewest : sk_np mX8_fewest 2 := ⟨by decide +kernel, by decide +kernel, by decide +kernel⟩
theorem w_L_233 : sk_cS RL 233 mL_pair = true := sk_al4 (sk_okP 1261 (by decide +kernel) (by decide +kernel)) (sk_okP 1262 (by decide +kernel) (by decide +kernel)) (sk_okP 102 (by decide +kernel) (by decide +kernel)) (sk_okP 102 (by decide +kernel) (by decide +kernel))
theorem w_L_235 : sk_cV RL 235 mX8_pair = true := sk_al4 (sk_okP 1891 (by decide +kernel) (by decide +kernel)) (sk_okP 1892 (by decide +kernel) (by decide +kernel)) (sk_okP 1893 (by decide +kernel) (by decide +kernel)) (sk_okP 111 (by decide +kernel) (by decide +kernel))
theorem np_X8_pair : sk_np mX8_pair 1 := ⟨by decide +kernel, by decide +kernel, by decide +kernel⟩
theorem w_L_236 : sk_cS RL 236 mL_gains = true := sk_al4 (sk_okP 1268 (by decide +kernel) (by decide +kernel)) (sk_okP 1269 (by decide +kernel) (by decide +kernel)) (sk_okP 102 (by decide +kernel) (by decide +kernel)) (sk_okP 102 (by decide +kernel) (by decide +kernel))
theorem w_L_238 : sk_cV RL 238 mX8_gains = true := sk_al4 (sk_okP 1895 (by decide +kernel) (by decide +kernel)) (sk_okP 1896 (by decide +kernel) (by decide +kernel)) (sk_okP 1897 (by decide +kernel) (by decide +kernel)) (sk_okP 111 (by decide +kernel) (by decide +kernel))
theorem np_X8_gains : sk_np mX8_gains 3 := ⟨by decide +kernel, by decide +kernel, by decide +kernel⟩
theorem w_L_239 : sk_cS RL 239 mL_contract = true := sk_al4 (sk_okP 1275 (by decide +kernel) (by decide +kernel)) (sk_okP 1276 (by decide +kernel) (by decide +kernel)) (sk_okP 102 (by decide +kernel) (by decide +kernel)) (sk_okP 102 (by decide +kernel) (by decide +kernel))
theorem w_L_241 : sk_cV RL 241 mX8_contract = true := sk_al4 (sk_okP 1899 (by decide +kernel) (by decide +kernel)) (sk_okP 1900 (by decide +kernel) (by decide +kernel)) (sk_okP 1901 (by decide +kernel) (by decide +kernel)) (sk_okP 111 (by decide +kernel) (by decide +kernel))
theorem np_X8_contract : sk_np mX8_contract 2 := ⟨by decide +kernel, by decide +kernel, by decide +kernel⟩
theorem w_L_242 : sk_cV RL 242 mX7_broken = true := sk_al4 (sk_okP 499 (by decide +kernel) (by decide +kernel)) (sk_okP 500 (by decide +kernel) (by decide +kernel)) (sk_okP 501 (by decide +kernel) (by decide +kernel)) (sk_okP 103 (by decide +kernel) (by decide +kernel))
theorem np_X7_broken : sk_np mX7_broken 0 := ⟨by decide +kernel, by decide +kernel, by decide +kernel⟩
theorem w_L_245 : sk_cV RL 245 mX8_broken = true := sk_al4 (sk_okP 1915 (by decide +kernel) (by decide +kernel)) (sk_okP 1916 (by decide +kernel) (by decide +kernel)) (sk_okP 1917 (by decide +kernel) (by decide +kernel)) (sk_okP 111 (by decide +kernel) (by decide +kernel))
theorem np_X8_broken : sk_np mX8_broken 0 := ⟨by decide +kernel, by decide +kernel, by decide +kernel⟩
theorem w_L_246 : sk_cV RL 246 mX7_breaks = true := sk_al4 (sk_okP 515 (by decide +kernel) (by decide +kernel)) (sk_okP 516 (by decide +kernel) (by decide +kernel)) (sk_okP 517 (by decide +kernel) (by decide +kernel)) (sk_okP 103 (by decide +kernel) (by decide +kernel))
theorem np_X7_breaks : sk_np mX7_breaks 0 := ⟨by decide +kernel, by decide +kernel, by decide +kernel⟩
theorem w_L_249 : sk_cV RL 249 mX8_breaks = true := sk_al4 (sk_okP 1927 (by decide +kernel) (by decide +kernel)) (sk_okP 1928 (by decide +kernel) (by decide +kernel)) (sk_okP 1929 (by decide +kernel) (by decide +kernel)) (sk_okP 111 (by decide +kernel) (by decide +kernel))
theorem np_X8_breaks : sk_np mX8_breaks 0 := ⟨by decide +kernel, by decide +kernel, by decide +kernel⟩
theorem w_L_250 : sk_cS RL 250 mL_rota = true := sk_al4 (sk_okP 1285 (by decide +kernel) (by decide +kernel)) (sk_okP 1286 (by decide +kernel) (by decide +kernel)) (sk_okP 102 (by decide +kernel) (by decide +kernel)) (sk_okP 102 (by decide +kernel) (by decide +kernel))
theorem w_L_252 : sk_cV RL 252 mX8_rota = true := sk_al4 (sk_okP 1726 (by decide +kernel) (by decide +kernel)) (sk_okP 1727 (by decide +kernel) (by decide +kernel)) (sk_okP 1728 (by decide +kernel) (by decide +kernel)) (sk_okP 111 (by decide +kernel) (by decide +kernel))
theorem np_X8_rota : sk_np mX8_rota 2 := ⟨by decide +kernel, by decide +kernel, by decide +kernel⟩
theorem w_L_253 : sk_cS RL 253 mL_richest = true := sk_al4 (sk_okP 1293 (by decide +kernel) (by decide +kernel)) (sk_okP 1294 (by decide +kernel) (by decide +kernel)) (sk_okP 102 (by decide +kernel) (by decide +kernel)) (sk_okP 102 (by decide +kernel) (by decide +kernel))
theorem w_L_255 : sk_cV RL 255 mX8_richest = true := sk_al4 (sk_okP 1935 (by decide +kernel) (by decide +kernel)) (sk_okP 1936 (by decide +kernel) (by decide +kernel)) (sk_okP 1937 (by decide +kernel) (by decide +kernel)) (sk_okP 111 (by decide +kernel) (by decide +kernel))
theorem np_X8_richest : sk_np mX8_richest 2 := ⟨by decide +kernel, by decide +kernel, by decide +kernel⟩
theorem w_L_256 : sk_cS RL 256 mL_first = true := sk_al4 (sk_okP 1305 (by decide +kernel) (by decide +kernel)) (sk_okP 1306 (by decide +kernel) (by decide +kernel)) (sk_okP 102 (by decide +kernel) (by decide +kernel)) (sk_okP 102 (by decide +kernel) (by decide +kernel))
theorem w_L_258 : sk_cV RL 258 mX8_first = true := sk_al4 (sk_okP 1943 (by decide +kernel) (by decide +kernel)) (sk_okP 1944 (by decide +kernel) (by decide +kernel)) (sk_okP 1945 (by decide +kernel) (by decide +kernel)) (sk_okP 111 (by decide +kernel) (by decide +kernel))
theorem np_X8_first : sk_np mX8_first 1 := ⟨by decide +kernel, by decide +kernel, by decide +kernel⟩
theorem w_L_259 : sk_cS RL 259 mL_turned = true := sk_al4 (sk_okP 1313 (by decide +kernel) (by decide +kernel)) (sk_okP 1314 (by decide +kernel) (by decide +kernel)) (sk_okP 102 (by decide +kernel) (by decide +kernel)) (sk_okP 102 (by decide +kernel) (by decide +kernel))
theorem w_L_261 : sk_cV RL 261 mX8_turned = true := sk_al4 (sk_okP 1947 (by decide +kernel) (by decide +kernel)) (sk_okP 1948 (by decide +kernel) (by decide +kernel)) (sk_okP 1949 (by decide +kernel) (by decide +kernel)) (sk_okP 111 (by decide +kernel) (by decide +kernel))
theorem np_X8_turned : sk_np mX8_turned 2 := ⟨by decide +kernel, by decide +kernel, by decide +kernel⟩
theorem w_L_262 : sk_cS RL 262 mL_price = true := sk_al4 (sk_okP 1320 (by decide +kernel) (by decide +kernel)) (sk_okP 1321 (by decide +kernel) (by decide +kernel)) (sk_okP 102 (by decide +kernel) (by decide +kernel)) (sk_okP 102 (by decide +kernel) (by decide +kernel))
theorem w_L_264 : sk_cV RL 264 mX8_price = true := sk_al4 (sk_okP 1951 (by decide +kernel) (by decide +kernel)) (sk_okP 1952 (by decide +kernel) (by decide +kernel)) (sk_okP 1953 (by decide +kernel) (by decide +kernel)) (sk_okP 111 (by decide +kernel) (by decide +kernel))
theorem np_X8_price : sk_np mX8_price 1 := ⟨by decide +kernel, by decide +kernel, by decide +kernel⟩
theorem w_L_265 : sk_cV RL 265 mX7_risky = true := sk_al4 (sk_okP 536 (by decide +kernel) (by decide +kernel)) (sk_okP 537 (by decide +kernel) (by decide +kernel)) (sk_okP 538 (by decide +kernel) (by decide +kernel)) (sk_okP 103 (by decide +kernel) (by decide +kernel))
theorem np_X7_risky : sk_np mX7_risky 0 := ⟨by decide +kernel, by decide +kernel, by decide +kernel⟩
theorem w_L_268 : sk_cV RL 268 mX8_risky = true := sk_al4 (sk_okP 1955 (by decide +kernel) (by decide +kernel)) (sk_okP 1956 (by decide +kernel) (by decide +kernel)) (sk_okP 1957 (by decide +kernel) (by decide +kernel)) (sk_okP 111 (by decide +kernel) (by decide +kernel))
theorem np_X8_risky : sk_np mX8_risky 0 := ⟨by decide +kernel, by decide +kernel, by decide +kernel⟩
theorem w_L_269 : sk_cS RL 269 mL_when = true := sk_al4 (sk_okP 1327 (by decide +kernel) (by decide +kernel)) (sk_okP 1328 (by decide +kernel) (by decide +kernel)) (sk_okP 102 (by decide +kernel) (by decide +kernel)) (sk_okP 102 (by decide +kernel) (by decide +kernel))
theorem w_L_271 : sk_cV RL 271 mX8_when = true := sk_al4 (sk_okP 1959 (by decide +kernel) (by decide +kernel)) (sk_okP 1960 (by decide +kernel) (by decide +kernel)) (sk_okP 1961 (by decide +kernel) (by decide +kernel)) (sk_okP 111 (by decide +kernel) (by decide +kernel))
theorem np_X8_when : sk_np mX8_when 2 := ⟨by decide +kernel, by decide +kernel, by decide +kernel⟩
theorem w_L_272 : sk_cS RL 272 mL_trial = true := sk_al4 (sk_okP 1334 (by decide +kernel) (by decide +kernel)) (sk_okP 1335 (by decide +kernel) (by decide +kernel)) (sk_okP 102 (by decide +kernel) (by decide +kernel)) (sk_okP 102 (by decide +kernel) (by decide +kernel))
theorem w_L_274 : sk_cV RL 274 mX8_trial = true := sk_al4 (sk_okP 1971 (by decide +kernel) (by decide +kernel)) (sk_okP 1972 (by decide +kernel) (by decide +kernel)) (sk_okP 1973 (by decide +kernel) (by decide +kernel)) (sk_okP 111 (by decide +kernel) (by decide +kernel))
theorem np_X8_trial : sk_np mX8_trial 2 := ⟨by decide +kernel, by decide +kernel, by decide +kernel⟩
theorem w_L_275 : sk_cS RL 275 mL_span = true := sk_al4 (sk_okP 1353 (by decide +kernel) (by decide +kernel)) (sk_okP 1354 (by decide +kernel) (by decide +kernel)) (sk_okP 102 (by decide +kernel) (by decide +kernel)) (sk_okP 102 (by decide +kernel) (by decide +kernel))
theorem w_L_277 : sk_cV RL 277 mX8_span = true := sk_al4 (sk_okP 1983 (by decide +kernel) (by decide +kernel)) (sk_okP 1984 (by decide +kernel) (by decide +kernel)) (sk_okP 1985 (by decide +kernel) (by decide +kernel)) (sk_okP 111 (by decide +kernel) (by decide +kernel))
theorem np_X8_span : sk_np mX8_span 2 := ⟨by decide +kernel, by decide +kernel, by decide +kernel⟩
theorem w_L_278 : sk_cS RL 278 mL_log = true := sk_al4 (sk_okP 1360 (by decide +kernel) (by decide +kernel)) (sk_okP 1361 (by decide +kernel) (by decide +kernel)) (sk_okP 102 (by decide +kernel) (by decide +kernel)) (sk_okP 102 (by decide +kernel) (by decide +kernel))
theorem w_L_280 : sk_cV RL 280 mX8_log = true := sk_al4 (sk_okP 1987 (by decide +kernel) (by decide +kernel)) (sk_okP 1988 (by decide +kernel) (by decide +kernel)) (sk_okP 1989 (by decide +kernel) (by decide +kernel)) (sk_okP 111 (by decide +kernel) (by decide +kernel))
theorem np_X8_log : sk_np mX8_log 2 := ⟨by decide +kernel, by decide +kernel, by decide +kernel⟩
theorem w_L_281 : sk_cV RL 281 mX7_seed = true := sk_al4 (sk_okP 553 (by decide +kernel) (by decide +kernel)) (sk_okP 554 (by decide +kernel) (by decide +kernel)) (sk_okP 555 (by decide +kernel) (by decide +kernel)) (sk_okP 103 (by decide +kernel) (by decide +kernel))
theorem np_X7_seed : sk_np mX7_seed 1 := ⟨by decide +kernel, by decide +kernel, by decide +kernel⟩
theorem w_L_284 : sk_cV RL 284 mX8_seed = true := sk_al4 (sk_okP 1991 (by decide +kernel) (by decide +kernel)) (sk_okP 1992 (by decide +kernel) (by decide +kernel)) (sk_okP 1993 (by decide +kernel) (by decide +kernel)) (sk_okP 111 (by decide +kernel) (by decide +kernel))
theorem np_X8_seed : sk_np mX8_seed 1 := ⟨by decide +kernel, by decide +kernel, by decide +kernel⟩
theorem w_L_285 : sk_cV RL 285 mX7_undo = true := sk_al4 (sk_okP 557 (by decide +kernel) (by decide +kernel)) (sk_okP 558 (by decide +kernel) (by decide +kernel)) (sk_okP 559 (by decide +kernel) (by decide +kernel)) (sk_okP 103 (by decide +kernel) (by decide +kernel))
theorem np_X7_undo : sk_np mX7_undo 0 := ⟨by decide +kernel, by decide +kernel, by decide +kernel⟩
theorem w_L_289 : sk_cV RL 289 mX8_undo = true := sk_al4 (sk_okP 1471 (by decide +kernel) (by decide +kernel)) (sk_okP 1472 (by decide +kernel) (by decide +kernel)) (sk_okP 1473 (by decide +kernel) (by decide +kernel)) (sk_okP 111 (by decide +kernel) (by decide +kernel))
theorem np_X8_undo : sk_np mX8_undo 0 := ⟨by decide +kernel, by decide +kernel, by decide +kernel⟩
theorem w_L_290 : sk_cV RL 290 mX7_image = true := sk_al4 (sk_okP 572 (by decide +kernel) (by decide +kernel)) (sk_okP 573 (by decide +kernel) (by decide +kernel)) (sk_okP 574 (by decide +kernel) (by decide +kernel)) (sk_okP 103 (by decide +kernel) (by decide +kernel))
theorem np_X7_image : sk_np mX7_image 0 := ⟨by decide +kernel, by decide +kernel, by decide +kernel⟩
theorem w_L_293 : sk_cV RL 293 mX8_image = true := sk_al4 (sk_okP 1460 (by decide +kernel) (by decide +kernel)) (sk_okP 1461 (by decide +kernel) (by decide +kernel)) (sk_okP 1462 (by decide +kernel) (by decide +kernel)) (sk_okP 111 (by decide +kernel) (by decide +kernel))
theorem np_X8_image : sk_np mX8_image 0 := ⟨by decide +kernel, by decide +kernel, by decide +kernel⟩
theorem w_L_294 : sk_cV RL 294 mX7_back = true := sk_al4 (sk_okP 577 (by decide +kernel) (by decide +kernel)) (sk_okP 578 (by decide +kernel) (by decide +kernel)) (sk_okP 579 (by decide +kernel) (by decide +kernel)) (sk_okP 103 (by decide +kernel) (by decide +kernel))
theorem np_X7_back : sk_np mX7_back 0 := ⟨by decide +kernel, by decide +kernel, by decide +kernel⟩
theorem w_L_297 : sk_cV RL 297 mX8_back = true := sk_al4 (sk_okP 1467 (by decide +kernel) (by decide +kernel)) (sk_okP 1468 (by decide +kernel) (by decide +kernel)) (sk_okP 1469 (by decide +kernel) (by decide +kernel)) (sk_okP 111 (by decide +kernel) (by decide +kernel))
theorem np_X8_back : sk_np mX8_back 0 := ⟨by decide +kernel, by decide +kernel, by decide +kernel⟩
theorem w_L_298 : sk_cV RL 298 mX7_count = true := sk_al4 (sk_okP 585 (by decide +kernel) (by decide +kernel)) (sk_okP 586 (by decide +kernel) (by decide +kernel)) (sk_okP 587 (by decide +kernel) (by decide +kernel)) (sk_okP 103 (by decide +kernel) (by decide +kernel))
theorem np_X7_count : sk_np mX7_count 1 := ⟨by decide +kernel, by decide +kernel, by decide +kernel⟩
theorem w_L_301 : sk_cV RL 301 mX8_count = true := sk_al4 (sk_okP 1995 (by decide +kernel) (by decide +kernel)) (sk_okP 1996 (by decide +kernel) (by decide +kernel)) (sk_okP 1997 (by decide +kernel) (by decide +kernel)) (sk_okP 111 (by decide +kernel) (by decide +kernel))
theorem np_X8_count : sk_np mX8_count 1 := ⟨by decide +kernel, by decide +kernel, by decide +kernel⟩
