def f_J6_numberOfTrailingZeros_0f7a4 (a0 : Int32) : Int32 :=
 sLeT ((a0 ^^^ (-1 : Int32)) &&& (a0 - (1 : Int32))) fun y7 =>
 if (¬ (0 < y7)) then (
 (y7 &&& (32 : Int32)))
 else (
 sLeT (if (¬ (y7 ≤ (65536 : Int32))) then ((us32 y7 (16 : Int32)), ((1 : Int32) + (16 : Int32))) else (y7, (1 : Int32)) : Int32 × Int32) fun s34_23 =>
 sLeT (if (¬ (s34_23.1 ≤ (256 : Int32))) then ((us32 s34_23.1 (8 : Int32)), (s34_23.2 + (8 : Int32))) else (s34_23.1, s34_23.2) : Int32 × Int32) fun s49_38 =>
 sLeT (if (¬ (s49_38.1 ≤ (16 : Int32))) then ((us32 s49_38.1 (4 : Int32)), (s49_38.2 + (4 : Int32))) else (s49_38.1, s49_38.2) : Int32 × Int32) fun s62_52 =>
 if (¬ (s62_52.1 ≤ (4 : Int32))) then (
 sLeT (us32 s62_52.1 (2 : Int32)) fun y73 =>
 ((s62_52.2 + (2 : Int32)) + (us32 y73 (1 : Int32))))
 else (
 (s62_52.2 + (us32 s62_52.1 (1 : Int32)))))
def f_X8_thrown  (M : sk_M) : Int32 :=
 (M.1 140 0)
def w_X8_throwsIf (a1 : Int32) (a2 : Int32) (M : sk_M) (Q : Int32 → sk_M → Prop) : Prop :=
 if (¬ (a1 = 0)) then (
 sLet (sk_si M 140 0 a2) fun M6 =>
 (a1 = 0 ∨ a1 = 1) ∧ Q a1 M6)
 else (
 (a1 = 0 ∨ a1 = 1) ∧ Q a1 M)
def f_X8_in (a0 : Int32) (a1 : Int32) (a2 : Int32) : Int32 :=
 if (¬ (a0 < a1) ∧ (¬ (a2 < a0))) then (
 (1 : Int32))
 else (
 (0 : Int32))
def f_X8_has (a0 : Int32) (a1 : Int32) : Int32 :=
 if (((a0 >>> (a1 &&& 31)) &&& (1 : Int32)) = (1 : Int32)) then (
 (1 : Int32))
 else (
 (0 : Int32))
def w_X8_copies_L2 (c0 : Nat) (c1 : Nat) (Q : sk_M → Prop) (c : (Int32 × sk_M) → Prop) (s2 : Int32 × sk_M) : Prop :=
 if (¬ ((144 : Int32) ≤ s2.1)) then (
 vp_in s2.1 144 ∧
 vp_in s2.1 144 ∧ sLet (sk_sl s2.2 c1 s2.1.toNatClampNeg (s2.2.2 c0 s2.1.toNatClampNeg)) fun M14 =>
 c ((s2.1 + (1 : Int32)), M14))
 else (
 Q s2.2)
def w_X8_copies (c0 : Nat) (c1 : Nat) (M : sk_M) (Q : sk_M → Prop) : Prop :=
 lp (w_X8_copies_L2 c0 c1 Q) sk_F ((0 : Int32), M)
def w_X8_image_L7  (k32 : sk_M → Prop) (c : (Int32 × sk_M) → Prop) (s7 : Int32 × sk_M) : Prop :=
 if (¬ ((1411 : Int32) ≤ s7.1)) then (
 vp_in s7.1 2260 ∧
 vp_in s7.1 1411 ∧ sLet (sk_si s7.2 142 s7.1.toNatClampNeg (s7.2.1 141 s7.1.toNatClampNeg)) fun M25 =>
 c ((s7.1 + (1 : Int32)), M25))
 else (
 k32 s7.2)
def w_X8_image  (M : sk_M) (Q : sk_M → Prop) : Prop :=
 sLet (sk_si M 140 0 (0 : Int32)) fun M2 =>
 lp (w_X8_image_L7  (fun s32 : sk_M =>
 w_X8_copies 146 147 s32 (fun M40 =>
 sLet (sk_si M40 140 11 (1 : Int32)) fun M45 =>
 Q M45))) sk_F ((0 : Int32), M2)
def w_X8_back_L16  (k41 : sk_M → Prop) (c : (Int32 × sk_M) → Prop) (s16 : Int32 × sk_M) : Prop :=
 if (¬ ((1411 : Int32) ≤ s16.1)) then (
 vp_in s16.1 1411 ∧
 vp_in s16.1 2260 ∧ sLet (sk_si s16.2 141 s16.1.toNatClampNeg (s16.2.1 142 s16.1.toNatClampNeg)) fun M34 =>
 c ((s16.1 + (1 : Int32)), M34))
 else (
 k41 s16.2)
def w_X8_back  (M : sk_M) (Q : Int32 → sk_M → Prop) : Prop :=
 sLet (sk_si M 140 0 (0 : Int32)) fun M2 =>
 if ((M2.1 140 11) = 0) then (
 Q (0 : Int32) M2)
 else (
 lp (w_X8_back_L16  (fun s41 : sk_M =>
 w_X8_copies 147 146 s41 (fun M49 =>
 sLet (sk_si M49 140 12 (0 : Int32)) fun M54 =>
 Q (1 : Int32) M54))) sk_F ((0 : Int32), M2))
def w_X8_remembers_L86  (k122 : sk_M → Prop) (c : (Int32 × sk_M) → Prop) (s86 : Int32 × sk_M) : Prop :=
 if (¬ ((562 : Int32) ≤ s86.1)) then (
 vp_in s86.1 2260 ∧
 vp_in (((562 : Int32) * ((s86.2.1 140 12) - (1 : Int32))) + s86.1) 5620 ∧ sLet (sk_si s86.2 145 (((562 : Int32) * ((s86.2.1 140 12) - (1 : Int32))) + s86.1).toNatClampNeg (s86.2.1 141 s86.1.toNatClampNeg)) fun M115 =>
 c ((s86.1 + (1 : Int32)), M115))
 else (
 k122 s86.2)
def w_X8_remembers_L124  (Q : sk_M → Prop) (c : (Int32 × sk_M) → Prop) (s124 : Int32 × sk_M) : Prop :=
 if (¬ ((144 : Int32) ≤ s124.1)) then (
 vp_in s124.1 144 ∧
 vp_in (((144 : Int32) * ((s124.2.1 140 12) - (1 : Int32))) + s124.1) 1440 ∧ sLet (sk_sl s124.2 150 (((144 : Int32) * ((s124.2.1 140 12) - (1 : Int32))) + s124.1).toNatClampNeg (s124.2.2 146 s124.1.toNatClampNeg)) fun M153 =>
 c ((s124.1 + (1 : Int32)), M153))
 else (
 Q s124.2)
def w_X8_remembers_L11  (k40 : sk_M → Prop) (c : (Int32 × sk_M) → Prop) (s11 : Int32 × sk_M) : Prop :=
 if (¬ ((5058 : Int32) ≤ s11.1)) then (
 vp_in (s11.1 + (562 : Int32)) 5620 ∧
 vp_in s11.1 5620 ∧ sLet (sk_si s11.2 145 s11.1.toNatClampNeg (s11.2.1 145 (s11.1 + (562 : Int32)).toNatClampNeg)) fun M33 =>
 c ((s11.1 + (1 : Int32)), M33))
 else (
 k40 s11.2)
def w_X8_remembers_L42  (k71 : sk_M → Prop) (c : (Int32 × sk_M) → Prop) (s42 : Int32 × sk_M) : Prop :=
 if (¬ ((1296 : Int32) ≤ s42.1)) then (
 vp_in (s42.1 + (144 : Int32)) 1440 ∧
 vp_in s42.1 1440 ∧ sLet (sk_sl s42.2 150 s42.1.toNatClampNeg (s42.2.2 150 (s42.1 + (144 : Int32)).toNatClampNeg)) fun M64 =>
 c ((s42.1 + (1 : Int32)), M64))
 else (
 k71 s42.2)
def w_X8_remembers  (M : sk_M) (Q : sk_M → Prop) : Prop :=
 sLet (fun s84_6 : sk_M =>
 lp (w_X8_remembers_L86  (fun s122 : sk_M =>
 lp (w_X8_remembers_L124 Q) sk_F ((0 : Int32), s122))) sk_F ((0 : Int32), s84_6)) fun j84_6 =>
 if ((M.1 140 12) = (10 : Int32)) then (
 lp (w_X8_remembers_L11  (fun s40 : sk_M =>
 lp (w_X8_remembers_L42  (fun s71 : sk_M =>
 j84_6 s71)) sk_F ((0 : Int32), s40))) sk_F ((0 : Int32), M))
 else (
 sLet (sk_si M 140 12 ((M.1 140 12) + (1 : Int32))) fun M81 =>
 j84_6 M81)
def w_X8_undo_L26  (k60 : sk_M → Prop) (c : (Int32 × sk_M) → Prop) (s26 : Int32 × sk_M) : Prop :=
 if (¬ ((562 : Int32) ≤ s26.1)) then (
 vp_in (((562 : Int32) * (s26.2.1 140 12)) + s26.1) 5620 ∧
 vp_in s26.1 2260 ∧ sLet (sk_si s26.2 141 s26.1.toNatClampNeg (s26.2.1 145 (((562 : Int32) * (s26.2.1 140 12)) + s26.1).toNatClampNeg)) fun M53 =>
 c ((s26.1 + (1 : Int32)), M53))
 else (
 k60 s26.2)
def w_X8_undo_L62  (Q : Int32 → sk_M → Prop) (c : (Int32 × sk_M) → Prop) (s62 : Int32 × sk_M) : Prop :=
 if (¬ ((144 : Int32) ≤ s62.1)) then (
 vp_in (((144 : Int32) * (s62.2.1 140 12)) + s62.1) 1440 ∧
 vp_in s62.1 144 ∧ sLet (sk_sl s62.2 146 s62.1.toNatClampNeg (s62.2.2 150 (((144 : Int32) * (s62.2.1 140 12)) + s62.1).toNatClampNeg)) fun M89 =>
 c ((s62.1 + (1 : Int32)), M89))
 else (
 Q (1 : Int32) s62.2)
def w_X8_undo  (M : sk_M) (Q : Int32 → sk_M → Prop) : Prop :=
 sLet (sk_si M 140 0 (0 : Int32)) fun M2 =>
 if ((M2.1 140 12) = 0) then (
 Q (0 : Int32) M2)
 else (
 sLet (sk_si M2 140 12 ((M2.1 140 12) - (1 : Int32))) fun M21 =>
 lp (w_X8_undo_L26  (fun s60 : sk_M =>
 lp (w_X8_undo_L62 Q) sk_F ((0 : Int32), s60))) sk_F ((0 : Int32), M21))
def f_X8_vaults  (M : sk_M) : Int32 :=
 (M.1 141 0)
def f_X8_people  (M : sk_M) : Int32 :=
 (M.1 141 1)
def f_X8_contracts  (M : sk_M) : Int32 :=
 (M.1 141 2)
def w_X8_of (a1 : Int32) (a2 : Int32) (M : sk_M) (Q : Int32 → Prop) : Prop :=
 vp_in (((10 : Int32) + ((4 : Int32) * a1)) + a2) 2260 ∧
 Q (M.1 141 (((10 : Int32) + ((4 : Int32) * a1)) + a2).toNatClampNeg)
def w_X8_sets (a1 : Int32) (a2 : Int32) (a3 : Int32) (M : sk_M) (Q : sk_M → Prop) : Prop :=
 vp_in (((10 : Int32) + ((4 : Int32) * a1)) + a2) 2260 ∧ sLet (sk_si M 141 (((10 : Int32) + ((4 : Int32) * a1)) + a2).toNatClampNeg a3) fun M13 =>
 Q M13
def w_X8_ofContract (a1 : Int32) (a2 : Int32) (M : sk_M) (Q : Int32 → Prop) : Prop :=
 vp_in (((34 : Int32) + ((4 : Int32) * a1)) + a2) 2260 ∧
 Q (M.1 141 (((34 : Int32) + ((4 : Int32) * a1)) + a2).toNatClampNeg)
def f_X8_noVault (a1 : Int32) (M : sk_M) : Int32 :=
 if ((f_X8_in a1 (0 : Int32) ((f_X8_vaults M) - (1 : Int32))) = 0) then (
 (1 : Int32))
 else (
 (0 : Int32))
def f_X8_noPerson (a1 : Int32) (M : sk_M) : Int32 :=
 if ((f_X8_in a1 (0 : Int32) ((f_X8_people M) - (1 : Int32))) = 0) then (
 (1 : Int32))
 else (
 (0 : Int32))
def f_X8_noCode (a0 : Int32) : Int32 :=
 if ((f_X8_in a0 (0 : Int32) (215 : Int32)) = 0) then (
 (1 : Int32))
 else (
 (0 : Int32))
def w_X8_draw (a1 : Int32) (M : sk_M) (Q : Int32 → sk_M → Prop) : Prop :=
 sLet (sk_si M 141 9 (((1103515245 : Int32) * (M.1 141 9)) + (12345 : Int32))) fun M20 =>
 ¬ a1 = 0 ∧ Q (rmI (((M20.1 141 9) >>> ((16 : Int32) &&& 31)) &&& (32767 : Int32)) a1) M20
def f_X8_at (a0 : Int32) (a1 : Int32) : Int32 :=
 ((4 : Int32) * (((6 : Int32) * a0) + a1))
def w_X8_canBe (a1 : Int32) (a2 : Int32) (a3 : Int32) (M : sk_M) (Q : Int32 → Prop) : Prop :=
 vp_in ((f_X8_at a1 a2) + (a3 / (64 : Int32))) 144 ∧
 if ((lg_cmp (((M.2 146 ((f_X8_at a1 a2) + (a3 / (64 : Int32))).toNatClampNeg) >>> ((rmI a3 (64 : Int32)).toInt64 &&& 63)) &&& (1 : Int64)) (1 : Int64)) = 0) then (
 Q (1 : Int32))
 else (
 Q (0 : Int32))
def w_X8_isNot (a1 : Int32) (a2 : Int32) (a3 : Int32) (M : sk_M) (Q : sk_M → Prop) : Prop :=
 vp_in ((f_X8_at a1 a2) + (a3 / (64 : Int32))) 144 ∧
 vp_in ((f_X8_at a1 a2) + (a3 / (64 : Int32))) 144 ∧ sLet (sk_sl M 146 ((f_X8_at a1 a2) + (a3 / (64 : Int32))).toNatClampNeg ((M.2 146 ((f_X8_at a1 a2) + (a3 / (64 : Int32))).toNatClampNeg) &&& (((1 : Int64) <<< ((rmI a3 (64 : Int32)).toInt64 &&& 63)) ^^^ (-1 : Int64)))) fun M27 =>
 Q M27
def w_X8_forgets_L2 (a1 : Int32) (a2 : Int32) (Q : sk_M → Prop) (c : (Int32 × sk_M) → Prop) (s2 : Int32 × sk_M) : Prop :=
 if (¬ ((4 : Int32) ≤ s2.1)) then (
 if (¬ ((3 : Int32) ≤ s2.1)) then (
 vp_in ((f_X8_at a1 a2) + s2.1) 144 ∧ sLet (sk_sl s2.2 146 ((f_X8_at a1 a2) + s2.1).toNatClampNeg (-1 : Int64)) fun M32 =>
 c ((s2.1 + (1 : Int32)), M32))
 else (
 vp_in ((f_X8_at a1 a2) + s2.1) 144 ∧ sLet (sk_sl s2.2 146 ((f_X8_at a1 a2) + s2.1).toNatClampNeg (16777215 : Int64)) fun M32 =>
 c ((s2.1 + (1 : Int32)), M32)))
 else (
 Q s2.2)
def w_X8_forgets (a1 : Int32) (a2 : Int32) (M : sk_M) (Q : sk_M → Prop) : Prop :=
 lp (w_X8_forgets_L2 a1 a2 Q) sk_F ((0 : Int32), M)
def w_X8_allForget_L2 (a1 : Int32) (Q : sk_M → Prop) (c : (Int32 × sk_M) → Prop) (s2 : Int32 × sk_M) : Prop :=
 if (¬ ((6 : Int32) ≤ s2.1)) then (
 w_X8_forgets s2.1 a1 s2.2 (fun M11 =>
 c ((s2.1 + (1 : Int32)), M11)))
 else (
 Q s2.2)
def w_X8_allForget (a1 : Int32) (M : sk_M) (Q : sk_M → Prop) : Prop :=
 lp (w_X8_allForget_L2 a1 Q) sk_F ((0 : Int32), M)
def w_X8_leftOf_L5 (a1 : Int32) (a2 : Int32) (M : sk_M) (Q : Int32 → Prop) (c : (Int32 × Int32) → Prop) (s5 : Int32 × Int32) : Prop :=
 if (¬ ((4 : Int32) ≤ s5.2)) then (
 vp_in ((f_X8_at a1 a2) + s5.2) 144 ∧
 sLet (s5.1 + (bc64 (M.2 146 ((f_X8_at a1 a2) + s5.2).toNatClampNeg))) fun y29 =>
 c (y29, (s5.2 + (1 : Int32))))
 else (
 Q s5.1)
def w_X8_leftOf (a1 : Int32) (a2 : Int32) (M : sk_M) (Q : Int32 → Prop) : Prop :=
 lp (w_X8_leftOf_L5 a1 a2 M Q) sk_F ((0 : Int32), (0 : Int32))
def f_X8_figureOf (a0 : Int32) (a1 : Int32) : Int32 :=
 if (a1 = 0) then (
 (a0 / (36 : Int32)))
 else (
 if (a1 = (1 : Int32)) then (
 (rmI (a0 / (6 : Int32)) (6 : Int32)))
 else (
 (rmI a0 (6 : Int32))))
def w_X8_feed_L60  (k106 : sk_M → Prop) (c : (Int32 × sk_M) → Prop) (s60 : Int32 × sk_M) : Prop :=
 if (¬ ((20 : Int32) ≤ s60.1)) then (
 vp_in (s60.1 / (4 : Int32)) 5 ∧
 vp_in ((s60.2.1 140 14) + s60.1) 400 ∧ sLet (sk_si s60.2 151 ((s60.2.1 140 14) + s60.1).toNatClampNeg (vp_nar .byte (((s60.2.1 152 (s60.1 / (4 : Int32)).toNatClampNeg) >>> (((24 : Int32) - ((8 : Int32) * (rmI s60.1 (4 : Int32)))) &&& 31))).toInt8.toInt32)) fun M99 =>
 c ((s60.1 + (1 : Int32)), M99))
 else (
 k106 s60.2)
def w_X8_feed (a1 : Int32) (a2 : Int32) (a3 : Int32) (a4 : Int32) (a5 : Int32) (M : sk_M) (Q : Int32 → sk_M → Prop) : Prop :=
 sLet (sk_si M 140 0 (0 : Int32)) fun M2 =>
 if (¬ (((M2.1 140 14) + (20 : Int32)) ≤ (400 : Int32))) then (
 Q (-1 : Int32) M2)
 else (
 sLet (sk_si M2 152 0 a1) fun M26 =>
 sLet (sk_si M26 152 1 a2) fun M33 =>
 sLet (sk_si M33 152 2 a3) fun M40 =>
 sLet (sk_si M40 152 3 a4) fun M48 =>
 sLet (sk_si M48 152 4 a5) fun M56 =>
 lp (w_X8_feed_L60  (fun s106 : sk_M =>
 sLet (sk_si s106 140 14 ((s106.1 140 14) + (20 : Int32))) fun M114 =>
 Q (M114.1 140 14) M114)) sk_F ((0 : Int32), M56))
def w_X8_end (a1 : Int32) (M : sk_M) (Q : Int32 → sk_M → Prop) : Prop :=
 sLet (sk_si M 140 0 (0 : Int32)) fun M2 =>
 if ((a1 < 0) ∨ (¬ (a1 ≤ (M2.1 140 14)))) then (
 Q (0 : Int32) M2)
 else (
 sLet (sk_si M2 140 14 a1) fun M21 =>
 Q (1 : Int32) M21)
def w_X8_isAt (a1 : Int32) (a2 : Int32) (M : sk_M) (Q : Int32 → Prop) : Prop :=
 if (¬ ((M.1 140 16) ≤ (M.1 140 15))) then (
 vp_in (M.1 140 15) 400 ∧
 if (¬ ((M.1 151 (M.1 140 15).toNatClampNeg) < a1)) then (
 vp_in (M.1 140 15) 400 ∧
 if (¬ (a2 < (M.1 151 (M.1 140 15).toNatClampNeg))) then (
 Q (1 : Int32))
 else (
 Q (0 : Int32)))
 else (
 Q (0 : Int32)))
 else (
 Q (0 : Int32))
def w_X8_blanks_L0  (Q : sk_M → Prop) (c : sk_M → Prop) (s0 : sk_M) : Prop :=
 w_X8_isAt (32 : Int32) (32 : Int32) s0 (fun r5 =>
 if (¬ (r5 = 0)) then (
 sLet (sk_si s0 140 15 ((s0.1 140 15) + (1 : Int32))) fun M18 =>
 c M18)
 else (
 sLet (sk_si s0 140 17 (s0.1 140 15)) fun M29 =>
 Q M29))
def w_X8_blanks  (M : sk_M) (Q : sk_M → Prop) : Prop :=
 lp (w_X8_blanks_L0 Q) sk_F M
def w_X8_letters_L4  (Q : sk_M → Prop) (c : sk_M → Prop) (s4 : sk_M) : Prop :=
 w_X8_isAt (97 : Int32) (122 : Int32) s4 (fun r9 =>
 if (¬ (r9 = 0)) then (
 sLet (sk_si s4 140 15 ((s4.1 140 15) + (1 : Int32))) fun M22 =>
 c M22)
 else (
 Q s4))
def w_X8_letters  (M : sk_M) (Q : sk_M → Prop) : Prop :=
 w_X8_blanks M (fun M1 =>
 lp (w_X8_letters_L4 Q) sk_F M1)
def w_X8_isWord_L24 (j1 : Nat) (M : sk_M) (Q : Int32 → Prop) (c : (Int32 × Int32) → Prop) (s24 : Int32 × Int32) : Prop :=
 if (¬ (s24.1 = 0) ∧ (¬ ((nI (wdL j1)) ≤ s24.2))) then (
 vp_in ((M.1 140 17) + s24.2) 400 ∧
 vp_in s24.2 (wdL j1) ∧
 if ((M.1 151 ((M.1 140 17) + s24.2).toNatClampNeg) = (nI (wdN j1 s24.2.toNatClampNeg))) then (
 c ((1 : Int32), (s24.2 + (1 : Int32))))
 else (
 c ((0 : Int32), (s24.2 + (1 : Int32)))))
 else (
 (s24.1 = 0 ∨ s24.1 = 1) ∧ Q s24.1)
def w_X8_isWord (j1 : Nat) (M : sk_M) (Q : Int32 → Prop) : Prop :=
 sLet (if (((M.1 140 15) - (M.1 140 17)) = (nI (wdL j1))) then (1 : Int32) else (0 : Int32) : Int32) fun s21_13 =>
 lp (w_X8_isWord_L24 j1 M Q) sk_F (s21_13, (0 : Int32))
def w_X8_passes (j1 : Nat) (M : sk_M) (Q : Int32 → sk_M → Prop) : Prop :=
 w_X8_letters M (fun M1 =>
 w_X8_isWord j1 M1 (fun r6 =>
 if (¬ (r6 = 0)) then (
 Q (1 : Int32) M1)
 else (
 sLet (sk_si M1 140 15 (M1.1 140 17)) fun M19 =>
 Q (0 : Int32) M19)))
def w_X8_sign (a1 : Int32) (M : sk_M) (Q : Int32 → sk_M → Prop) : Prop :=
 w_X8_blanks M (fun M1 =>
 w_X8_isAt a1 a1 M1 (fun r7 =>
 if (r7 = 0) then (
 Q (0 : Int32) M1)
 else (
 sLet (sk_si M1 140 15 ((M1.1 140 15) + (1 : Int32))) fun M22 =>
 Q (1 : Int32) M22)))
def w_X8_number_L6  (k65 : (Int32 × sk_M) → Prop) (c : (Int32 × sk_M) → Prop) (s6 : Int32 × sk_M) : Prop :=
 w_X8_isAt (48 : Int32) (57 : Int32) s6.2 (fun r11 =>
 if (¬ (r11 = 0)) then (
 if (¬ ((3 : Int32) ≤ ((s6.2.1 140 15) - (s6.2.1 140 17)))) then (
 vp_in (s6.2.1 140 15) 400 ∧
 sLet ((((10 : Int32) * s6.1) + (s6.2.1 151 (s6.2.1 140 15).toNatClampNeg)) - (48 : Int32)) fun y51 =>
 sLet (sk_si s6.2 140 15 ((s6.2.1 140 15) + (1 : Int32))) fun M59 =>
 c (y51, M59))
 else (
 sLet (sk_si s6.2 140 15 ((s6.2.1 140 15) + (1 : Int32))) fun M59 =>
 c (s6.1, M59)))
 else (
 k65 (s6.1, s6.2)))
def w_X8_number (a1 : Int32) (a2 : Int32) (M : sk_M) (Q : Int32 → sk_M → Prop) : Prop :=
 w_X8_blanks M (fun M1 =>
 lp (w_X8_number_L6  (fun s65 : Int32 × sk_M =>
 if (((s65.2.1 140 15) = (s65.2.1 140 17)) ∨ (((3 : Int32) < ((s65.2.1 140 15) - (s65.2.1 140 17))) ∨ ((s65.1 < a1) ∨ (¬ (s65.1 ≤ a2))))) then (
 Q (-1 : Int32) s65.2)
 else (
 Q s65.1 s65.2))) sk_F ((0 : Int32), M1))
def w_X8_after (j1 : Nat) (a2 : Int32) (a3 : Int32) (M : sk_M) (Q : Int32 → sk_M → Prop) : Prop :=
 w_X8_letters M (fun M1 =>
 w_X8_isWord j1 M1 (fun r6 =>
 if (¬ (r6 = 0)) then (
 w_X8_number a2 a3 M1 (fun r15 M15 =>
 Q r15 M15))
 else (
 Q (-1 : Int32) M1)))
def w_X8_isFigure  (M : sk_M) (Q : Int32 → sk_M → Prop) : Prop :=
 w_X8_blanks M (fun M1 =>
 w_X8_isAt (48 : Int32) (57 : Int32) M1 (fun r9 =>
 (r9 = 0 ∨ r9 = 1) ∧ Q r9 M1))
def w_X8_fault  (M : sk_M) (Q : Int32 → sk_M → Prop) : Prop :=
 sLet (sk_si M 140 0 (0 : Int32)) fun M2 =>
 Q (M2.1 140 19) M2
def w_X8_uses  (M : sk_M) (Q : sk_M → Prop) : Prop :=
 sLet (sk_si M 140 0 (0 : Int32)) fun M2 =>
 sLet (sk_si M2 140 16 (M2.1 140 14)) fun M10 =>
 sLet (sk_si M10 140 14 (0 : Int32)) fun M15 =>
 sLet (sk_si M15 140 15 (0 : Int32)) fun M20 =>
 Q M20
def w_X8_personTold  (M : sk_M) (Q : Int32 → sk_M → Prop) : Prop :=
 w_X8_number (0 : Int32) ((f_X8_people M) - (1 : Int32)) M (fun r8 M8 =>
 Q r8 M8)
def w_X8_vaultTold  (M : sk_M) (Q : Int32 → sk_M → Prop) : Prop :=
 w_X8_number (0 : Int32) ((f_X8_vaults M) - (1 : Int32)) M (fun r8 M8 =>
 Q r8 M8)
def w_X8_codeTold_L8  (k95 : (Int32 × Int32 × sk_M) → Prop) (c : (Int32 × Int32 × sk_M) → Prop) (s8 : Int32 × Int32 × sk_M) : Prop :=
 w_X8_isAt (48 : Int32) (57 : Int32) s8.2.2 (fun r13 =>
 if (¬ (r13 = 0)) then (
 sLet (fun s55_20 : Int32 =>
 if (¬ (s55_20 = 0)) then (
 vp_in (s8.2.2.1 140 15) 400 ∧
 sLet ((((6 : Int32) * s8.1) + (s8.2.2.1 151 (s8.2.2.1 140 15).toNatClampNeg)) - (48 : Int32)) fun y81 =>
 sLet (sk_si s8.2.2 140 15 ((s8.2.2.1 140 15) + (1 : Int32))) fun M89 =>
 c (y81, s55_20, M89))
 else (
 sLet (sk_si s8.2.2 140 15 ((s8.2.2.1 140 15) + (1 : Int32))) fun M89 =>
 c (s8.1, s55_20, M89))) fun j55_20 =>
 sLet (fun s54_20 : Unit =>
 j55_20 (0 : Int32)) fun j54_20 =>
 if (¬ (s8.2.1 = 0) ∧ (¬ ((3 : Int32) ≤ ((s8.2.2.1 140 15) - (s8.2.2.1 140 17))))) then (
 vp_in (s8.2.2.1 140 15) 400 ∧
 if (¬ ((54 : Int32) ≤ (s8.2.2.1 151 (s8.2.2.1 140 15).toNatClampNeg))) then (
 j55_20 (1 : Int32))
 else (
 j54_20 ()))
 else (
 j54_20 ()))
 else (
 k95 (s8.1, s8.2.1, s8.2.2)))
def w_X8_codeTold  (M : sk_M) (Q : Int32 → sk_M → Prop) : Prop :=
 w_X8_blanks M (fun M1 =>
 lp (w_X8_codeTold_L8  (fun s95 : Int32 × Int32 × sk_M =>
 if (¬ (s95.2.1 = 0) ∧ (((s95.2.2.1 140 15) - (s95.2.2.1 140 17)) = (3 : Int32))) then (
 Q s95.1 s95.2.2)
 else (
 Q (-1 : Int32) s95.2.2))) sk_F ((0 : Int32), (1 : Int32), M1))
def w_X8_readVault_L80 (y4 : Int32) (Q : Int32 → sk_M → Prop) (k120 : sk_M → Prop) (c : sk_M → Prop) (s80 : sk_M) : Prop :=
 w_X8_number (0 : Int32) (6 : Int32) s80 (fun r84 M84 =>
 if (¬ (0 ≤ r84)) then (
 Q (0 : Int32) M84)
 else (
 w_X8_of y4 (1 : Int32) M84 (fun r102 =>
 w_X8_sets y4 (1 : Int32) (r102 ||| ((1 : Int32) <<< (r84 &&& 31))) M84 (fun M110 =>
 w_X8_isFigure M110 (fun r114 M114 =>
 if (r114 = 0) then (
 k120 M114)
 else (
 c M114))))))
def w_X8_readVault  (M : sk_M) (Q : Int32 → sk_M → Prop) : Prop :=
 sLet (f_X8_vaults M) fun y4 =>
 if (y4 = (6 : Int32)) then (
 Q (0 : Int32) M)
 else (
 w_X8_codeTold M (fun r14 M14 =>
 sLet (fun s36_19 : Int32 × sk_M =>
 if (¬ (0 ≤ s36_19.1)) then (
 Q (0 : Int32) s36_19.2)
 else (
 w_X8_sets y4 (0 : Int32) r14 s36_19.2 (fun M47 =>
 w_X8_sets y4 (1 : Int32) (0 : Int32) M47 (fun M54 =>
 w_X8_sets y4 (2 : Int32) s36_19.1 M54 (fun M61 =>
 w_X8_sets y4 (3 : Int32) (0 : Int32) M61 (fun M68 =>
 w_X8_passes 2 M68 (fun r74 M74 =>
 sLet (fun s120_77 : sk_M =>
 w_X8_allForget y4 s120_77 (fun M122 =>
 sLet (sk_si M122 141 0 ((M122.1 141 0) + (1 : Int32))) fun M134 =>
 Q (1 : Int32) M134)) fun j120_77 =>
 if (¬ (r74 = 0)) then (
 lp (w_X8_readVault_L80 y4 Q (fun s120 : sk_M =>
 j120_77 s120)) sk_F M74)
 else (
 j120_77 M74)))))))) fun j36_19 =>
 if (¬ (0 ≤ r14)) then (
 j36_19 ((-1 : Int32), M14))
 else (
 w_X8_after 1 (0 : Int32) (999 : Int32) M14 (fun r33 M33 =>
 j36_19 (r33, M33)))))
def w_X8_readPerson_L13  (k34 : sk_M → Prop) (c : (Int32 × sk_M) → Prop) (s13 : Int32 × sk_M) : Prop :=
 if (¬ ((6 : Int32) ≤ s13.1)) then (
 w_X8_forgets (f_X8_people s13.2) s13.1 s13.2 (fun M25 =>
 c ((s13.1 + (1 : Int32)), M25)))
 else (
 k34 s13.2)
def w_X8_readPerson  (M : sk_M) (Q : Int32 → sk_M → Prop) : Prop :=
 if ((f_X8_people M) = (6 : Int32)) then (
 Q (0 : Int32) M)
 else (
 lp (w_X8_readPerson_L13  (fun s34 : sk_M =>
 sLet (sk_si s34 141 1 ((s34.1 141 1) + (1 : Int32))) fun M43 =>
 Q (1 : Int32) M43)) sk_F ((0 : Int32), M))
def w_X8_readContract (a1 : Int32) (M : sk_M) (Q : Int32 → sk_M → Prop) : Prop :=
 if ((f_X8_contracts M) = (12 : Int32)) then (
 Q (0 : Int32) M)
 else (
 w_X8_personTold M (fun r12 M12 =>
 sLet (fun s28_17 : Int32 × sk_M =>
 if (¬ (0 ≤ s28_17.1)) then (
 Q (0 : Int32) s28_17.2)
 else (
 sLet (fun s53_36 : Int32 × sk_M =>
 if (¬ (a1 = 0) ∧ (¬ (0 ≤ s53_36.1))) then (
 Q (0 : Int32) s53_36.2)
 else (
 sLet ((34 : Int32) + ((4 : Int32) * (f_X8_contracts s53_36.2))) fun y75 =>
 sLet (if (¬ (a1 = 0)) then (1 : Int32) else (0 : Int32) : Int32) fun s94_86 =>
 vp_in (y75 + (0 : Int32)) 2260 ∧ sLet (sk_si s53_36.2 141 (y75 + (0 : Int32)).toNatClampNeg s94_86) fun M94 =>
 vp_in (y75 + (1 : Int32)) 2260 ∧ sLet (sk_si M94 141 (y75 + (1 : Int32)).toNatClampNeg r12) fun M104 =>
 vp_in (y75 + (2 : Int32)) 2260 ∧ sLet (sk_si M104 141 (y75 + (2 : Int32)).toNatClampNeg s28_17.1) fun M114 =>
 vp_in (y75 + (3 : Int32)) 2260 ∧ sLet (sk_si M114 141 (y75 + (3 : Int32)).toNatClampNeg s53_36.1) fun M125 =>
 sLet (sk_si M125 141 2 ((M125.1 141 2) + (1 : Int32))) fun M135 =>
 Q (1 : Int32) M135)) fun j53_36 =>
 if (¬ (a1 = 0)) then (
 w_X8_after 6 (0 : Int32) (999 : Int32) s28_17.2 (fun r46 M46 =>
 j53_36 (r46, M46)))
 else (
 j53_36 ((-1 : Int32), s28_17.2)))) fun j28_17 =>
 if (¬ (0 ≤ r12)) then (
 j28_17 ((-1 : Int32), M12))
 else (
 w_X8_vaultTold M12 (fun r25 M25 =>
 j28_17 (r25, M25)))))
def w_X8_readBankLine  (M : sk_M) (Q : Int32 → sk_M → Prop) : Prop :=
 w_X8_isWord 0 M (fun r3 =>
 if (¬ (r3 = 0)) then (
 w_X8_readVault M (fun r10 M10 =>
 (r10 = 0 ∨ r10 = 1) ∧ Q r10 M10))
 else (
 w_X8_isWord 3 M (fun r17 =>
 if (¬ (r17 = 0)) then (
 w_X8_readPerson M (fun r24 M24 =>
 (r24 = 0 ∨ r24 = 1) ∧ Q r24 M24))
 else (
 w_X8_isWord 4 M (fun r31 =>
 if (r31 = 0) then (
 w_X8_isWord 5 M (fun r42 =>
 if (¬ (r42 = 0)) then (
 w_X8_readContract r31 M (fun r50 M50 =>
 (r50 = 0 ∨ r50 = 1) ∧ Q r50 M50))
 else (
 w_X8_isWord 7 M (fun r57 =>
 if (r57 = 0) then (
 Q (0 : Int32) M)
 else (
 w_X8_number (0 : Int32) (100 : Int32) M (fun r69 M69 =>
 sLet (fun s85_74 : sk_M =>
 if (¬ (r69 < 0)) then (
 Q (1 : Int32) s85_74)
 else (
 Q (0 : Int32) s85_74)) fun j85_74 =>
 if (¬ (r69 < 0)) then (
 sLet (sk_si M69 141 6 r69) fun M84 =>
 j85_74 M84)
 else (
 j85_74 M69)))))))
 else (
 w_X8_readContract r31 M (fun r50 M50 =>
 (r50 = 0 ∨ r50 = 1) ∧ Q r50 M50)))))))
def w_X8_emits (a1 : Int32) (a2 : Int32) (M : sk_M) (Q : sk_M → Prop) : Prop :=
 vp_in ((1460 : Int32) + ((2 : Int32) * (M.1 140 21))) 2260 ∧ sLet (sk_si M 141 ((1460 : Int32) + ((2 : Int32) * (M.1 140 21))).toNatClampNeg a1) fun M15 =>
 vp_in (((1460 : Int32) + ((2 : Int32) * (M15.1 140 21))) + (1 : Int32)) 2260 ∧ sLet (sk_si M15 141 (((1460 : Int32) + ((2 : Int32) * (M15.1 140 21))) + (1 : Int32)).toNatClampNeg a2) fun M33 =>
 sLet (sk_si M33 140 21 ((M33.1 140 21) + (1 : Int32))) fun M41 =>
 Q M41
def w_X8_readPart  (M : sk_M) (Q : Int32 → sk_M → Prop) : Prop :=
 w_X8_letters M (fun M1 =>
 sLet (fun s94_12 : Int32 × sk_M =>
 if (¬ (s94_12.1 < 0)) then (
 Q (1 : Int32) s94_12.2)
 else (
 Q (0 : Int32) s94_12.2)) fun j94_12 =>
 if ((M1.1 140 15) = (M1.1 140 17)) then (
 w_X8_number (0 : Int32) (999 : Int32) M1 (fun r20 M20 =>
 w_X8_emits (6 : Int32) r20 M20 (fun M28 =>
 j94_12 (r20, M28))))
 else (
 w_X8_isWord 14 M1 (fun r37 =>
 sLet (fun s87_40 : Int32 =>
 w_X8_emits s87_40 (0 : Int32) M1 (fun M91 =>
 j94_12 (s87_40, M91))) fun j87_40 =>
 if (¬ (r37 = 0)) then (
 j87_40 (0 : Int32))
 else (
 w_X8_isWord 15 M1 (fun r50 =>
 if (¬ (r50 = 0)) then (
 j87_40 (1 : Int32))
 else (
 w_X8_isWord 16 M1 (fun r63 =>
 if (¬ (r63 = 0)) then (
 j87_40 (2 : Int32))
 else (
 w_X8_isWord 17 M1 (fun r76 =>
 if (¬ (r76 = 0)) then (
 j87_40 (3 : Int32))
 else (
 j87_40 (-1 : Int32)))))))))))
def w_X8_readSum_L9  (Q : Int32 → sk_M → Prop) (c : sk_M → Prop) (s9 : sk_M) : Prop :=
 w_X8_sign (43 : Int32) s9 (fun r12 M12 =>
 if (¬ (r12 = 0)) then (
 w_X8_readPart M12 (fun r19 M19 =>
 if (r19 = 0) then (
 Q (0 : Int32) M19)
 else (
 w_X8_emits (7 : Int32) (0 : Int32) M19 (fun M31 =>
 c M31))))
 else (
 Q (1 : Int32) M12))
def w_X8_readSum  (M : sk_M) (Q : Int32 → sk_M → Prop) : Prop :=
 w_X8_readPart M (fun r1 M1 =>
 if (r1 = 0) then (
 Q (0 : Int32) M1)
 else (
 lp (w_X8_readSum_L9 Q) sk_F M1))
def w_X8_readTag  (M : sk_M) (Q : Int32 → sk_M → Prop) : Prop :=
 w_X8_letters M (fun M1 =>
 w_X8_isWord 12 M1 (fun r7 =>
 sLet (fun s31_10 : Int32 =>
 sLet (fun s53_33 : sk_M =>
 if (¬ (s31_10 < 0)) then (
 Q (1 : Int32) s53_33)
 else (
 Q (0 : Int32) s53_33)) fun j53_33 =>
 if (¬ (s31_10 < 0)) then (
 w_X8_emits s31_10 (0 : Int32) M1 (fun M39 =>
 j53_33 M39))
 else (
 sLet (sk_si M1 140 15 (M1.1 140 17)) fun M50 =>
 j53_33 M50)) fun j31_10 =>
 if (¬ (r7 = 0)) then (
 j31_10 (4 : Int32))
 else (
 w_X8_isWord 13 M1 (fun r20 =>
 if (¬ (r20 = 0)) then (
 j31_10 (5 : Int32))
 else (
 j31_10 (-1 : Int32))))))
def w_X8_readAllOf_L9 (A : sk_M → (Int32 → sk_M → Prop) → Prop) (Q : Int32 → sk_M → Prop) (c : sk_M → Prop) (s9 : sk_M) : Prop :=
 w_X8_passes 18 s9 (fun r12 M12 =>
 if (¬ (r12 = 0)) then (
 A M12 (fun r19 M19 =>
 if (r19 = 0) then (
 Q (0 : Int32) M19)
 else (
 w_X8_emits (11 : Int32) (0 : Int32) M19 (fun M31 =>
 c M31))))
 else (
 Q (1 : Int32) M12))
def w_X8_readAllOf (A : sk_M → (Int32 → sk_M → Prop) → Prop)  (M : sk_M) (Q : Int32 → sk_M → Prop) : Prop :=
 A M (fun r1 M1 =>
 if (r1 = 0) then (
 Q (0 : Int32) M1)
 else (
 lp (w_X8_readAllOf_L9 A Q) sk_F M1))
def w_X8_readCond_L9 (A : sk_M → (Int32 → sk_M → Prop) → Prop) (Q : Int32 → sk_M → Prop) (c : sk_M → Prop) (s9 : sk_M) : Prop :=
 w_X8_passes 19 s9 (fun r13 M13 =>
 if (¬ (r13 = 0)) then (
 w_X8_readAllOf A M13 (fun r20 M20 =>
 if (r20 = 0) then (
 Q (0 : Int32) M20)
 else (
 w_X8_emits (12 : Int32) (0 : Int32) M20 (fun M32 =>
 c M32))))
 else (
 Q (1 : Int32) M13))
def w_X8_readCond (A : sk_M → (Int32 → sk_M → Prop) → Prop)  (M : sk_M) (Q : Int32 → sk_M → Prop) : Prop :=
 w_X8_readAllOf A M (fun r1 M1 =>
 if (r1 = 0) then (
 Q (0 : Int32) M1)
 else (
 lp (w_X8_readCond_L9 A Q) sk_F M1))
def w_X8_readAtom (A : sk_M → (Int32 → sk_M → Prop) → Prop)  (M : sk_M) (Q : Int32 → sk_M → Prop) : Prop :=
 w_X8_sign (40 : Int32) M (fun r3 M3 =>
 if (¬ (r3 = 0)) then (
 if ((M3.1 140 18) = (6 : Int32)) then (
 Q (0 : Int32) M3)
 else (
 sLet (sk_si M3 140 18 ((M3.1 140 18) + (1 : Int32))) fun M27 =>
 w_X8_readCond A M27 (fun r31 M31 =>
 if (r31 = 0) then (
 Q (0 : Int32) M31)
 else (
 sLet (sk_si M31 140 18 ((M31.1 140 18) - (1 : Int32))) fun M46 =>
 w_X8_sign (41 : Int32) M46 (fun r52 M52 =>
 (r52 = 0 ∨ r52 = 1) ∧ Q r52 M52)))))
 else (
 w_X8_passes 11 M3 (fun r59 M59 =>
 if (¬ (r59 = 0)) then (
 if ((M59.1 140 18) = (6 : Int32)) then (
 Q (0 : Int32) M59)
 else (
 sLet (sk_si M59 140 18 ((M59.1 140 18) + (1 : Int32))) fun M83 =>
 A M83 (fun r87 M87 =>
 if (r87 = 0) then (
 Q (0 : Int32) M87)
 else (
 sLet (sk_si M87 140 18 ((M87.1 140 18) - (1 : Int32))) fun M102 =>
 w_X8_emits (10 : Int32) (0 : Int32) M102 (fun M109 =>
 Q (1 : Int32) M109)))))
 else (
 w_X8_readTag M59 (fun r115 M115 =>
 if (¬ (r115 = 0)) then (
 Q (1 : Int32) M115)
 else (
 w_X8_readSum M115 (fun r124 M124 =>
 if (r124 = 0) then (
 Q (0 : Int32) M124)
 else (
 w_X8_sign (60 : Int32) M124 (fun r135 M135 =>
 sLet (fun s152_140 : sk_M =>
 w_X8_readSum s152_140 (fun r153 M153 =>
 if (r153 = 0) then (
 Q (0 : Int32) M153)
 else (
 if (¬ (r135 = 0)) then (
 w_X8_emits (8 : Int32) (0 : Int32) M153 (fun M174 =>
 Q (1 : Int32) M174))
 else (
 w_X8_emits (9 : Int32) (0 : Int32) M153 (fun M174 =>
 Q (1 : Int32) M174))))) fun j152_140 =>
 if (r135 = 0) then (
 w_X8_sign (62 : Int32) M135 (fun r146 M146 =>
 if (¬ (r146 = 0)) then (
 j152_140 M146)
 else (
 Q (0 : Int32) M146)))
 else (
 j152_140 M135))))))))))
def w_X8_readAtomN : Nat → sk_M → (Int32 → sk_M → Prop) → Prop
  | 0 => fun  _ _ => False
  | n + 1 => w_X8_readAtom (w_X8_readAtomN n)
def w_X8_readLawLine (a1 : Int32) (M : sk_M) (Q : Int32 → sk_M → Prop) : Prop :=
 sLet ((1412 : Int32) + ((4 : Int32) * a1)) fun y7 =>
 w_X8_isWord 8 M (fun r12 =>
 sLet (fun s32_17 : Unit =>
 sLet (if (¬ (r12 = 0)) then (1 : Int32) else (-1 : Int32) : Int32) fun s46_38 =>
 vp_in y7 2260 ∧ sLet (sk_si M 141 y7.toNatClampNeg s46_38) fun M46 =>
 w_X8_number (0 : Int32) (99 : Int32) M46 (fun r58 M58 =>
 vp_in (y7 + (1 : Int32)) 2260 ∧ sLet (sk_si M58 141 (y7 + (1 : Int32)).toNatClampNeg r58) fun M61 =>
 vp_in (y7 + (1 : Int32)) 2260 ∧
 if (¬ (0 ≤ (M61.1 141 (y7 + (1 : Int32)).toNatClampNeg))) then (
 Q (0 : Int32) M61)
 else (
 vp_in (y7 + (2 : Int32)) 2260 ∧ sLet (sk_si M61 141 (y7 + (2 : Int32)).toNatClampNeg (M61.1 140 21)) fun M86 =>
 sLet (sk_si M86 140 18 (0 : Int32)) fun M89 =>
 w_X8_passes 10 M89 (fun r96 M96 =>
 sLet (fun s111_99 : sk_M =>
 vp_in (y7 + (3 : Int32)) 2260 ∧ sLet (sk_si s111_99 141 (y7 + (3 : Int32)).toNatClampNeg (s111_99.1 140 21)) fun M122 =>
 Q (1 : Int32) M122) fun j111_99 =>
 if (¬ (r96 = 0)) then (
 w_X8_readCond (w_X8_readAtomN 8) M96 (fun r103 M103 =>
 if (r103 = 0) then (
 Q (0 : Int32) M103)
 else (
 j111_99 M103)))
 else (
 j111_99 M96))))) fun j32_17 =>
 if (r12 = 0) then (
 w_X8_isWord 9 M (fun r24 =>
 if (r24 = 0) then (
 Q (0 : Int32) M)
 else (
 j32_17 ())))
 else (
 j32_17 ()))
def w_X8_readLine (a1 : Int32) (a2 : Int32) (M : sk_M) (Q : Int32 → sk_M → Prop) : Prop :=
 w_X8_letters M (fun M1 =>
 sLet (if (¬ (a1 = 0)) then (14 : Int32) else (12 : Int32) : Int32) fun s16_6 =>
 if (¬ (s16_6 ≤ a2)) then (
 if (¬ (a1 = 0)) then (
 w_X8_readBankLine M1 (fun r24 M24 =>
 if (¬ (r24 = 0)) then (
 Q (1 : Int32) M24)
 else (
 Q (0 : Int32) M24)))
 else (
 w_X8_readLawLine a2 M1 (fun r35 M35 =>
 if (¬ (r35 = 0)) then (
 Q (1 : Int32) M35)
 else (
 Q (0 : Int32) M35))))
 else (
 Q (0 : Int32) M1))
def w_X8_readAll_L28 (a1 : Int32) (Q : Int32 → sk_M → Prop) (c : (Int32 × sk_M) → Prop) (s28 : Int32 × sk_M) : Prop :=
 w_X8_readLine a1 s28.1 s28.2 (fun r31 M31 =>
 if (r31 = 0) then (
 Q (-1 : Int32) M31)
 else (
 w_X8_blanks M31 (fun M40 =>
 if ((M40.1 140 15) = (M40.1 140 16)) then (
 Q (s28.1 + (1 : Int32)) M40)
 else (
 w_X8_isAt (59 : Int32) (59 : Int32) M40 (fun r63 =>
 if (r63 = 0) then (
 Q (-1 : Int32) M40)
 else (
 sLet (sk_si M40 140 15 ((M40.1 140 15) + (1 : Int32))) fun M78 =>
 c ((s28.1 + (1 : Int32)), M78)))))))
def w_X8_readAll (a1 : Int32) (M : sk_M) (Q : Int32 → sk_M → Prop) : Prop :=
 w_X8_uses M (fun M1 =>
 sLet (sk_si M1 140 21 (0 : Int32)) fun M6 =>
 w_X8_blanks M6 (fun M10 =>
 if ((M10.1 140 15) = (M10.1 140 16)) then (
 Q (0 : Int32) M10)
 else (
 lp (w_X8_readAll_L28 a1 Q) sk_F ((0 : Int32), M10))))
def w_X8_bank_L2  (k27 : sk_M → Prop) (c : (Int32 × sk_M) → Prop) (s2 : Int32 × sk_M) : Prop :=
 if (¬ ((1411 : Int32) ≤ s2.1)) then (
 vp_in s2.1 2260 ∧
 vp_in s2.1 1411 ∧ sLet (sk_si s2.2 143 s2.1.toNatClampNeg (s2.2.1 141 s2.1.toNatClampNeg)) fun M20 =>
 c ((s2.1 + (1 : Int32)), M20))
 else (
 k27 s2.2)
def w_X8_bank_L103  (k128 : sk_M → Prop) (c : (Int32 × sk_M) → Prop) (s103 : Int32 × sk_M) : Prop :=
 if (¬ ((1411 : Int32) ≤ s103.1)) then (
 vp_in s103.1 1411 ∧
 vp_in s103.1 2260 ∧ sLet (sk_si s103.2 141 s103.1.toNatClampNeg (s103.2.1 143 s103.1.toNatClampNeg)) fun M121 =>
 c ((s103.1 + (1 : Int32)), M121))
 else (
 k128 s103.2)
def w_X8_bank  (M : sk_M) (Q : Int32 → sk_M → Prop) : Prop :=
 lp (w_X8_bank_L2  (fun s27 : sk_M =>
 w_X8_copies 146 148 s27 (fun M35 =>
 w_X8_readAll (1 : Int32) M35 (fun r40 M40 =>
 sLet (if (¬ (0 ≤ r40)) then (M40.1 140 17) else (-1 : Int32) : Int32) fun s57_46 =>
 sLet (sk_si M40 140 19 s57_46) fun M57 =>
 sLet (if (¬ (0 ≤ r40)) then (1 : Int32) else (0 : Int32) : Int32) fun s70_62 =>
 w_X8_throwsIf s70_62 (1 : Int32) M57 (fun r71 M71 =>
 sLet (fun s101_74 : sk_M =>
 lp (w_X8_bank_L103  (fun s128 : sk_M =>
 w_X8_copies 148 146 s128 (fun M136 =>
 Q (0 : Int32) M136))) sk_F ((0 : Int32), s101_74)) fun j101_74 =>
 if (r71 = 0) then (
 sLet (if ((M71.1 141 3) = (12 : Int32)) then (1 : Int32) else (0 : Int32) : Int32) fun s94_86 =>
 w_X8_throwsIf s94_86 (2 : Int32) M71 (fun r95 M95 =>
 if (¬ (r95 = 0)) then (
 j101_74 M95)
 else (
 sLet (sk_si M95 141 3 ((M95.1 141 3) + (1 : Int32))) fun M150 =>
 sLet (sk_si M150 140 12 (0 : Int32)) fun M153 =>
 Q (M153.1 141 3) M153)))
 else (
 j101_74 M71)))))) sk_F ((0 : Int32), M)
def w_X8_law_L52  (k85 : sk_M → Prop) (c : (Int32 × sk_M) → Prop) (s52 : Int32 × sk_M) : Prop :=
 if (¬ ((849 : Int32) ≤ s52.1)) then (
 vp_in ((1411 : Int32) + s52.1) 2260 ∧
 vp_in ((562 : Int32) + s52.1) 2260 ∧ sLet (sk_si s52.2 141 ((562 : Int32) + s52.1).toNatClampNeg (s52.2.1 141 ((1411 : Int32) + s52.1).toNatClampNeg)) fun M78 =>
 c ((s52.1 + (1 : Int32)), M78))
 else (
 k85 s52.2)
def w_X8_law_L94 (r2 : Int32) (Q : Int32 → sk_M → Prop) (c : (Int32 × sk_M) → Prop) (s94 : Int32 × sk_M) : Prop :=
 if (¬ ((6 : Int32) ≤ s94.1)) then (
 w_X8_allForget s94.1 s94.2 (fun M102 =>
 c ((s94.1 + (1 : Int32)), M102)))
 else (
 sLet (sk_si s94.2 140 12 (0 : Int32)) fun M113 =>
 Q r2 M113)
def w_X8_law  (M : sk_M) (Q : Int32 → sk_M → Prop) : Prop :=
 w_X8_readAll (0 : Int32) M (fun r2 M2 =>
 sLet (if (¬ (0 ≤ r2)) then (M2.1 140 17) else (-1 : Int32) : Int32) fun s19_8 =>
 sLet (sk_si M2 140 19 s19_8) fun M19 =>
 sLet (if (¬ (0 ≤ r2)) then (1 : Int32) else (0 : Int32) : Int32) fun s32_24 =>
 w_X8_throwsIf s32_24 (1 : Int32) M19 (fun r33 M33 =>
 if (¬ (r33 = 0)) then (
 Q (0 : Int32) M33)
 else (
 sLet (sk_si M33 141 1411 r2) fun M49 =>
 lp (w_X8_law_L52  (fun s85 : sk_M =>
 sLet (sk_si s85 141 4 (1 : Int32)) fun M91 =>
 lp (w_X8_law_L94 r2 Q) sk_F ((0 : Int32), M91))) sk_F ((0 : Int32), M49))))
def f_X8_apartOf (a0 : Int32) (a1 : Int32) : Int32 :=
 sLeT (abI (a0 - a1)) fun y6 =>
 (mnI y6 ((6 : Int32) - y6))
def f_X8_factOf (a0 : Int32) (a1 : Int32) (a2 : Int32) (a3 : Int32) (a4 : Int32) : Int32 :=
 if a0 = 0 then (
 a2)
 else (
 if a0 = 1 then (
 a3)
 else (
 if a0 = 2 then (
 a4)
 else (
 if a0 = 3 then (
 (f_X8_apartOf a3 a4))
 else (
 if a0 = 4 then (
 if (a3 = a4) then (
 (1 : Int32))
 else (
 (0 : Int32)))
 else (
 if a0 = 5 then (
 if ((f_X8_apartOf a3 a4) = (1 : Int32)) then (
 (1 : Int32))
 else (
 (0 : Int32)))
 else (
 a1))))))
def w_X8_holdsLine_L23 (a2 : Int32) (a3 : Int32) (a4 : Int32) (y10 : Int32) (k272 : (Int32 × sk_M) → Prop) (c : (Int32 × Int32 × sk_M) → Prop) (s23 : Int32 × Int32 × sk_M) : Prop :=
 vp_in (y10 + (3 : Int32)) 2260 ∧
 if (¬ ((s23.2.2.1 141 (y10 + (3 : Int32)).toNatClampNeg) ≤ s23.2.1)) then (
 vp_in ((611 : Int32) + ((2 : Int32) * s23.2.1)) 2260 ∧
 sLet (s23.2.2.1 141 ((611 : Int32) + ((2 : Int32) * s23.2.1)).toNatClampNeg) fun y50 =>
 if (¬ ((6 : Int32) < y50)) then (
 vp_in (((611 : Int32) + ((2 : Int32) * s23.2.1)) + (1 : Int32)) 2260 ∧
 vp_in s23.1 400 ∧ sLet (sk_si s23.2.2 153 s23.1.toNatClampNeg (f_X8_factOf y50 (s23.2.2.1 141 (((611 : Int32) + ((2 : Int32) * s23.2.1)) + (1 : Int32)).toNatClampNeg) a2 a3 a4)) fun M89 =>
 c ((s23.1 + (1 : Int32)), (s23.2.1 + (1 : Int32)), M89))
 else (
 if (y50 = (10 : Int32)) then (
 vp_in (s23.1 - (1 : Int32)) 400 ∧
 vp_in (s23.1 - (1 : Int32)) 400 ∧ sLet (sk_si s23.2.2 153 (s23.1 - (1 : Int32)).toNatClampNeg ((1 : Int32) - (s23.2.2.1 153 (s23.1 - (1 : Int32)).toNatClampNeg))) fun M122 =>
 c (s23.1, (s23.2.1 + (1 : Int32)), M122))
 else (
 vp_in ((s23.1 + (-1 : Int32)) - (1 : Int32)) 400 ∧
 sLet (s23.2.2.1 153 ((s23.1 + (-1 : Int32)) - (1 : Int32)).toNatClampNeg) fun y138 =>
 vp_in (s23.1 + (-1 : Int32)) 400 ∧
 sLet (s23.2.2.1 153 (s23.1 + (-1 : Int32)).toNatClampNeg) fun y147 =>
 sLet (if (y50 = (8 : Int32)) then (if y147 ≤ y138 then (0 : Int32) else (1 : Int32)) else (if y50 = (9 : Int32) then (if y138 ≤ y147 then (0 : Int32) else (1 : Int32)) else (if y50 = (11 : Int32) then (if (y138 + y147) = (2 : Int32) then (1 : Int32) else (0 : Int32)) else (if (y138 + y147) ≤ 0 then (0 : Int32) else (1 : Int32)))) : Int32) fun s230_153 =>
 if (y50 = (7 : Int32)) then (
 vp_in ((s23.1 + (-1 : Int32)) - (1 : Int32)) 400 ∧ sLet (sk_si s23.2.2 153 ((s23.1 + (-1 : Int32)) - (1 : Int32)).toNatClampNeg (y138 + y147)) fun M265 =>
 c ((s23.1 + (-1 : Int32)), (s23.2.1 + (1 : Int32)), M265))
 else (
 if (¬ (s230_153 = 0)) then (
 vp_in ((s23.1 + (-1 : Int32)) - (1 : Int32)) 400 ∧ sLet (sk_si s23.2.2 153 ((s23.1 + (-1 : Int32)) - (1 : Int32)).toNatClampNeg (1 : Int32)) fun M265 =>
 c ((s23.1 + (-1 : Int32)), (s23.2.1 + (1 : Int32)), M265))
 else (
 vp_in ((s23.1 + (-1 : Int32)) - (1 : Int32)) 400 ∧ sLet (sk_si s23.2.2 153 ((s23.1 + (-1 : Int32)) - (1 : Int32)).toNatClampNeg (0 : Int32)) fun M265 =>
 c ((s23.1 + (-1 : Int32)), (s23.2.1 + (1 : Int32)), M265))))))
 else (
 k272 (s23.1, s23.2.2))
def w_X8_holdsLine (a1 : Int32) (a2 : Int32) (a3 : Int32) (a4 : Int32) (M : sk_M) (Q : Int32 → sk_M → Prop) : Prop :=
 sLet ((563 : Int32) + ((4 : Int32) * a1)) fun y10 =>
 vp_in (y10 + (2 : Int32)) 2260 ∧
 sLet (M.1 141 (y10 + (2 : Int32)).toNatClampNeg) fun y21 =>
 lp (w_X8_holdsLine_L23 a2 a3 a4 y10 (fun s272 : Int32 × sk_M =>
 if (¬ (s272.1 = 0)) then (
 if ((s272.2.1 153 0) = (1 : Int32)) then (
 Q (1 : Int32) s272.2)
 else (
 Q (0 : Int32) s272.2))
 else (
 Q (1 : Int32) s272.2))) sk_F ((0 : Int32), y21, M)
def w_X8_clickOf_L26 (a1 : Int32) (a2 : Int32) (a3 : Int32) (Q : Int32 → sk_M → Prop) (c : (Int32 × Int32 × sk_M) → Prop) (s26 : Int32 × Int32 × sk_M) : Prop :=
 if (¬ ((s26.2.2.1 141 562) ≤ s26.2.1)) then (
 w_X8_holdsLine s26.2.1 a1 a2 a3 s26.2.2 (fun r47 M47 =>
 if (¬ (r47 = 0)) then (
 vp_in ((563 : Int32) + ((4 : Int32) * s26.2.1)) 2260 ∧
 vp_in (((563 : Int32) + ((4 : Int32) * s26.2.1)) + (1 : Int32)) 2260 ∧
 sLet (s26.1 + ((M47.1 141 ((563 : Int32) + ((4 : Int32) * s26.2.1)).toNatClampNeg) * (M47.1 141 (((563 : Int32) + ((4 : Int32) * s26.2.1)) + (1 : Int32)).toNatClampNeg))) fun y87 =>
 c (y87, (s26.2.1 + (1 : Int32)), M47))
 else (
 sLet (s26.1 + (0 : Int32)) fun y87 =>
 c (y87, (s26.2.1 + (1 : Int32)), M47))))
 else (
 Q s26.1 s26.2.2)
def w_X8_clickOf (a1 : Int32) (a2 : Int32) (a3 : Int32) (M : sk_M) (Q : Int32 → sk_M → Prop) : Prop :=
 if ((M.1 141 4) = 0) then (
 if (a2 = a3) then (
 Q (1 : Int32) M)
 else (
 Q (0 : Int32) M))
 else (
 lp (w_X8_clickOf_L26 a1 a2 a3 Q) sk_F ((0 : Int32), (0 : Int32), M))
def f_X8_clickAt (a0 : Int32) (a1 : Int32) (a2 : Int32) : Int32 :=
 (((6 : Int32) * (((6 : Int32) * a0) + a1)) + a2)
def w_X8_laysClicks_L17 (s2 : Int32 × sk_M) (s9 : Int32 × sk_M) (k47 : sk_M → Prop) (c : (Int32 × sk_M) → Prop) (s17 : Int32 × sk_M) : Prop :=
 if (¬ ((6 : Int32) ≤ s17.1)) then (
 w_X8_clickOf s2.1 s9.1 s17.1 s17.2 (fun r37 M37 =>
 vp_in (f_X8_clickAt s2.1 s9.1 s17.1) 108 ∧ sLet (sk_si M37 154 (f_X8_clickAt s2.1 s9.1 s17.1).toNatClampNeg r37) fun M40 =>
 c ((s17.1 + (1 : Int32)), M40)))
 else (
 k47 s17.2)
def w_X8_laysClicks_L9 (s2 : Int32 × sk_M) (k53 : sk_M → Prop) (c : (Int32 × sk_M) → Prop) (s9 : Int32 × sk_M) : Prop :=
 if (¬ ((6 : Int32) ≤ s9.1)) then (
 lp (w_X8_laysClicks_L17 s2 s9 (fun s47 : sk_M =>
 c ((s9.1 + (1 : Int32)), s47))) sk_F ((0 : Int32), s9.2))
 else (
 k53 s9.2)
def w_X8_laysClicks_L2  (Q : sk_M → Prop) (c : (Int32 × sk_M) → Prop) (s2 : Int32 × sk_M) : Prop :=
 if (¬ ((3 : Int32) ≤ s2.1)) then (
 lp (w_X8_laysClicks_L9 s2 (fun s53 : sk_M =>
 c ((s2.1 + (1 : Int32)), s53))) sk_F ((0 : Int32), s2.2))
 else (
 Q s2.2)
def w_X8_laysClicks  (M : sk_M) (Q : sk_M → Prop) : Prop :=
 lp (w_X8_laysClicks_L2 Q) sk_F ((0 : Int32), M)
def w_X8_soundOf (a1 : Int32) (a2 : Int32) (M : sk_M) (Q : Int32 → Prop) : Prop :=
 vp_in (f_X8_clickAt (0 : Int32) (a1 / (36 : Int32)) (a2 / (36 : Int32))) 108 ∧
 vp_in (f_X8_clickAt (1 : Int32) (rmI (a1 / (6 : Int32)) (6 : Int32)) (rmI (a2 / (6 : Int32)) (6 : Int32))) 108 ∧
 vp_in (f_X8_clickAt (2 : Int32) (rmI a1 (6 : Int32)) (rmI a2 (6 : Int32))) 108 ∧
 Q (((M.1 154 (f_X8_clickAt (0 : Int32) (a1 / (36 : Int32)) (a2 / (36 : Int32))).toNatClampNeg) + (M.1 154 (f_X8_clickAt (1 : Int32) (rmI (a1 / (6 : Int32)) (6 : Int32)) (rmI (a2 / (6 : Int32)) (6 : Int32))).toNatClampNeg)) + (M.1 154 (f_X8_clickAt (2 : Int32) (rmI a1 (6 : Int32)) (rmI a2 (6 : Int32))).toNatClampNeg))
def w_X8_click (a1 : Int32) (a2 : Int32) (a3 : Int32) (M : sk_M) (Q : Int32 → sk_M → Prop) : Prop :=
 sLet (sk_si M 140 0 (0 : Int32)) fun M2 =>
 sLet (if ((f_X8_in a1 (0 : Int32) (2 : Int32)) = 0) then (1 : Int32) else (0 : Int32) : Int32) fun s20_12 =>
 w_X8_throwsIf s20_12 (1 : Int32) M2 (fun r21 M21 =>
 if (r21 = 0) then (
 sLet (if (((f_X8_in a2 (0 : Int32) (5 : Int32)) = 0) ∨ ((f_X8_in a3 (0 : Int32) (5 : Int32)) = 0)) then (1 : Int32) else (0 : Int32) : Int32) fun s51_34 =>
 w_X8_throwsIf s51_34 (2 : Int32) M21 (fun r52 M52 =>
 if (¬ (r52 = 0)) then (
 Q (0 : Int32) M52)
 else (
 w_X8_clickOf a1 a2 a3 M52 (fun r64 M64 =>
 Q r64 M64))))
 else (
 Q (0 : Int32) M21))
def w_X8_sound (a1 : Int32) (a2 : Int32) (M : sk_M) (Q : Int32 → sk_M → Prop) : Prop :=
 sLet (sk_si M 140 0 (0 : Int32)) fun M2 =>
 sLet (if (¬ ((f_X8_noCode a1) = 0) ∨ (¬ ((f_X8_noCode a2) = 0))) then (1 : Int32) else (0 : Int32) : Int32) fun s25_10 =>
 w_X8_throwsIf s25_10 (1 : Int32) M2 (fun r26 M26 =>
 if (¬ (r26 = 0)) then (
 Q (0 : Int32) M26)
 else (
 w_X8_laysClicks M26 (fun M35 =>
 w_X8_soundOf a1 a2 M35 (fun r41 =>
 Q r41 M35))))
def w_X8_isGuarded (a1 : Int32) (a2 : Int32) (M : sk_M) (Q : Int32 → Prop) : Prop :=
 w_X8_of a1 (1 : Int32) M (fun r3 =>
 ((f_X8_has r3 (rmI a2 (7 : Int32))) = 0 ∨ (f_X8_has r3 (rmI a2 (7 : Int32))) = 1) ∧ Q (f_X8_has r3 (rmI a2 (7 : Int32))))
def w_X8_soonOf_L2 (a1 : Int32) (M : sk_M) (Q : Int32 → Prop) (c : Int32 → Prop) (s2 : Int32) : Prop :=
 if (¬ ((7 : Int32) ≤ s2)) then (
 w_X8_isGuarded a1 (mnI (9999 : Int32) ((M.1 141 5) + s2)) M (fun r24 =>
 if (r24 = 0) then (
 Q s2)
 else (
 c (s2 + (1 : Int32)))))
 else (
 Q (-1 : Int32))
def w_X8_soonOf (a1 : Int32) (M : sk_M) (Q : Int32 → Prop) : Prop :=
 lp (w_X8_soonOf_L2 a1 M Q) sk_F (0 : Int32)
def w_X8_longOf_L19 (a0 : Int32) (s11 : Int32 × Int32) (k38 : Int32 → Prop) (c : Int32 → Prop) (s19 : Int32) : Prop :=
 if ((f_X8_has a0 (rmI (s11.2 + s19) (7 : Int32))) = 0) then (
 c (s19 + (1 : Int32)))
 else (
 k38 s19)
def w_X8_longOf_L11 (a0 : Int32) (Q : Int32 → Prop) (c : (Int32 × Int32) → Prop) (s11 : Int32 × Int32) : Prop :=
 if (¬ ((7 : Int32) ≤ s11.2)) then (
 lp (w_X8_longOf_L19 a0 s11 (fun s38 : Int32 =>
 sLet (mxI s11.1 s38) fun y43 =>
 c (y43, (s11.2 + (1 : Int32))))) sk_F (0 : Int32))
 else (
 Q s11.1)
def w_X8_longOf (a0 : Int32) (M : sk_M) (Q : Int32 → Prop) : Prop :=
 if (a0 = 0) then (
 Q (7 : Int32))
 else (
 lp (w_X8_longOf_L11 a0 Q) sk_F ((0 : Int32), (0 : Int32)))
def w_X8_vault (a1 : Int32) (a2 : Int32) (M : sk_M) (Q : Int32 → sk_M → Prop) : Prop :=
 sLet (sk_si M 140 0 (0 : Int32)) fun M2 =>
 w_X8_throwsIf (f_X8_noVault a1 M2) (1 : Int32) M2 (fun r12 M12 =>
 if (r12 = 0) then (
 sLet (if ((f_X8_in a2 (0 : Int32) (6 : Int32)) = 0) then (1 : Int32) else (0 : Int32) : Int32) fun s34_26 =>
 w_X8_throwsIf s34_26 (2 : Int32) M12 (fun r35 M35 =>
 if (¬ (r35 = 0)) then (
 Q (0 : Int32) M35)
 else (
 if a2 = 4 then (
 w_X8_of a1 (1 : Int32) M35 (fun r77 =>
 Q ((127 : Int32) &&& (r77 ^^^ (-1 : Int32))) M35))
 else (
 if a2 = 5 then (
 w_X8_soonOf a1 M35 (fun r86 =>
 Q r86 M35))
 else (
 if a2 = 6 then (
 w_X8_of a1 (1 : Int32) M35 (fun r93 =>
 w_X8_longOf r93 M35 (fun r96 =>
 Q r96 M35)))
 else (
 w_X8_of a1 a2 M35 (fun r103 =>
 Q r103 M35)))))))
 else (
 Q (0 : Int32) M12))
def w_X8_rota_L62 (a2 : Int32) (M35 : sk_M) (r46 : Int32) (Q : Int32 → sk_M → Prop) (c : (Int32 × Int32) → Prop) (s62 : Int32 × Int32) : Prop :=
 if (¬ (s62.2 < 0)) then (
 sLet (fun s103_71 : Int32 =>
 if (¬ (s103_71 = 0)) then (
 c (s62.2, (s62.2 + (-1 : Int32))))
 else (
 c (s62.1, (s62.2 + (-1 : Int32))))) fun j103_71 =>
 sLet (fun s102_71 : Unit =>
 j103_71 (0 : Int32)) fun j102_71 =>
 if (((s62.2 &&& r46) = 0) ∧ (¬ ((bc32 s62.1) < (bc32 s62.2)))) then (
 w_X8_longOf (r46 ||| s62.2) M35 (fun r91 =>
 if (¬ (a2 < r91)) then (
 j103_71 (1 : Int32))
 else (
 j102_71 ())))
 else (
 j102_71 ()))
 else (
 Q s62.1 M35)
def w_X8_rota (a1 : Int32) (a2 : Int32) (M : sk_M) (Q : Int32 → sk_M → Prop) : Prop :=
 sLet (sk_si M 140 0 (0 : Int32)) fun M2 =>
 w_X8_throwsIf (f_X8_noVault a1 M2) (1 : Int32) M2 (fun r12 M12 =>
 if (r12 = 0) then (
 sLet (if ((f_X8_in a2 (0 : Int32) (6 : Int32)) = 0) then (1 : Int32) else (0 : Int32) : Int32) fun s34_26 =>
 w_X8_throwsIf s34_26 (2 : Int32) M12 (fun r35 M35 =>
 if (¬ (r35 = 0)) then (
 Q (0 : Int32) M35)
 else (
 w_X8_of a1 (1 : Int32) M35 (fun r46 =>
 sLet ((127 : Int32) &&& (r46 ^^^ (-1 : Int32))) fun y56 =>
 lp (w_X8_rota_L62 a2 M35 r46 Q) sk_F (y56, y56)))))
 else (
 Q (0 : Int32) M12))
def w_X8_left (a1 : Int32) (a2 : Int32) (M : sk_M) (Q : Int32 → sk_M → Prop) : Prop :=
 sLet (sk_si M 140 0 (0 : Int32)) fun M2 =>
 sLet (if (¬ ((f_X8_noPerson a1 M2) = 0) ∨ (¬ ((f_X8_noVault a2 M2) = 0))) then (1 : Int32) else (0 : Int32) : Int32) fun s27_11 =>
 w_X8_throwsIf s27_11 (1 : Int32) M2 (fun r28 M28 =>
 if (¬ (r28 = 0)) then (
 Q (0 : Int32) M28)
 else (
 w_X8_leftOf a1 a2 M28 (fun r41 =>
 Q r41 M28)))
def w_X8_code_L42 (a1 : Int32) (a2 : Int32) (a3 : Int32) (M28 : sk_M) (Q : Int32 → sk_M → Prop) (c : (Int32 × Int32) → Prop) (s42 : Int32 × Int32) : Prop :=
 if (¬ ((216 : Int32) ≤ s42.2)) then (
 w_X8_canBe a1 a2 s42.2 M28 (fun r55 =>
 if (r55 = 0) then (
 c (s42.1, (s42.2 + (1 : Int32))))
 else (
 if (s42.1 = a3) then (
 Q s42.2 M28)
 else (
 c ((s42.1 + (1 : Int32)), (s42.2 + (1 : Int32)))))))
 else (
 Q (-1 : Int32) M28)
def w_X8_code (a1 : Int32) (a2 : Int32) (a3 : Int32) (M : sk_M) (Q : Int32 → sk_M → Prop) : Prop :=
 sLet (sk_si M 140 0 (0 : Int32)) fun M2 =>
 sLet (if (¬ ((f_X8_noPerson a1 M2) = 0) ∨ (¬ ((f_X8_noVault a2 M2) = 0))) then (1 : Int32) else (0 : Int32) : Int32) fun s27_11 =>
 w_X8_throwsIf s27_11 (1 : Int32) M2 (fun r28 M28 =>
 if (¬ (r28 = 0)) then (
 Q (0 : Int32) M28)
 else (
 lp (w_X8_code_L42 a1 a2 a3 M28 Q) sk_F ((0 : Int32), (0 : Int32))))
def w_X8_figuresOf_L6 (a1 : Int32) (a2 : Int32) (a3 : Int32) (M : sk_M) (Q : Int32 → Prop) (c : (Int32 × Int32) → Prop) (s6 : Int32 × Int32) : Prop :=
 if (¬ ((216 : Int32) ≤ s6.2)) then (
 w_X8_canBe a1 a2 s6.2 M (fun r21 =>
 if (¬ (r21 = 0)) then (
 sLet (s6.1 ||| ((1 : Int32) <<< ((f_X8_figureOf s6.2 a3) &&& 31))) fun y40 =>
 c (y40, (s6.2 + (1 : Int32))))
 else (
 sLet (s6.1 ||| (0 : Int32)) fun y40 =>
 c (y40, (s6.2 + (1 : Int32))))))
 else (
 Q s6.1)
def w_X8_figuresOf (a1 : Int32) (a2 : Int32) (a3 : Int32) (M : sk_M) (Q : Int32 → Prop) : Prop :=
 lp (w_X8_figuresOf_L6 a1 a2 a3 M Q) sk_F ((0 : Int32), (0 : Int32))
def w_X8_wheel (a1 : Int32) (a2 : Int32) (a3 : Int32) (a4 : Int32) (M : sk_M) (Q : Int32 → sk_M → Prop) : Prop :=
 sLet (sk_si M 140 0 (0 : Int32)) fun M2 =>
 sLet (if (¬ ((f_X8_noPerson a1 M2) = 0) ∨ (¬ ((f_X8_noVault a2 M2) = 0) ∨ ((f_X8_in a3 (0 : Int32) (2 : Int32)) = 0))) then (1 : Int32) else (0 : Int32) : Int32) fun s36_11 =>
 w_X8_throwsIf s36_11 (1 : Int32) M2 (fun r37 M37 =>
 if (¬ (r37 = 0)) then (
 Q (0 : Int32) M37)
 else (
 w_X8_figuresOf a1 a2 a3 M37 (fun r49 =>
 if (¬ (a4 = 0)) then (
 Q r49 M37)
 else (
 if ((bc32 r49) = (1 : Int32)) then (
 Q (f_J6_numberOfTrailingZeros_0f7a4 r49) M37)
 else (
 Q (-1 : Int32) M37)))))
def w_X8_tells_L5  (k41 : sk_M → Prop) (c : (Int32 × sk_M) → Prop) (s5 : Int32 × sk_M) : Prop :=
 if (¬ (s5.1 < (6 : Int32))) then (
 vp_in (((82 : Int32) + s5.1) - (6 : Int32)) 2260 ∧
 vp_in ((82 : Int32) + s5.1) 2260 ∧ sLet (sk_si s5.2 141 ((82 : Int32) + s5.1).toNatClampNeg (s5.2.1 141 (((82 : Int32) + s5.1) - (6 : Int32)).toNatClampNeg)) fun M34 =>
 c ((s5.1 + (-1 : Int32)), M34))
 else (
 k41 s5.2)
def w_X8_tells (a1 : Int32) (a2 : Int32) (a3 : Int32) (a4 : Int32) (a5 : Int32) (M : sk_M) (Q : sk_M → Prop) : Prop :=
 lp (w_X8_tells_L5  (fun s41 : sk_M =>
 sLet (sk_si s41 141 82 (s41.1 141 5)) fun M53 =>
 sLet (sk_si M53 141 83 a1) fun M61 =>
 sLet (sk_si M61 141 84 a2) fun M69 =>
 sLet (sk_si M69 141 85 a3) fun M77 =>
 sLet (sk_si M77 141 86 a4) fun M86 =>
 sLet (if (¬ (a5 = 0)) then (1 : Int32) else (0 : Int32) : Int32) fun s103_95 =>
 sLet (sk_si M86 141 87 s103_95) fun M103 =>
 sLet (sk_si M103 141 8 (mnI (80 : Int32) ((M103.1 141 8) + (1 : Int32)))) fun M124 =>
 Q M124)) sk_F ((479 : Int32), M)
def w_X8_hears_L33 (a1 : Int32) (a2 : Int32) (a3 : Int32) (s15_7 : Int32) (r25 : Int32) (Q : Int32 → sk_M → Prop) (c : (Int32 × sk_M) → Prop) (s33 : Int32 × sk_M) : Prop :=
 if (¬ ((216 : Int32) ≤ s33.1)) then (
 sLet (fun s73_43 : Int32 =>
 w_X8_isNot a1 a2 s73_43 s33.2 (fun M78 =>
 c ((s73_43 + (1 : Int32)), M78))) fun j73_43 =>
 if (¬ (s15_7 = 0)) then (
 if (¬ (s33.1 = a3)) then (
 j73_43 s33.1)
 else (
 c ((s33.1 + (1 : Int32)), s33.2)))
 else (
 if (¬ (s33.1 = a3)) then (
 w_X8_soundOf a3 s33.1 s33.2 (fun r65 =>
 if (¬ (r65 = r25)) then (
 j73_43 s33.1)
 else (
 c ((s33.1 + (1 : Int32)), s33.2))))
 else (
 j73_43 s33.1)))
 else (
 (s15_7 = 0 ∨ s15_7 = 1) ∧ Q s15_7 s33.2)
def w_X8_hears (a1 : Int32) (a2 : Int32) (a3 : Int32) (M : sk_M) (Q : Int32 → sk_M → Prop) : Prop :=
 w_X8_of a2 (0 : Int32) M (fun r4 =>
 sLet (if (a3 = r4) then (1 : Int32) else (0 : Int32) : Int32) fun s15_7 =>
 w_X8_of a2 (0 : Int32) M (fun r22 =>
 w_X8_soundOf a3 r22 M (fun r25 =>
 lp (w_X8_hears_L33 a1 a2 a3 s15_7 r25 Q) sk_F ((0 : Int32), M))))
def w_X8_isAlone (a1 : Int32) (a2 : Int32) (a3 : Int32) (M : sk_M) (Q : sk_M → Prop) : Prop :=
 vp_in ((f_X8_at a1 a2) + (a3 / (64 : Int32))) 144 ∧
 vp_in ((f_X8_at a1 a2) + (a3 / (64 : Int32))) 144 ∧ sLet (sk_sl M 146 ((f_X8_at a1 a2) + (a3 / (64 : Int32))).toNatClampNeg ((M.2 146 ((f_X8_at a1 a2) + (a3 / (64 : Int32))).toNatClampNeg) ||| ((1 : Int64) <<< ((rmI a3 (64 : Int32)).toInt64 &&& 63)))) fun M23 =>
 Q M23
def w_X8_turn (a1 : Int32) (a2 : Int32) (a3 : Int32) (M : sk_M) (Q : Int32 → sk_M → Prop) : Prop :=
 sLet (sk_si M 140 0 (0 : Int32)) fun M2 =>
 sLet (if (¬ ((f_X8_noPerson a1 M2) = 0) ∨ (¬ ((f_X8_noVault a2 M2) = 0) ∨ (¬ ((f_X8_noCode a3) = 0)))) then (1 : Int32) else (0 : Int32) : Int32) fun s34_11 =>
 w_X8_throwsIf s34_11 (1 : Int32) M2 (fun r35 M35 =>
 if (r35 = 0) then (
 w_X8_isGuarded a2 (M35.1 141 5) M35 (fun r50 =>
 w_X8_throwsIf r50 (2 : Int32) M35 (fun r54 M54 =>
 if (¬ (r54 = 0)) then (
 Q (0 : Int32) M54)
 else (
 w_X8_remembers M54 (fun M63 =>
 w_X8_laysClicks M63 (fun M67 =>
 w_X8_of a2 (0 : Int32) M67 (fun r75 =>
 w_X8_soundOf a3 r75 M67 (fun r78 =>
 w_X8_hears a1 a2 a3 M67 (fun r87 M87 =>
 sLet (fun s104_94 : sk_M =>
 sLet (fun s116_106 : sk_M =>
 w_X8_tells a1 a2 a3 r78 r87 s116_106 (fun M124 =>
 Q r78 M124)) fun j116_106 =>
 if (¬ (r87 = 0)) then (
 w_X8_sets a2 (3 : Int32) (1 : Int32) s104_94 (fun M113 =>
 j116_106 M113))
 else (
 j116_106 s104_94)) fun j104_94 =>
 if (¬ (r87 = 0)) then (
 w_X8_isAlone a1 a2 a3 M87 (fun M101 =>
 j104_94 M101))
 else (
 j104_94 M87))))))))))
 else (
 Q (0 : Int32) M35))
def w_X8_tell_L69 (a1 : Int32) (a2 : Int32) (a3 : Int32) (k110 : sk_M → Prop) (c : (Int32 × sk_M) → Prop) (s69 : Int32 × sk_M) : Prop :=
 if (¬ ((4 : Int32) ≤ s69.1)) then (
 vp_in ((f_X8_at a2 a3) + s69.1) 144 ∧
 vp_in ((f_X8_at a1 a3) + s69.1) 144 ∧
 vp_in ((f_X8_at a2 a3) + s69.1) 144 ∧ sLet (sk_sl s69.2 146 ((f_X8_at a2 a3) + s69.1).toNatClampNeg ((s69.2.2 146 ((f_X8_at a2 a3) + s69.1).toNatClampNeg) &&& (s69.2.2 146 ((f_X8_at a1 a3) + s69.1).toNatClampNeg))) fun M103 =>
 c ((s69.1 + (1 : Int32)), M103))
 else (
 k110 s69.2)
def w_X8_tell (a1 : Int32) (a2 : Int32) (a3 : Int32) (M : sk_M) (Q : Int32 → sk_M → Prop) : Prop :=
 sLet (sk_si M 140 0 (0 : Int32)) fun M2 =>
 sLet (if (¬ ((f_X8_noPerson a1 M2) = 0) ∨ (¬ ((f_X8_noPerson a2 M2) = 0) ∨ (¬ ((f_X8_noVault a3 M2) = 0)))) then (1 : Int32) else (0 : Int32) : Int32) fun s35_11 =>
 w_X8_throwsIf s35_11 (1 : Int32) M2 (fun r36 M36 =>
 if (r36 = 0) then (
 sLet (if (a1 = a2) then (1 : Int32) else (0 : Int32) : Int32) fun s53_45 =>
 w_X8_throwsIf s53_45 (2 : Int32) M36 (fun r54 M54 =>
 if (¬ (r54 = 0)) then (
 Q (0 : Int32) M54)
 else (
 w_X8_remembers M54 (fun M63 =>
 lp (w_X8_tell_L69 a1 a2 a3 (fun s110 : sk_M =>
 w_X8_leftOf a2 a3 s110 (fun r113 =>
 Q r113 s110))) sk_F ((0 : Int32), M63)))))
 else (
 Q (0 : Int32) M36))
def w_X8_forget (a1 : Int32) (a2 : Int32) (M : sk_M) (Q : Int32 → sk_M → Prop) : Prop :=
 sLet (sk_si M 140 0 (0 : Int32)) fun M2 =>
 sLet (if (¬ ((f_X8_noPerson a1 M2) = 0) ∨ (¬ ((f_X8_noVault a2 M2) = 0))) then (1 : Int32) else (0 : Int32) : Int32) fun s27_11 =>
 w_X8_throwsIf s27_11 (1 : Int32) M2 (fun r28 M28 =>
 if (¬ (r28 = 0)) then (
 Q (0 : Int32) M28)
 else (
 w_X8_remembers M28 (fun M37 =>
 w_X8_leftOf a1 a2 M37 (fun r43 =>
 w_X8_forgets a1 a2 M37 (fun M50 =>
 Q r43 M50)))))
def w_X8_anew (a1 : Int32) (a2 : Int32) (M : sk_M) (Q : sk_M → Prop) : Prop :=
 w_X8_sets a1 (0 : Int32) a2 M (fun M4 =>
 w_X8_sets a1 (3 : Int32) (0 : Int32) M4 (fun M11 =>
 w_X8_allForget a1 M11 (fun M16 =>
 sLet (sk_si M16 141 7 ((M16.1 141 7) + (1 : Int32))) fun M29 =>
 Q M29)))
def w_X8_change (a1 : Int32) (a2 : Int32) (M : sk_M) (Q : Int32 → sk_M → Prop) : Prop :=
 sLet (sk_si M 140 0 (0 : Int32)) fun M2 =>
 sLet (if (¬ ((f_X8_noVault a1 M2) = 0) ∨ (¬ ((f_X8_noCode a2) = 0))) then (1 : Int32) else (0 : Int32) : Int32) fun s26_11 =>
 w_X8_throwsIf s26_11 (1 : Int32) M2 (fun r27 M27 =>
 if (¬ (r27 = 0)) then (
 Q (0 : Int32) M27)
 else (
 w_X8_remembers M27 (fun M36 =>
 w_X8_of a1 (0 : Int32) M36 (fun r42 =>
 w_X8_anew a1 a2 M36 (fun M49 =>
 Q r42 M49)))))
def w_X8_guard (a1 : Int32) (a2 : Int32) (a3 : Int32) (M : sk_M) (Q : Int32 → sk_M → Prop) : Prop :=
 sLet (sk_si M 140 0 (0 : Int32)) fun M2 =>
 w_X8_throwsIf (f_X8_noVault a1 M2) (1 : Int32) M2 (fun r12 M12 =>
 if (r12 = 0) then (
 sLet (if ((f_X8_in a2 (0 : Int32) (6 : Int32)) = 0) then (1 : Int32) else (0 : Int32) : Int32) fun s34_26 =>
 w_X8_throwsIf s34_26 (2 : Int32) M12 (fun r35 M35 =>
 if (¬ (r35 = 0)) then (
 Q (0 : Int32) M35)
 else (
 w_X8_remembers M35 (fun M44 =>
 w_X8_of a1 (1 : Int32) M44 (fun r50 =>
 sLet (f_X8_has r50 a2) fun y57 =>
 w_X8_of a1 (1 : Int32) M44 (fun r65 =>
 sLet (if (¬ (a3 = 0)) then ((1 : Int32) <<< (a2 &&& 31)) else (0 : Int32) : Int32) fun s85_75 =>
 w_X8_sets a1 (1 : Int32) ((r65 &&& (((1 : Int32) <<< (a2 &&& 31)) ^^^ (-1 : Int32))) ||| s85_75) M44 (fun M86 =>
 if (¬ (y57 = a3)) then (
 Q (1 : Int32) M86)
 else (
 Q (0 : Int32) M86))))))))
 else (
 Q (0 : Int32) M12))
def w_X8_oneDay_L2  (k44 : sk_M → Prop) (c : (Int32 × sk_M) → Prop) (s2 : Int32 × sk_M) : Prop :=
 if (¬ ((f_X8_vaults s2.2) ≤ s2.1)) then (
 w_X8_draw (100 : Int32) s2.2 (fun r13 M13 =>
 if (¬ ((M13.1 141 6) ≤ r13)) then (
 w_X8_draw (216 : Int32) M13 (fun r32 M32 =>
 w_X8_anew s2.1 r32 M32 (fun M35 =>
 c ((s2.1 + (1 : Int32)), M35))))
 else (
 c ((s2.1 + (1 : Int32)), M13))))
 else (
 k44 s2.2)
def w_X8_oneDay  (M : sk_M) (Q : sk_M → Prop) : Prop :=
 lp (w_X8_oneDay_L2  (fun s44 : sk_M =>
 sLet (sk_si s44 141 5 (mnI (9999 : Int32) ((s44.1 141 5) + (1 : Int32)))) fun M63 =>
 Q M63)) sk_F ((0 : Int32), M)
def w_X8_days_L44 (a1 : Int32) (k59 : sk_M → Prop) (c : (Int32 × sk_M) → Prop) (s44 : Int32 × sk_M) : Prop :=
 if (¬ (a1 ≤ s44.1)) then (
 w_X8_oneDay s44.2 (fun M50 =>
 c ((s44.1 + (1 : Int32)), M50)))
 else (
 k59 s44.2)
def w_X8_days (a1 : Int32) (M : sk_M) (Q : Int32 → sk_M → Prop) : Prop :=
 sLet (sk_si M 140 0 (0 : Int32)) fun M2 =>
 sLet (if ((f_X8_in a1 (1 : Int32) (60 : Int32)) = 0) then (1 : Int32) else (0 : Int32) : Int32) fun s21_13 =>
 w_X8_throwsIf s21_13 (1 : Int32) M2 (fun r22 M22 =>
 if (¬ (r22 = 0)) then (
 Q (0 : Int32) M22)
 else (
 w_X8_remembers M22 (fun M31 =>
 sLet (M31.1 141 7) fun y41 =>
 lp (w_X8_days_L44 a1 (fun s59 : sk_M =>
 Q ((s59.1 141 7) - y41) s59)) sk_F ((0 : Int32), M31))))
def w_X8_partsOf_L36 (a1 : Int32) (a2 : Int32) (a3 : Int32) (k129 : (Int32 × Int32 × sk_M) → Prop) (c : (Int32 × Int32 × Int32 × sk_M) → Prop) (s36 : Int32 × Int32 × Int32 × sk_M) : Prop :=
 if (¬ ((216 : Int32) ≤ s36.2.2.1)) then (
 if (¬ (s36.2.2.1 = a3)) then (
 w_X8_canBe a1 a2 s36.2.2.1 s36.2.2.2 (fun r55 =>
 if (r55 = 0) then (
 c (s36.1, s36.2.1, (s36.2.2.1 + (1 : Int32)), s36.2.2.2))
 else (
 w_X8_soundOf a3 s36.2.2.1 s36.2.2.2 (fun r71 =>
 sLet ((3564 : Int32) + r71) fun y75 =>
 vp_in y75 7129 ∧
 vp_in y75 7129 ∧ sLet (sk_si s36.2.2.2 155 y75.toNatClampNeg ((s36.2.2.2.1 155 y75.toNatClampNeg) + (1 : Int32))) fun M87 =>
 vp_in y75 7129 ∧
 sLet (if ((M87.1 155 y75.toNatClampNeg) = (1 : Int32)) then (1 : Int32) else (0 : Int32) : Int32) fun s106_98 =>
 sLet (s36.1 + s106_98) fun y107 =>
 vp_in y75 7129 ∧
 sLet (mxI s36.2.1 (M87.1 155 y75.toNatClampNeg)) fun y121 =>
 c (y107, y121, (s36.2.2.1 + (1 : Int32)), M87)))))
 else (
 c (s36.1, s36.2.1, (s36.2.2.1 + (1 : Int32)), s36.2.2.2)))
 else (
 k129 (s36.1, s36.2.1, s36.2.2.2))
def w_X8_partsOf_L132 (a3 : Int32) (k163 : sk_M → Prop) (c : (Int32 × sk_M) → Prop) (s132 : Int32 × sk_M) : Prop :=
 if (¬ ((216 : Int32) ≤ s132.1)) then (
 w_X8_soundOf a3 s132.1 s132.2 (fun r151 =>
 vp_in ((3564 : Int32) + r151) 7129 ∧ sLet (sk_si s132.2 155 ((3564 : Int32) + r151).toNatClampNeg (0 : Int32)) fun M156 =>
 c ((s132.1 + (1 : Int32)), M156)))
 else (
 k163 s132.2)
def w_X8_partsOf (a1 : Int32) (a2 : Int32) (a3 : Int32) (a4 : Int32) (M : sk_M) (Q : Int32 → sk_M → Prop) : Prop :=
 w_X8_canBe a1 a2 a3 M (fun r4 =>
 sLet (if (¬ (r4 = 0)) then (1 : Int32) else (0 : Int32) : Int32) fun s19_11 =>
 sLet (if (¬ (r4 = 0)) then (1 : Int32) else (0 : Int32) : Int32) fun s31_23 =>
 lp (w_X8_partsOf_L36 a1 a2 a3 (fun s129 : Int32 × Int32 × sk_M =>
 lp (w_X8_partsOf_L132 a3 (fun s163 : sk_M =>
 if (¬ (a4 = 0)) then (
 Q s129.2.1 s163)
 else (
 Q s129.1 s163))) sk_F ((0 : Int32), s129.2.2))) sk_F (s19_11, s31_23, (0 : Int32), M))
def w_X8_parts (a1 : Int32) (a2 : Int32) (a3 : Int32) (a4 : Int32) (M : sk_M) (Q : Int32 → sk_M → Prop) : Prop :=
 sLet (sk_si M 140 0 (0 : Int32)) fun M2 =>
 sLet (if (¬ ((f_X8_noPerson a1 M2) = 0) ∨ (¬ ((f_X8_noVault a2 M2) = 0) ∨ (¬ ((f_X8_noCode a3) = 0)))) then (1 : Int32) else (0 : Int32) : Int32) fun s34_11 =>
 w_X8_throwsIf s34_11 (1 : Int32) M2 (fun r35 M35 =>
 if (¬ (r35 = 0)) then (
 Q (0 : Int32) M35)
 else (
 w_X8_laysClicks M35 (fun M44 =>
 w_X8_partsOf a1 a2 a3 a4 M44 (fun r53 M53 =>
 Q r53 M53))))
def w_X8_nextOf_L10 (a1 : Int32) (a2 : Int32) (Q : Int32 → sk_M → Prop) (c : (Int32 × Int32 × Int32 × sk_M) → Prop) (s10 : Int32 × Int32 × Int32 × sk_M) : Prop :=
 if (¬ ((216 : Int32) ≤ s10.2.2.1)) then (
 w_X8_partsOf a1 a2 s10.2.2.1 (1 : Int32) s10.2.2.2 (fun r25 M25 =>
 w_X8_canBe a1 a2 s10.2.2.1 M25 (fun r34 =>
 sLet (if (¬ (r34 = 0)) then (0 : Int32) else (1 : Int32) : Int32) fun s45_37 =>
 sLet (((2 : Int32) * r25) + s45_37) fun y46 =>
 if (¬ (y46 < s10.2.1)) then (
 c (s10.1, s10.2.1, (s10.2.2.1 + (1 : Int32)), M25))
 else (
 c (s10.2.2.1, y46, (s10.2.2.1 + (1 : Int32)), M25)))))
 else (
 Q s10.1 s10.2.2.2)
def w_X8_nextOf (a1 : Int32) (a2 : Int32) (M : sk_M) (Q : Int32 → sk_M → Prop) : Prop :=
 lp (w_X8_nextOf_L10 a1 a2 Q) sk_F ((-1 : Int32), (1000000 : Int32), (0 : Int32), M)
def w_X8_next (a1 : Int32) (a2 : Int32) (M : sk_M) (Q : Int32 → sk_M → Prop) : Prop :=
 sLet (sk_si M 140 0 (0 : Int32)) fun M2 =>
 sLet (if (¬ ((f_X8_noPerson a1 M2) = 0) ∨ (¬ ((f_X8_noVault a2 M2) = 0))) then (1 : Int32) else (0 : Int32) : Int32) fun s27_11 =>
 w_X8_throwsIf s27_11 (1 : Int32) M2 (fun r28 M28 =>
 if (¬ (r28 = 0)) then (
 Q (0 : Int32) M28)
 else (
 w_X8_laysClicks M28 (fun M37 =>
 w_X8_nextOf a1 a2 M37 (fun r43 M43 =>
 Q r43 M43))))
def w_X8_outright_L42 (a1 : Int32) (a2 : Int32) (Q : Int32 → sk_M → Prop) (c : (Int32 × sk_M) → Prop) (s42 : Int32 × sk_M) : Prop :=
 if (¬ ((216 : Int32) ≤ s42.1)) then (
 w_X8_partsOf a1 a2 s42.1 (1 : Int32) s42.2 (fun r54 M54 =>
 if (¬ ((1 : Int32) < r54)) then (
 Q s42.1 M54)
 else (
 c ((s42.1 + (1 : Int32)), M54))))
 else (
 Q (-1 : Int32) s42.2)
def w_X8_outright (a1 : Int32) (a2 : Int32) (M : sk_M) (Q : Int32 → sk_M → Prop) : Prop :=
 sLet (sk_si M 140 0 (0 : Int32)) fun M2 =>
 sLet (if (¬ ((f_X8_noPerson a1 M2) = 0) ∨ (¬ ((f_X8_noVault a2 M2) = 0))) then (1 : Int32) else (0 : Int32) : Int32) fun s27_11 =>
 w_X8_throwsIf s27_11 (1 : Int32) M2 (fun r28 M28 =>
 if (¬ (r28 = 0)) then (
 Q (0 : Int32) M28)
 else (
 w_X8_laysClicks M28 (fun M37 =>
 lp (w_X8_outright_L42 a1 a2 Q) sk_F ((0 : Int32), M37))))
def w_X8_worstBy_L41 (a1 : Int32) (a2 : Int32) (s5 : Int32 × Int32) (M : sk_M) (k114 : Int32 → Prop) (c : (Int32 × Int32) → Prop) (s41 : Int32 × Int32) : Prop :=
 if (¬ ((6 : Int32) ≤ s41.2)) then (
 if (¬ ((f_X8_has a1 s41.2) = 0)) then (
 vp_in s41.2 6 ∧
 if (¬ ((M.1 156 s41.2.toNatClampNeg) = a2)) then (
 vp_in s41.2 6 ∧
 w_X8_soundOf a2 (M.1 156 s41.2.toNatClampNeg) M (fun r79 =>
 vp_in s5.2 6 ∧
 w_X8_soundOf a2 (M.1 156 s5.2.toNatClampNeg) M (fun r91 =>
 if (r79 = r91) then (
 sLet (s41.1 ||| ((1 : Int32) <<< (s41.2 &&& 31))) fun y106 =>
 c (y106, (s41.2 + (1 : Int32))))
 else (
 sLet (s41.1 ||| (0 : Int32)) fun y106 =>
 c (y106, (s41.2 + (1 : Int32)))))))
 else (
 sLet (s41.1 ||| (0 : Int32)) fun y106 =>
 c (y106, (s41.2 + (1 : Int32)))))
 else (
 sLet (s41.1 ||| (0 : Int32)) fun y106 =>
 c (y106, (s41.2 + (1 : Int32)))))
 else (
 k114 s41.1)
def w_X8_worstBy_L5 (a1 : Int32) (a2 : Int32) (M : sk_M) (Q : Int32 → Prop) (c : (Int32 × Int32) → Prop) (s5 : Int32 × Int32) : Prop :=
 if (¬ ((6 : Int32) ≤ s5.2)) then (
 if (¬ ((f_X8_has a1 s5.2) = 0)) then (
 vp_in s5.2 6 ∧
 if ((M.1 156 s5.2.toNatClampNeg) = a2) then (
 c (s5.1, (s5.2 + (1 : Int32))))
 else (
 lp (w_X8_worstBy_L41 a1 a2 s5 M (fun s114 : Int32 =>
 if (s114 = a1) then (
 sLet (mxI s5.1 (1000000 : Int32)) fun y137 =>
 c (y137, (s5.2 + (1 : Int32))))
 else (
 vp_in s114 64 ∧
 sLet (mxI s5.1 (M.1 157 s114.toNatClampNeg)) fun y137 =>
 c (y137, (s5.2 + (1 : Int32)))))) sk_F ((0 : Int32), (0 : Int32))))
 else (
 c (s5.1, (s5.2 + (1 : Int32)))))
 else (
 Q s5.1)
def w_X8_worstBy (a1 : Int32) (a2 : Int32) (M : sk_M) (Q : Int32 → Prop) : Prop :=
 lp (w_X8_worstBy_L5 a1 a2 M Q) sk_F ((0 : Int32), (0 : Int32))
def w_X8_worst_L62 (a1 : Int32) (a2 : Int32) (k102 : sk_M → Prop) (c : (Int32 × Int32 × sk_M) → Prop) (s62 : Int32 × Int32 × sk_M) : Prop :=
 if (¬ ((216 : Int32) ≤ s62.2.1)) then (
 w_X8_canBe a1 a2 s62.2.1 s62.2.2 (fun r75 =>
 if (r75 = 0) then (
 c (s62.1, (s62.2.1 + (1 : Int32)), s62.2.2))
 else (
 vp_in s62.1 6 ∧ sLet (sk_si s62.2.2 156 s62.1.toNatClampNeg s62.2.1) fun M92 =>
 c ((s62.1 + (1 : Int32)), (s62.2.1 + (1 : Int32)), M92))))
 else (
 k102 s62.2.2)
def w_X8_worst_L126 (s105 : Int32 × sk_M) (k167 : sk_M → Prop) (c : (Int32 × sk_M) → Prop) (s126 : Int32 × sk_M) : Prop :=
 if (¬ ((216 : Int32) ≤ s126.1)) then (
 vp_in s105.1 64 ∧
 w_X8_worstBy s105.1 s126.1 s126.2 (fun r153 =>
 vp_in s105.1 64 ∧ sLet (sk_si s126.2 157 s105.1.toNatClampNeg (mnI (s126.2.1 157 s105.1.toNatClampNeg) ((1 : Int32) + r153))) fun M160 =>
 c ((s126.1 + (1 : Int32)), M160)))
 else (
 k167 s126.2)
def w_X8_worst_L105 (r39 : Int32) (k173 : sk_M → Prop) (c : (Int32 × sk_M) → Prop) (s105 : Int32 × sk_M) : Prop :=
 if (¬ (((1 : Int32) <<< (r39 &&& 31)) ≤ s105.1)) then (
 vp_in s105.1 64 ∧ sLet (sk_si s105.2 157 s105.1.toNatClampNeg (1000000 : Int32)) fun M122 =>
 lp (w_X8_worst_L126 s105 (fun s167 : sk_M =>
 c ((s105.1 + (1 : Int32)), s167))) sk_F ((0 : Int32), M122))
 else (
 k173 s105.2)
def w_X8_worst (a1 : Int32) (a2 : Int32) (M : sk_M) (Q : Int32 → sk_M → Prop) : Prop :=
 sLet (sk_si M 140 0 (0 : Int32)) fun M2 =>
 sLet (if (¬ ((f_X8_noPerson a1 M2) = 0) ∨ (¬ ((f_X8_noVault a2 M2) = 0))) then (1 : Int32) else (0 : Int32) : Int32) fun s27_11 =>
 w_X8_throwsIf s27_11 (1 : Int32) M2 (fun r28 M28 =>
 if (¬ (r28 = 0)) then (
 Q (0 : Int32) M28)
 else (
 w_X8_leftOf a1 a2 M28 (fun r39 =>
 if (¬ (r39 ≤ (6 : Int32))) then (
 Q (-3 : Int32) M28)
 else (
 w_X8_laysClicks M28 (fun M53 =>
 lp (w_X8_worst_L62 a1 a2 (fun s102 : sk_M =>
 lp (w_X8_worst_L105 r39 (fun s173 : sk_M =>
 vp_in (((1 : Int32) <<< (r39 &&& 31)) - (1 : Int32)) 64 ∧
 Q (s173.1 157 (((1 : Int32) <<< (r39 &&& 31)) - (1 : Int32)).toNatClampNeg) s173)) sk_F ((1 : Int32), s102))) sk_F ((0 : Int32), (0 : Int32), M53))))))
def w_X8_sharedBy_L5 (a1 : Int32) (a2 : Int32) (M : sk_M) (Q : Int32 → Prop) (c : (Int32 × Int32) → Prop) (s5 : Int32 × Int32) : Prop :=
 if (¬ ((216 : Int32) ≤ s5.2)) then (
 if (¬ (s5.2 = a1)) then (
 w_X8_soundOf a1 s5.2 M (fun r24 =>
 w_X8_soundOf a1 a2 M (fun r30 =>
 if (r24 = r30) then (
 sLet (s5.1 + (1 : Int32)) fun y42 =>
 c (y42, (s5.2 + (1 : Int32))))
 else (
 sLet (s5.1 + (0 : Int32)) fun y42 =>
 c (y42, (s5.2 + (1 : Int32)))))))
 else (
 sLet (s5.1 + (0 : Int32)) fun y42 =>
 c (y42, (s5.2 + (1 : Int32)))))
 else (
 Q s5.1)
def w_X8_sharedBy (a1 : Int32) (a2 : Int32) (M : sk_M) (Q : Int32 → Prop) : Prop :=
 lp (w_X8_sharedBy_L5 a1 a2 M Q) sk_F ((0 : Int32), (0 : Int32))
def w_X8_quietest_L30 (a1 : Int32) (M20 : sk_M) (Q : Int32 → sk_M → Prop) (c : (Int32 × Int32 × Int32) → Prop) (s30 : Int32 × Int32 × Int32) : Prop :=
 if (¬ ((216 : Int32) ≤ s30.2.2)) then (
 sLet (fun s55_41 : Int32 =>
 if (¬ (s30.2.1 < s55_41)) then (
 c (s30.1, s30.2.1, (s30.2.2 + (1 : Int32))))
 else (
 c (s30.2.2, s55_41, (s30.2.2 + (1 : Int32))))) fun j55_41 =>
 if (s30.2.2 = a1) then (
 j55_41 (0 : Int32))
 else (
 w_X8_sharedBy a1 s30.2.2 M20 (fun r52 =>
 j55_41 r52)))
 else (
 Q s30.1 M20)
def w_X8_quietest (a1 : Int32) (M : sk_M) (Q : Int32 → sk_M → Prop) : Prop :=
 sLet (sk_si M 140 0 (0 : Int32)) fun M2 =>
 w_X8_throwsIf (f_X8_noCode a1) (1 : Int32) M2 (fun r11 M11 =>
 if (¬ (r11 = 0)) then (
 Q (0 : Int32) M11)
 else (
 w_X8_laysClicks M11 (fun M20 =>
 lp (w_X8_quietest_L30 a1 M20 Q) sk_F ((-1 : Int32), (0 : Int32), (0 : Int32)))))
def w_X8_rangeOf_L11 (a1 : Int32) (M : sk_M) (Q : Int32 → Prop) (c : (Int32 × Int32 × Int32) → Prop) (s11 : Int32 × Int32 × Int32) : Prop :=
 if (¬ ((216 : Int32) ≤ s11.2.2)) then (
 w_X8_soundOf a1 s11.2.2 M (fun r24 =>
 sLet (mxI s11.1 r24) fun y30 =>
 w_X8_soundOf a1 s11.2.2 M (fun r36 =>
 sLet (mnI s11.2.1 r36) fun y42 =>
 c (y30, y42, (s11.2.2 + (1 : Int32))))))
 else (
 Q (s11.1 - s11.2.1))
def w_X8_rangeOf (a1 : Int32) (M : sk_M) (Q : Int32 → Prop) : Prop :=
 lp (w_X8_rangeOf_L11 a1 M Q) sk_F ((-1000000 : Int32), (1000000 : Int32), (0 : Int32))
def w_X8_loudest_L13 (M6 : sk_M) (Q : Int32 → sk_M → Prop) (c : (Int32 × Int32) → Prop) (s13 : Int32 × Int32) : Prop :=
 if (¬ ((216 : Int32) ≤ s13.2)) then (
 w_X8_rangeOf s13.2 M6 (fun r22 =>
 w_X8_rangeOf s13.1 M6 (fun r27 =>
 if (¬ (r22 ≤ r27)) then (
 c (s13.2, (s13.2 + (1 : Int32))))
 else (
 c (s13.1, (s13.2 + (1 : Int32)))))))
 else (
 Q s13.1 M6)
def w_X8_loudest  (M : sk_M) (Q : Int32 → sk_M → Prop) : Prop :=
 sLet (sk_si M 140 0 (0 : Int32)) fun M2 =>
 w_X8_laysClicks M2 (fun M6 =>
 lp (w_X8_loudest_L13 M6 Q) sk_F ((0 : Int32), (1 : Int32)))
def w_X8_deaf_L33 (M6 : sk_M) (s13 : Int32 × Int32) (s23 : Int32 × Int32) (k84 : Int32 → Prop) (c : (Int32 × Int32) → Prop) (s33 : Int32 × Int32) : Prop :=
 if (¬ ((6 : Int32) ≤ s33.2)) then (
 if (¬ (s33.1 = 0)) then (
 vp_in (f_X8_clickAt s13.2 s23.2 s33.2) 108 ∧
 vp_in (f_X8_clickAt s13.2 s23.2 (0 : Int32)) 108 ∧
 if ((M6.1 154 (f_X8_clickAt s13.2 s23.2 s33.2).toNatClampNeg) = (M6.1 154 (f_X8_clickAt s13.2 s23.2 (0 : Int32)).toNatClampNeg)) then (
 c ((1 : Int32), (s33.2 + (1 : Int32))))
 else (
 c ((0 : Int32), (s33.2 + (1 : Int32)))))
 else (
 c ((0 : Int32), (s33.2 + (1 : Int32)))))
 else (
 k84 s33.1)
def w_X8_deaf_L23 (M6 : sk_M) (s13 : Int32 × Int32) (k90 : Int32 → Prop) (c : (Int32 × Int32) → Prop) (s23 : Int32 × Int32) : Prop :=
 if (¬ ((6 : Int32) ≤ s23.2)) then (
 lp (w_X8_deaf_L33 M6 s13 s23 (fun s84 : Int32 =>
 c (s84, (s23.2 + (1 : Int32))))) sk_F (s23.1, (1 : Int32)))
 else (
 k90 s23.1)
def w_X8_deaf_L13 (M6 : sk_M) (Q : Int32 → sk_M → Prop) (c : (Int32 × Int32) → Prop) (s13 : Int32 × Int32) : Prop :=
 if (¬ ((3 : Int32) ≤ s13.2)) then (
 lp (w_X8_deaf_L23 M6 s13 (fun s90 : Int32 =>
 if (¬ (s90 = 0)) then (
 sLet (s13.1 ||| ((1 : Int32) <<< (s13.2 &&& 31))) fun y103 =>
 c (y103, (s13.2 + (1 : Int32))))
 else (
 sLet (s13.1 ||| (0 : Int32)) fun y103 =>
 c (y103, (s13.2 + (1 : Int32)))))) sk_F ((1 : Int32), (0 : Int32)))
 else (
 Q s13.1 M6)
def w_X8_deaf  (M : sk_M) (Q : Int32 → sk_M → Prop) : Prop :=
 sLet (sk_si M 140 0 (0 : Int32)) fun M2 =>
 w_X8_laysClicks M2 (fun M6 =>
 lp (w_X8_deaf_L13 M6 Q) sk_F ((0 : Int32), (0 : Int32)))
def w_X8_leftBy_L31 (a1 : Int32) (a2 : Int32) (s5 : Int32 × Int32) (M : sk_M) (k80 : Int64 → Prop) (c : (Int64 × Int32) → Prop) (s31 : Int64 × Int32) : Prop :=
 if (¬ ((f_X8_people M) ≤ s31.2)) then (
 if (¬ ((f_X8_has a1 s31.2) = 0)) then (
 vp_in ((f_X8_at s31.2 a2) + s5.2) 144 ∧
 sLet (s31.1 &&& (M.2 146 ((f_X8_at s31.2 a2) + s5.2).toNatClampNeg)) fun y72 =>
 c (y72, (s31.2 + (1 : Int32))))
 else (
 sLet (s31.1 &&& (-1 : Int64)) fun y72 =>
 c (y72, (s31.2 + (1 : Int32)))))
 else (
 k80 s31.1)
def w_X8_leftBy_L5 (a1 : Int32) (a2 : Int32) (M : sk_M) (Q : Int32 → Prop) (c : (Int32 × Int32) → Prop) (s5 : Int32 × Int32) : Prop :=
 if (¬ ((4 : Int32) ≤ s5.2)) then (
 sLet (if (¬ ((3 : Int32) ≤ s5.2)) then (-1 : Int64) else (16777215 : Int64) : Int64) fun s26_14 =>
 lp (w_X8_leftBy_L31 a1 a2 s5 M (fun s80 : Int64 =>
 sLet (s5.1 + (bc64 s80)) fun y87 =>
 c (y87, (s5.2 + (1 : Int32))))) sk_F (s26_14, (0 : Int32)))
 else (
 Q s5.1)
def w_X8_leftBy (a1 : Int32) (a2 : Int32) (M : sk_M) (Q : Int32 → Prop) : Prop :=
 lp (w_X8_leftBy_L5 a1 a2 M Q) sk_F ((0 : Int32), (0 : Int32))
def w_X8_alone_L24 (a1 : Int32) (M12 : sk_M) (Q : Int32 → sk_M → Prop) (c : (Int32 × Int32) → Prop) (s24 : Int32 × Int32) : Prop :=
 if (¬ ((f_X8_people M12) ≤ s24.2)) then (
 w_X8_leftOf s24.2 a1 M12 (fun r36 =>
 if (r36 = (1 : Int32)) then (
 sLet (s24.1 ||| ((1 : Int32) <<< (s24.2 &&& 31))) fun y51 =>
 c (y51, (s24.2 + (1 : Int32))))
 else (
 sLet (s24.1 ||| (0 : Int32)) fun y51 =>
 c (y51, (s24.2 + (1 : Int32))))))
 else (
 Q s24.1 M12)
def w_X8_alone (a1 : Int32) (M : sk_M) (Q : Int32 → sk_M → Prop) : Prop :=
 sLet (sk_si M 140 0 (0 : Int32)) fun M2 =>
 w_X8_throwsIf (f_X8_noVault a1 M2) (1 : Int32) M2 (fun r12 M12 =>
 if (¬ (r12 = 0)) then (
 Q (0 : Int32) M12)
 else (
 lp (w_X8_alone_L24 a1 M12 Q) sk_F ((0 : Int32), (0 : Int32))))
def f_X8_allPeople  (M : sk_M) : Int32 :=
 (((1 : Int32) <<< ((f_X8_people M) &&& 31)) - (1 : Int32))
def w_X8_together (a1 : Int32) (a2 : Int32) (M : sk_M) (Q : Int32 → sk_M → Prop) : Prop :=
 sLet (sk_si M 140 0 (0 : Int32)) fun M2 =>
 w_X8_throwsIf (f_X8_noVault a2 M2) (1 : Int32) M2 (fun r12 M12 =>
 if (r12 = 0) then (
 w_X8_leftBy (a1 &&& (f_X8_allPeople M12)) a2 M12 (fun r26 =>
 if (r26 = (1 : Int32)) then (
 Q (1 : Int32) M12)
 else (
 Q (0 : Int32) M12)))
 else (
 Q (0 : Int32) M12))
def w_X8_fewest_L39 (a1 : Int32) (a2 : Int32) (M12 : sk_M) (Q : Int32 → sk_M → Prop) (c : (Int32 × Int32) → Prop) (s39 : Int32 × Int32) : Prop :=
 if (¬ (s39.2 < 0)) then (
 sLet (fun s90_45 : Int32 =>
 if (¬ (s90_45 = 0) ∧ ((s39.1 < 0) ∨ (¬ ((bc32 s39.1) < (bc32 s39.2))))) then (
 c (s39.2, (s39.2 + (-1 : Int32))))
 else (
 c (s39.1, (s39.2 + (-1 : Int32))))) fun j90_45 =>
 if (¬ (a2 = 0)) then (
 w_X8_leftBy ((f_X8_allPeople M12) &&& (s39.2 ^^^ (-1 : Int32))) a1 M12 (fun r59 =>
 if (¬ (r59 = (1 : Int32))) then (
 j90_45 (1 : Int32))
 else (
 j90_45 (0 : Int32))))
 else (
 w_X8_leftBy s39.2 a1 M12 (fun r78 =>
 if (r78 = (1 : Int32)) then (
 j90_45 (1 : Int32))
 else (
 j90_45 (0 : Int32)))))
 else (
 Q s39.1 M12)
def w_X8_fewest (a1 : Int32) (a2 : Int32) (M : sk_M) (Q : Int32 → sk_M → Prop) : Prop :=
 sLet (sk_si M 140 0 (0 : Int32)) fun M2 =>
 w_X8_throwsIf (f_X8_noVault a1 M2) (1 : Int32) M2 (fun r12 M12 =>
 if (¬ (r12 = 0)) then (
 Q (0 : Int32) M12)
 else (
 sLet (if (¬ (a2 = 0)) then (f_X8_allPeople M12) else (-1 : Int32) : Int32) fun s32_21 =>
 sLet (f_X8_allPeople M12) fun y37 =>
 lp (w_X8_fewest_L39 a1 a2 M12 Q) sk_F (s32_21, y37)))
def w_X8_pair_L44 (a1 : Int32) (M12 : sk_M) (s29 : Int32 × Int32 × Int32) (k96 : (Int32 × Int32) → Prop) (c : (Int32 × Int32 × Int32) → Prop) (s44 : Int32 × Int32 × Int32) : Prop :=
 if (¬ ((f_X8_people M12) ≤ s44.2.2)) then (
 w_X8_leftBy (((1 : Int32) <<< (s29.2.2 &&& 31)) ||| ((1 : Int32) <<< (s44.2.2 &&& 31))) a1 M12 (fun r64 =>
 if (¬ (r64 < s44.2.1)) then (
 c (s44.1, s44.2.1, (s44.2.2 + (1 : Int32))))
 else (
 sLet (((10 : Int32) * s29.2.2) + s44.2.2) fun y86 =>
 c (y86, r64, (s44.2.2 + (1 : Int32))))))
 else (
 k96 (s44.1, s44.2.1))
def w_X8_pair_L29 (a1 : Int32) (M12 : sk_M) (Q : Int32 → sk_M → Prop) (c : (Int32 × Int32 × Int32) → Prop) (s29 : Int32 × Int32 × Int32) : Prop :=
 if (¬ ((f_X8_people M12) ≤ s29.2.2)) then (
 sLet (s29.2.2 + (1 : Int32)) fun y42 =>
 lp (w_X8_pair_L44 a1 M12 s29 (fun s96 : Int32 × Int32 =>
 c (s96.1, s96.2, (s29.2.2 + (1 : Int32))))) sk_F (s29.1, s29.2.1, y42))
 else (
 Q s29.1 M12)
def w_X8_pair (a1 : Int32) (M : sk_M) (Q : Int32 → sk_M → Prop) : Prop :=
 sLet (sk_si M 140 0 (0 : Int32)) fun M2 =>
 w_X8_throwsIf (f_X8_noVault a1 M2) (1 : Int32) M2 (fun r12 M12 =>
 if (¬ (r12 = 0)) then (
 Q (0 : Int32) M12)
 else (
 lp (w_X8_pair_L29 a1 M12 Q) sk_F ((-1 : Int32), (1000000 : Int32), (0 : Int32))))
def w_X8_gains (a1 : Int32) (a2 : Int32) (a3 : Int32) (M : sk_M) (Q : Int32 → sk_M → Prop) : Prop :=
 sLet (sk_si M 140 0 (0 : Int32)) fun M2 =>
 sLet (if (¬ ((f_X8_noPerson a1 M2) = 0) ∨ (¬ ((f_X8_noPerson a2 M2) = 0) ∨ (¬ ((f_X8_noVault a3 M2) = 0)))) then (1 : Int32) else (0 : Int32) : Int32) fun s35_11 =>
 w_X8_throwsIf s35_11 (1 : Int32) M2 (fun r36 M36 =>
 if (r36 = 0) then (
 sLet (if (a1 = a2) then (1 : Int32) else (0 : Int32) : Int32) fun s53_45 =>
 w_X8_throwsIf s53_45 (2 : Int32) M36 (fun r54 M54 =>
 if (¬ (r54 = 0)) then (
 Q (0 : Int32) M54)
 else (
 w_X8_leftOf a1 a3 M54 (fun r65 =>
 w_X8_leftBy (((1 : Int32) <<< (a1 &&& 31)) ||| ((1 : Int32) <<< (a2 &&& 31))) a3 M54 (fun r77 =>
 Q (r65 - r77) M54)))))
 else (
 Q (0 : Int32) M36))
def w_X8_areQuarrel (a1 : Int32) (a2 : Int32) (M : sk_M) (Q : Int32 → Prop) : Prop :=
 w_X8_ofContract a1 (1 : Int32) M (fun r3 =>
 w_X8_ofContract a2 (1 : Int32) M (fun r9 =>
 if (r3 = r9) then (
 w_X8_ofContract a1 (2 : Int32) M (fun r18 =>
 w_X8_ofContract a2 (2 : Int32) M (fun r24 =>
 if (r18 = r24) then (
 w_X8_ofContract a1 (0 : Int32) M (fun r33 =>
 w_X8_ofContract a2 (0 : Int32) M (fun r39 =>
 if (¬ (r33 = r39)) then (
 Q (1 : Int32))
 else (
 Q (0 : Int32)))))
 else (
 Q (0 : Int32)))))
 else (
 Q (0 : Int32))))
def w_X8_quarrelsOf_L4 (a1 : Int32) (M : sk_M) (Q : Int32 → Prop) (c : (Int32 × Int32) → Prop) (s4 : Int32 × Int32) : Prop :=
 if (¬ ((f_X8_contracts M) ≤ s4.2)) then (
 w_X8_areQuarrel a1 s4.2 M (fun r16 =>
 if (¬ (r16 = 0)) then (
 sLet (s4.1 ||| ((1 : Int32) <<< (s4.2 &&& 31))) fun y30 =>
 c (y30, (s4.2 + (1 : Int32))))
 else (
 sLet (s4.1 ||| (0 : Int32)) fun y30 =>
 c (y30, (s4.2 + (1 : Int32))))))
 else (
 Q s4.1)
def w_X8_quarrelsOf (a1 : Int32) (M : sk_M) (Q : Int32 → Prop) : Prop :=
 lp (w_X8_quarrelsOf_L4 a1 M Q) sk_F ((0 : Int32), (0 : Int32))
def w_X8_contract (a1 : Int32) (a2 : Int32) (M : sk_M) (Q : Int32 → sk_M → Prop) : Prop :=
 sLet (sk_si M 140 0 (0 : Int32)) fun M2 =>
 sLet (if ((f_X8_in a1 (0 : Int32) ((f_X8_contracts M2) - (1 : Int32))) = 0) then (1 : Int32) else (0 : Int32) : Int32) fun s25_17 =>
 w_X8_throwsIf s25_17 (1 : Int32) M2 (fun r26 M26 =>
 if (r26 = 0) then (
 sLet (if ((f_X8_in a2 (0 : Int32) (4 : Int32)) = 0) then (1 : Int32) else (0 : Int32) : Int32) fun s47_39 =>
 w_X8_throwsIf s47_39 (2 : Int32) M26 (fun r48 M48 =>
 if (¬ (r48 = 0)) then (
 Q (0 : Int32) M48)
 else (
 if (a2 = (4 : Int32)) then (
 w_X8_quarrelsOf a1 M48 (fun r63 =>
 Q r63 M48))
 else (
 w_X8_ofContract a1 a2 M48 (fun r72 =>
 Q r72 M48)))))
 else (
 Q (0 : Int32) M26))
def w_X8_ofLog (a1 : Int32) (a2 : Int32) (M : sk_M) (Q : Int32 → Prop) : Prop :=
 vp_in (((82 : Int32) + ((6 : Int32) * a1)) + a2) 2260 ∧
 Q (M.1 141 (((82 : Int32) + ((6 : Int32) * a1)) + a2).toNatClampNeg)
def w_X8_isLogged_L5 (a1 : Int32) (a2 : Int32) (M : sk_M) (Q : Int32 → Prop) (c : (Int32 × Int32) → Prop) (s5 : Int32 × Int32) : Prop :=
 if (¬ ((M.1 141 8) ≤ s5.2)) then (
 w_X8_ofLog s5.2 (1 : Int32) M (fun r21 =>
 w_X8_ofContract a1 (1 : Int32) M (fun r27 =>
 sLet (fun s54_30 : Int32 =>
 if (s5.1 = 0) then (
 if (¬ (s54_30 = 0)) then (
 if (¬ (a2 = 0)) then (
 w_X8_ofLog s5.2 (5 : Int32) M (fun r73 =>
 if (r73 = (1 : Int32)) then (
 w_X8_ofLog s5.2 (0 : Int32) M (fun r84 =>
 w_X8_ofContract a1 (3 : Int32) M (fun r90 =>
 if (¬ (r90 < r84)) then (
 c ((1 : Int32), (s5.2 + (1 : Int32))))
 else (
 c ((0 : Int32), (s5.2 + (1 : Int32)))))))
 else (
 c ((0 : Int32), (s5.2 + (1 : Int32))))))
 else (
 c ((1 : Int32), (s5.2 + (1 : Int32)))))
 else (
 c ((0 : Int32), (s5.2 + (1 : Int32)))))
 else (
 c ((1 : Int32), (s5.2 + (1 : Int32))))) fun j54_30 =>
 sLet (fun s53_30 : Unit =>
 j54_30 (0 : Int32)) fun j53_30 =>
 if (r21 = r27) then (
 w_X8_ofLog s5.2 (2 : Int32) M (fun r37 =>
 w_X8_ofContract a1 (2 : Int32) M (fun r43 =>
 if (r37 = r43) then (
 j54_30 (1 : Int32))
 else (
 j53_30 ()))))
 else (
 j53_30 ()))))
 else (
 (s5.1 = 0 ∨ s5.1 = 1) ∧ Q s5.1)
def w_X8_isLogged (a1 : Int32) (a2 : Int32) (M : sk_M) (Q : Int32 → Prop) : Prop :=
 lp (w_X8_isLogged_L5 a1 a2 M Q) sk_F ((0 : Int32), (0 : Int32))
def w_X8_broken_L9 (M2 : sk_M) (Q : Int32 → sk_M → Prop) (c : (Int32 × Int32) → Prop) (s9 : Int32 × Int32) : Prop :=
 if (¬ ((f_X8_contracts M2) ≤ s9.2)) then (
 w_X8_ofContract s9.2 (0 : Int32) M2 (fun r20 =>
 sLet (if (r20 = (1 : Int32)) then (1 : Int32) else (0 : Int32) : Int32) fun s32_24 =>
 sLet (fun s75_34 : Int32 =>
 if (¬ (s75_34 = 0)) then (
 sLet (s9.1 ||| ((1 : Int32) <<< (s9.2 &&& 31))) fun y91 =>
 c (y91, (s9.2 + (1 : Int32))))
 else (
 sLet (s9.1 ||| (0 : Int32)) fun y91 =>
 c (y91, (s9.2 + (1 : Int32))))) fun j75_34 =>
 if (¬ (s32_24 = 0)) then (
 w_X8_ofContract s9.2 (3 : Int32) M2 (fun r46 =>
 if (¬ ((M2.1 141 5) ≤ r46)) then (
 w_X8_isLogged s9.2 (1 : Int32) M2 (fun r55 =>
 if (r55 = 0) then (
 j75_34 (1 : Int32))
 else (
 j75_34 (0 : Int32))))
 else (
 j75_34 (0 : Int32))))
 else (
 w_X8_isLogged s9.2 (0 : Int32) M2 (fun r72 =>
 j75_34 r72))))
 else (
 Q s9.1 M2)
def w_X8_broken  (M : sk_M) (Q : Int32 → sk_M → Prop) : Prop :=
 sLet (sk_si M 140 0 (0 : Int32)) fun M2 =>
 lp (w_X8_broken_L9 M2 Q) sk_F ((0 : Int32), (0 : Int32))
def w_X8_isPeace_L4 (a1 : Int32) (M : sk_M) (Q : Int32 → Prop) (c : (Int32 × Int32) → Prop) (s4 : Int32 × Int32) : Prop :=
 if (¬ ((f_X8_contracts M) ≤ s4.2) ∧ (¬ (s4.1 = 0))) then (
 if ((f_X8_has a1 s4.2) = 0) then (
 w_X8_quarrelsOf s4.2 M (fun r26 =>
 if ((r26 &&& (a1 ^^^ (-1 : Int32))) = 0) then (
 c ((1 : Int32), (s4.2 + (1 : Int32))))
 else (
 c ((0 : Int32), (s4.2 + (1 : Int32))))))
 else (
 c ((1 : Int32), (s4.2 + (1 : Int32)))))
 else (
 (s4.1 = 0 ∨ s4.1 = 1) ∧ Q s4.1)
def w_X8_isPeace (a1 : Int32) (M : sk_M) (Q : Int32 → Prop) : Prop :=
 lp (w_X8_isPeace_L4 a1 M Q) sk_F ((1 : Int32), (0 : Int32))
def w_X8_breaks_L16 (M2 : sk_M) (Q : Int32 → sk_M → Prop) (c : (Int32 × Int32) → Prop) (s16 : Int32 × Int32) : Prop :=
 if (¬ (s16.2 < 0)) then (
 if (¬ ((bc32 s16.1) < (bc32 s16.2))) then (
 w_X8_isPeace s16.2 M2 (fun r33 =>
 if (¬ (r33 = 0)) then (
 c (s16.2, (s16.2 + (-1 : Int32))))
 else (
 c (s16.1, (s16.2 + (-1 : Int32))))))
 else (
 c (s16.1, (s16.2 + (-1 : Int32)))))
 else (
 Q s16.1 M2)
def w_X8_breaks  (M : sk_M) (Q : Int32 → sk_M → Prop) : Prop :=
 sLet (sk_si M 140 0 (0 : Int32)) fun M2 =>
 sLet (((1 : Int32) <<< ((f_X8_contracts M2) &&& 31)) - (1 : Int32)) fun y13 =>
 lp (w_X8_breaks_L16 M2 Q) sk_F (y13, y13)
def w_X8_worthOf (a1 : Int32) (a2 : Int32) (M : sk_M) (Q : Int32 → Prop) : Prop :=
 w_X8_leftOf a1 a2 M (fun r3 =>
 if (r3 = 0) then (
 Q (0 : Int32))
 else (
 w_X8_of a2 (2 : Int32) M (fun r18 =>
 ¬ r3 = 0 ∧ Q (r18 / r3))))
def w_X8_richest_L28 (a1 : Int32) (a2 : Int32) (M12 : sk_M) (Q : Int32 → sk_M → Prop) (c : (Int32 × Int32 × Int32) → Prop) (s28 : Int32 × Int32 × Int32) : Prop :=
 if (¬ ((f_X8_vaults M12) ≤ s28.2.2)) then (
 sLet (fun s59_38 : Int32 =>
 w_X8_isGuarded s28.2.2 (M12.1 141 5) M12 (fun r70 =>
 if (r70 = 0) then (
 if (¬ (s28.1 < 0) ∧ (¬ (s28.2.1 < s59_38))) then (
 c (s28.1, s28.2.1, (s28.2.2 + (1 : Int32))))
 else (
 c (s28.2.2, s59_38, (s28.2.2 + (1 : Int32)))))
 else (
 c (s28.1, s28.2.1, (s28.2.2 + (1 : Int32)))))) fun j59_38 =>
 if (¬ (a2 = 0)) then (
 w_X8_leftOf a1 s28.2.2 M12 (fun r45 =>
 j59_38 (-r45)))
 else (
 w_X8_worthOf a1 s28.2.2 M12 (fun r56 =>
 j59_38 r56)))
 else (
 Q s28.1 M12)
def w_X8_richest (a1 : Int32) (a2 : Int32) (M : sk_M) (Q : Int32 → sk_M → Prop) : Prop :=
 sLet (sk_si M 140 0 (0 : Int32)) fun M2 =>
 w_X8_throwsIf (f_X8_noPerson a1 M2) (1 : Int32) M2 (fun r12 M12 =>
 if (¬ (r12 = 0)) then (
 Q (0 : Int32) M12)
 else (
 lp (w_X8_richest_L28 a1 a2 M12 Q) sk_F ((-1 : Int32), (0 : Int32), (0 : Int32))))
def w_X8_first_L24 (a1 : Int32) (M12 : sk_M) (Q : Int32 → sk_M → Prop) (c : (Int32 × Int32) → Prop) (s24 : Int32 × Int32) : Prop :=
 if (¬ ((M12.1 141 8) ≤ s24.2)) then (
 w_X8_ofLog s24.2 (2 : Int32) M12 (fun r38 =>
 if (r38 = a1) then (
 w_X8_ofLog s24.2 (5 : Int32) M12 (fun r48 =>
 if (r48 = (1 : Int32)) then (
 w_X8_ofLog s24.2 (1 : Int32) M12 (fun r58 =>
 c (r58, (s24.2 + (1 : Int32)))))
 else (
 c (s24.1, (s24.2 + (1 : Int32))))))
 else (
 c (s24.1, (s24.2 + (1 : Int32))))))
 else (
 Q s24.1 M12)
def w_X8_first (a1 : Int32) (M : sk_M) (Q : Int32 → sk_M → Prop) : Prop :=
 sLet (sk_si M 140 0 (0 : Int32)) fun M2 =>
 w_X8_throwsIf (f_X8_noVault a1 M2) (1 : Int32) M2 (fun r12 M12 =>
 if (¬ (r12 = 0)) then (
 Q (0 : Int32) M12)
 else (
 lp (w_X8_first_L24 a1 M12 Q) sk_F ((-1 : Int32), (0 : Int32))))
def w_X8_turned_L46 (a1 : Int32) (a2 : Int32) (M33 : sk_M) (Q : Int32 → sk_M → Prop) (c : (Int32 × Int32) → Prop) (s46 : Int32 × Int32) : Prop :=
 if (¬ ((M33.1 141 8) ≤ s46.2)) then (
 w_X8_ofLog s46.2 (2 : Int32) M33 (fun r63 =>
 if (r63 = a1) then (
 if (¬ (a2 = (-1 : Int32))) then (
 w_X8_ofLog s46.2 (1 : Int32) M33 (fun r79 =>
 if (r79 = a2) then (
 sLet (s46.1 + (1 : Int32)) fun y92 =>
 c (y92, (s46.2 + (1 : Int32))))
 else (
 sLet (s46.1 + (0 : Int32)) fun y92 =>
 c (y92, (s46.2 + (1 : Int32))))))
 else (
 sLet (s46.1 + (1 : Int32)) fun y92 =>
 c (y92, (s46.2 + (1 : Int32)))))
 else (
 sLet (s46.1 + (0 : Int32)) fun y92 =>
 c (y92, (s46.2 + (1 : Int32))))))
 else (
 Q s46.1 M33)
def w_X8_turned (a1 : Int32) (a2 : Int32) (M : sk_M) (Q : Int32 → sk_M → Prop) : Prop :=
 sLet (sk_si M 140 0 (0 : Int32)) fun M2 =>
 sLet (if (¬ ((f_X8_noVault a1 M2) = 0) ∨ (¬ (a2 = (-1 : Int32)) ∧ (¬ ((f_X8_noPerson a2 M2) = 0)))) then (1 : Int32) else (0 : Int32) : Int32) fun s32_11 =>
 w_X8_throwsIf s32_11 (1 : Int32) M2 (fun r33 M33 =>
 if (¬ (r33 = 0)) then (
 Q (0 : Int32) M33)
 else (
 lp (w_X8_turned_L46 a1 a2 M33 Q) sk_F ((0 : Int32), (0 : Int32))))
def w_X8_price_L24 (a1 : Int32) (M12 : sk_M) (Q : Int32 → sk_M → Prop) (c : (Int32 × Int32) → Prop) (s24 : Int32 × Int32) : Prop :=
 if (¬ ((f_X8_vaults M12) ≤ s24.2)) then (
 w_X8_worthOf a1 s24.2 M12 (fun r36 =>
 sLet (s24.1 + r36) fun y40 =>
 c (y40, (s24.2 + (1 : Int32)))))
 else (
 Q s24.1 M12)
def w_X8_price (a1 : Int32) (M : sk_M) (Q : Int32 → sk_M → Prop) : Prop :=
 sLet (sk_si M 140 0 (0 : Int32)) fun M2 =>
 w_X8_throwsIf (f_X8_noPerson a1 M2) (1 : Int32) M2 (fun r12 M12 =>
 if (¬ (r12 = 0)) then (
 Q (0 : Int32) M12)
 else (
 lp (w_X8_price_L24 a1 M12 Q) sk_F ((0 : Int32), (0 : Int32))))
def w_X8_risky_L34 (M2 : sk_M) (s13 : Int32 × Int32 × Int32) (k61 : Int32 → Prop) (c : (Int32 × Int32) → Prop) (s34 : Int32 × Int32) : Prop :=
 if (¬ ((f_X8_people M2) ≤ s34.2)) then (
 w_X8_leftOf s34.2 s13.2.2 M2 (fun r49 =>
 sLet (s34.1 + r49) fun y53 =>
 c (y53, (s34.2 + (1 : Int32)))))
 else (
 k61 s34.1)
def w_X8_risky_L13 (M2 : sk_M) (Q : Int32 → sk_M → Prop) (c : (Int32 × Int32 × Int32) → Prop) (s13 : Int32 × Int32 × Int32) : Prop :=
 if (¬ ((f_X8_vaults M2) ≤ s13.2.2) ∧ (¬ ((f_X8_people M2) ≤ 0))) then (
 lp (w_X8_risky_L34 M2 s13 (fun s61 : Int32 =>
 if (¬ (s61 < s13.2.1)) then (
 c (s13.1, s13.2.1, (s13.2.2 + (1 : Int32))))
 else (
 c (s13.2.2, s61, (s13.2.2 + (1 : Int32)))))) sk_F ((0 : Int32), (0 : Int32)))
 else (
 Q s13.1 M2)
def w_X8_risky  (M : sk_M) (Q : Int32 → sk_M → Prop) : Prop :=
 sLet (sk_si M 140 0 (0 : Int32)) fun M2 =>
 lp (w_X8_risky_L13 M2 Q) sk_F ((-1 : Int32), (1000000 : Int32), (0 : Int32))
def w_X8_keepsAll_L2  (k27 : sk_M → Prop) (c : (Int32 × sk_M) → Prop) (s2 : Int32 × sk_M) : Prop :=
 if (¬ ((562 : Int32) ≤ s2.1)) then (
 vp_in s2.1 2260 ∧
 vp_in s2.1 562 ∧ sLet (sk_si s2.2 144 s2.1.toNatClampNeg (s2.2.1 141 s2.1.toNatClampNeg)) fun M20 =>
 c ((s2.1 + (1 : Int32)), M20))
 else (
 k27 s2.2)
def w_X8_keepsAll  (M : sk_M) (Q : sk_M → Prop) : Prop :=
 lp (w_X8_keepsAll_L2  (fun s27 : sk_M =>
 w_X8_copies 146 149 s27 (fun M35 =>
 Q M35))) sk_F ((0 : Int32), M)
def w_X8_bringsBack_L2  (k27 : sk_M → Prop) (c : (Int32 × sk_M) → Prop) (s2 : Int32 × sk_M) : Prop :=
 if (¬ ((562 : Int32) ≤ s2.1)) then (
 vp_in s2.1 562 ∧
 vp_in s2.1 2260 ∧ sLet (sk_si s2.2 141 s2.1.toNatClampNeg (s2.2.1 144 s2.1.toNatClampNeg)) fun M20 =>
 c ((s2.1 + (1 : Int32)), M20))
 else (
 k27 s2.2)
def w_X8_bringsBack  (M : sk_M) (Q : sk_M → Prop) : Prop :=
 lp (w_X8_bringsBack_L2  (fun s27 : sk_M =>
 w_X8_copies 149 146 s27 (fun M35 =>
 Q M35))) sk_F ((0 : Int32), M)
def w_X8_when_L49 (a1 : Int32) (a2 : Int32) (k80 : (Int32 × Int32 × sk_M) → Prop) (c : (Int32 × Int32 × sk_M) → Prop) (s49 : Int32 × Int32 × sk_M) : Prop :=
 if (¬ ((20 : Int32) ≤ s49.1) ∧ (s49.2.1 = 0)) then (
 w_X8_nextOf a1 a2 s49.2.2 (fun r66 M66 =>
 w_X8_hears a1 a2 r66 M66 (fun r69 M69 =>
 c ((s49.1 + (1 : Int32)), r69, M69))))
 else (
 k80 (s49.1, s49.2.1, s49.2.2))
def w_X8_when (a1 : Int32) (a2 : Int32) (M : sk_M) (Q : Int32 → sk_M → Prop) : Prop :=
 sLet (sk_si M 140 0 (0 : Int32)) fun M2 =>
 sLet (if (¬ ((f_X8_noPerson a1 M2) = 0) ∨ (¬ ((f_X8_noVault a2 M2) = 0))) then (1 : Int32) else (0 : Int32) : Int32) fun s27_11 =>
 w_X8_throwsIf s27_11 (1 : Int32) M2 (fun r28 M28 =>
 if (¬ (r28 = 0)) then (
 Q (0 : Int32) M28)
 else (
 w_X8_keepsAll M28 (fun M37 =>
 w_X8_laysClicks M37 (fun M41 =>
 lp (w_X8_when_L49 a1 a2 (fun s80 : Int32 × Int32 × sk_M =>
 w_X8_bringsBack s80.2.2 (fun M81 =>
 if (¬ (s80.2.1 = 0)) then (
 Q s80.1 M81)
 else (
 Q (-1 : Int32) M81)))) sk_F ((0 : Int32), (0 : Int32), M41)))))
def w_X8_changedOnes_L4  (M : sk_M) (Q : Int32 → Prop) (c : (Int32 × Int32) → Prop) (s4 : Int32 × Int32) : Prop :=
 if (¬ ((f_X8_vaults M) ≤ s4.2)) then (
 w_X8_of s4.2 (0 : Int32) M (fun r16 =>
 vp_in (((10 : Int32) + ((4 : Int32) * s4.2)) + (0 : Int32)) 562 ∧
 if (¬ (r16 = (M.1 144 (((10 : Int32) + ((4 : Int32) * s4.2)) + (0 : Int32)).toNatClampNeg))) then (
 sLet (s4.1 ||| ((1 : Int32) <<< (s4.2 &&& 31))) fun y43 =>
 c (y43, (s4.2 + (1 : Int32))))
 else (
 sLet (s4.1 ||| (0 : Int32)) fun y43 =>
 c (y43, (s4.2 + (1 : Int32))))))
 else (
 Q s4.1)
def w_X8_changedOnes  (M : sk_M) (Q : Int32 → Prop) : Prop :=
 lp (w_X8_changedOnes_L4 M Q) sk_F ((0 : Int32), (0 : Int32))
def w_X8_unknown_L14 (s4 : Int32 × Int32) (M : sk_M) (k48 : Int32 → Prop) (c : (Int32 × Int32) → Prop) (s14 : Int32 × Int32) : Prop :=
 if (¬ ((f_X8_vaults M) ≤ s14.2)) then (
 w_X8_leftOf s4.2 s14.2 M (fun r26 =>
 if (r26 = (216 : Int32)) then (
 sLet (s14.1 + (1 : Int32)) fun y41 =>
 c (y41, (s14.2 + (1 : Int32))))
 else (
 sLet (s14.1 + (0 : Int32)) fun y41 =>
 c (y41, (s14.2 + (1 : Int32))))))
 else (
 k48 s14.1)
def w_X8_unknown_L4  (M : sk_M) (Q : Int32 → Prop) (c : (Int32 × Int32) → Prop) (s4 : Int32 × Int32) : Prop :=
 if (¬ ((f_X8_people M) ≤ s4.2)) then (
 lp (w_X8_unknown_L14 s4 M (fun s48 : Int32 =>
 c (s48, (s4.2 + (1 : Int32))))) sk_F (s4.1, (0 : Int32)))
 else (
 Q s4.1)
def w_X8_unknown  (M : sk_M) (Q : Int32 → Prop) : Prop :=
 lp (w_X8_unknown_L4 M Q) sk_F ((0 : Int32), (0 : Int32))
def w_X8_trial_L36 (a1 : Int32) (k51 : sk_M → Prop) (c : (Int32 × sk_M) → Prop) (s36 : Int32 × sk_M) : Prop :=
 if (¬ (a1 ≤ s36.1)) then (
 w_X8_oneDay s36.2 (fun M42 =>
 c ((s36.1 + (1 : Int32)), M42)))
 else (
 k51 s36.2)
def w_X8_trial (a1 : Int32) (a2 : Int32) (M : sk_M) (Q : Int32 → sk_M → Prop) : Prop :=
 sLet (sk_si M 140 0 (0 : Int32)) fun M2 =>
 sLet (if ((f_X8_in a1 (0 : Int32) (40 : Int32)) = 0) then (1 : Int32) else (0 : Int32) : Int32) fun s21_13 =>
 w_X8_throwsIf s21_13 (1 : Int32) M2 (fun r22 M22 =>
 if (¬ (r22 = 0)) then (
 Q (0 : Int32) M22)
 else (
 w_X8_keepsAll M22 (fun M31 =>
 lp (w_X8_trial_L36 a1 (fun s51 : sk_M =>
 if (¬ (a2 = 0)) then (
 w_X8_unknown s51 (fun r56 =>
 w_X8_bringsBack s51 (fun M68 =>
 Q r56 M68)))
 else (
 w_X8_changedOnes s51 (fun r63 =>
 w_X8_bringsBack s51 (fun M68 =>
 Q r63 M68))))) sk_F ((0 : Int32), M31))))
def w_X8_span_L58 (a1 : Int32) (k74 : sk_M → Prop) (c : (Int32 × sk_M) → Prop) (s58 : Int32 × sk_M) : Prop :=
 if (¬ (a1 ≤ s58.1)) then (
 w_X8_oneDay s58.2 (fun M65 =>
 c ((s58.1 + (1 : Int32)), M65)))
 else (
 k74 s58.2)
def w_X8_span_L39 (a1 : Int32) (a2 : Int32) (Q : Int32 → sk_M → Prop) (c : (Int32 × Int32 × sk_M) → Prop) (s39 : Int32 × Int32 × sk_M) : Prop :=
 if (¬ ((6 : Int32) < s39.2.1)) then (
 sLet (sk_si s39.2.2 141 9 s39.2.1) fun M54 =>
 lp (w_X8_span_L58 a1 (fun s74 : sk_M =>
 w_X8_changedOnes s74 (fun r75 =>
 sLet (bc32 r75) fun y81 =>
 w_X8_bringsBack s74 (fun M84 =>
 if (¬ (0 ≤ s39.1)) then (
 c (y81, (s39.2.1 + (1 : Int32)), M84))
 else (
 if (¬ (a2 = 0)) then (
 sLet (mxI s39.1 y81) fun y115 =>
 c (y115, (s39.2.1 + (1 : Int32)), M84))
 else (
 sLet (mnI s39.1 y81) fun y115 =>
 c (y115, (s39.2.1 + (1 : Int32)), M84))))))) sk_F ((0 : Int32), M54))
 else (
 Q s39.1 s39.2.2)
def w_X8_span (a1 : Int32) (a2 : Int32) (M : sk_M) (Q : Int32 → sk_M → Prop) : Prop :=
 sLet (sk_si M 140 0 (0 : Int32)) fun M2 =>
 sLet (if ((f_X8_in a1 (0 : Int32) (40 : Int32)) = 0) then (1 : Int32) else (0 : Int32) : Int32) fun s21_13 =>
 w_X8_throwsIf s21_13 (1 : Int32) M2 (fun r22 M22 =>
 if (¬ (r22 = 0)) then (
 Q (0 : Int32) M22)
 else (
 w_X8_keepsAll M22 (fun M31 =>
 lp (w_X8_span_L39 a1 a2 Q) sk_F ((-1 : Int32), (1 : Int32), M31))))
def w_X8_log (a1 : Int32) (a2 : Int32) (M : sk_M) (Q : Int32 → sk_M → Prop) : Prop :=
 sLet (sk_si M 140 0 (0 : Int32)) fun M2 =>
 sLet (if ((f_X8_in a2 (0 : Int32) (5 : Int32)) = 0) then (1 : Int32) else (0 : Int32) : Int32) fun s20_12 =>
 w_X8_throwsIf s20_12 (1 : Int32) M2 (fun r21 M21 =>
 if (¬ (r21 = 0)) then (
 Q (0 : Int32) M21)
 else (
 if (¬ ((f_X8_in a1 (0 : Int32) ((M21.1 141 8) - (1 : Int32))) = 0)) then (
 w_X8_ofLog a1 a2 M21 (fun r49 =>
 Q r49 M21))
 else (
 Q (-999 : Int32) M21)))
def w_X8_seed (a1 : Int32) (M : sk_M) (Q : Int32 → sk_M → Prop) : Prop :=
 sLet (sk_si M 140 0 (0 : Int32)) fun M2 =>
 sLet (M2.1 141 9) fun y12 =>
 sLet (sk_si M2 141 9 a1) fun M20 =>
 Q y12 M20
def w_X8_openedOnes_L4  (M : sk_M) (Q : Int32 → Prop) (c : (Int32 × Int32) → Prop) (s4 : Int32 × Int32) : Prop :=
 if (¬ ((f_X8_vaults M) ≤ s4.2)) then (
 w_X8_of s4.2 (3 : Int32) M (fun r16 =>
 if (r16 = (1 : Int32)) then (
 sLet (s4.1 ||| ((1 : Int32) <<< (s4.2 &&& 31))) fun y31 =>
 c (y31, (s4.2 + (1 : Int32))))
 else (
 sLet (s4.1 ||| (0 : Int32)) fun y31 =>
 c (y31, (s4.2 + (1 : Int32))))))
 else (
 Q s4.1)
def w_X8_openedOnes  (M : sk_M) (Q : Int32 → Prop) : Prop :=
 lp (w_X8_openedOnes_L4 M Q) sk_F ((0 : Int32), (0 : Int32))
def w_X8_guardedOnes_L4  (M : sk_M) (Q : Int32 → Prop) (c : (Int32 × Int32) → Prop) (s4 : Int32 × Int32) : Prop :=
 if (¬ ((f_X8_vaults M) ≤ s4.2)) then (
 w_X8_isGuarded s4.2 (M.1 141 5) M (fun r21 =>
 if (¬ (r21 = 0)) then (
 sLet (s4.1 ||| ((1 : Int32) <<< (s4.2 &&& 31))) fun y35 =>
 c (y35, (s4.2 + (1 : Int32))))
 else (
 sLet (s4.1 ||| (0 : Int32)) fun y35 =>
 c (y35, (s4.2 + (1 : Int32))))))
 else (
 Q s4.1)
def w_X8_guardedOnes  (M : sk_M) (Q : Int32 → Prop) : Prop :=
 lp (w_X8_guardedOnes_L4 M Q) sk_F ((0 : Int32), (0 : Int32))
def w_X8_allWorth_L4  (M : sk_M) (Q : Int32 → Prop) (c : (Int32 × Int32) → Prop) (s4 : Int32 × Int32) : Prop :=
 if (¬ ((f_X8_vaults M) ≤ s4.2)) then (
 w_X8_of s4.2 (2 : Int32) M (fun r16 =>
 sLet (s4.1 + r16) fun y20 =>
 c (y20, (s4.2 + (1 : Int32)))))
 else (
 Q s4.1)
def w_X8_allWorth  (M : sk_M) (Q : Int32 → Prop) : Prop :=
 lp (w_X8_allWorth_L4 M Q) sk_F ((0 : Int32), (0 : Int32))
def w_X8_count (a1 : Int32) (M : sk_M) (Q : Int32 → sk_M → Prop) : Prop :=
 sLet (sk_si M 140 0 (0 : Int32)) fun M2 =>
 if a1 = 4 then (
 if ((M2.1 141 4) = (1 : Int32)) then (
 Q (M2.1 141 562) M2)
 else (
 Q (-1 : Int32) M2))
 else (
 if a1 = 5 then (
 if (¬ ((f_X8_in a1 (0 : Int32) (6 : Int32)) = 0)) then (
 vp_in a1 2260 ∧
 Q (M2.1 141 a1.toNatClampNeg) M2)
 else (
 Q (-1 : Int32) M2))
 else (
 if a1 = 6 then (
 if (¬ ((f_X8_in a1 (0 : Int32) (6 : Int32)) = 0)) then (
 vp_in a1 2260 ∧
 Q (M2.1 141 a1.toNatClampNeg) M2)
 else (
 Q (-1 : Int32) M2))
 else (
 if a1 = 7 then (
 w_X8_openedOnes M2 (fun r80 =>
 Q r80 M2))
 else (
 if a1 = 8 then (
 w_X8_guardedOnes M2 (fun r85 =>
 Q r85 M2))
 else (
 if a1 = 9 then (
 Q (M2.1 141 8) M2)
 else (
 if a1 = 10 then (
 Q (M2.1 141 7) M2)
 else (
 if a1 = 11 then (
 w_X8_allWorth M2 (fun r106 =>
 Q r106 M2))
 else (
 if a1 = 12 then (
 Q (M2.1 140 12) M2)
 else (
 if (¬ ((f_X8_in a1 (0 : Int32) (6 : Int32)) = 0)) then (
 vp_in a1 2260 ∧
 Q (M2.1 141 a1.toNatClampNeg) M2)
 else (
 Q (-1 : Int32) M2))))))))))
