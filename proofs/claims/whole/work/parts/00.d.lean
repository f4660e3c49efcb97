def w_X6_refuse  (M : sk_M) (Q : Int32 → sk_M → Prop) : Prop :=
 if ((M.1 121 5) = (-1 : Int32)) then (
 sLet (sk_si M 121 5 (M.1 121 3)) fun M13 =>
 Q (0 : Int32) M13)
 else (
 Q (0 : Int32) M)
def w_X0_guardDays_L25  (Q : Int32 → sk_M → Prop) (c : (Int32 × Int32 × sk_M) → Prop) (s25 : Int32 × Int32 × sk_M) : Prop :=
 if (¬ ((s25.2.2.1 121 1) ≤ s25.2.1) ∧ ((s25.2.1 = 0) ∨ ((s25.2.2.1 121 2) = (2 : Int32)))) then (
 w_X6_numberUpTo (6 : Int32) s25.2.2 (fun r57 M57 =>
 if (r57 = (-1 : Int32)) then (
 Q (0 : Int32) M57)
 else (
 sLet (s25.1 ||| ((1 : Int32) <<< (r57 &&& 31))) fun y73 =>
 c (y73, (s25.2.1 + (1 : Int32)), M57))))
 else (
 Q s25.1 s25.2.2)
def w_X0_guardDays  (M : sk_M) (Q : Int32 → sk_M → Prop) : Prop :=
 w_X6_is 2 M (fun r6 =>
 if (r6 = 0) then (
 Q (0 : Int32) M)
 else (
 w_X6_step M (fun M18 =>
 lp (w_X0_guardDays_L25 Q) sk_F ((0 : Int32), (0 : Int32), M18))))
def f_X6_isWrong  (M : sk_M) : Int32 :=
 if (¬ ((M.1 121 5) = (-1 : Int32))) then (
 (1 : Int32))
 else (
 (0 : Int32))
def w_X0_vaultLine  (M : sk_M) (Q : Int32 → sk_M → Prop) : Prop :=
 if (¬ ((M.1 125 2) < (6 : Int32))) then (
 w_X6_refuse M (fun r13 M13 =>
 (r13 = 0 ∨ r13 = 1) ∧ Q r13 M13))
 else (
 w_X6_step M (fun M21 =>
 w_X6_figures M21 (fun r28 M28 =>
 if (¬ (r28 = (-1 : Int32))) then (
 w_X6_pass 1 M28 (fun r43 M43 =>
 if (r43 = 0) then (
 Q (0 : Int32) M43)
 else (
 w_X6_numberUpTo (999 : Int32) M43 (fun r58 M58 =>
 sLet (fun s75_64 : Int32 × sk_M =>
 if (¬ ((f_X6_isWrong s75_64.2) = 0)) then (
 Q (0 : Int32) s75_64.2)
 else (
 vp_in (s75_64.2.1 125 2) 6 ∧ sLet (sk_si s75_64.2 (0 + 1) (s75_64.2.1 125 2).toNatClampNeg r28) fun M100 =>
 vp_in (M100.1 125 2) 6 ∧ sLet (sk_si M100 (0 + 3) (M100.1 125 2).toNatClampNeg r58) fun M113 =>
 vp_in (M113.1 125 2) 6 ∧ sLet (sk_si M113 (0 + 2) (M113.1 125 2).toNatClampNeg s75_64.1) fun M126 =>
 sLet (sk_si M126 125 2 ((M126.1 125 2) + (1 : Int32))) fun M134 =>
 Q (1 : Int32) M134)) fun j75_64 =>
 if (r58 = (-1 : Int32)) then (
 j75_64 ((0 : Int32), M58))
 else (
 w_X0_guardDays M58 (fun r72 M72 =>
 j75_64 (r72, M72)))))))
 else (
 Q (0 : Int32) M28))))
def w_X0_personLine  (M : sk_M) (Q : Int32 → sk_M → Prop) : Prop :=
 if (¬ ((M.1 125 3) < (6 : Int32))) then (
 w_X6_refuse M (fun r13 M13 =>
 (r13 = 0 ∨ r13 = 1) ∧ Q r13 M13))
 else (
 w_X6_step M (fun M21 =>
 sLet (sk_si M21 125 3 ((M21.1 125 3) + (1 : Int32))) fun M31 =>
 Q (1 : Int32) M31))
def w_X0_contractLine (a1 : Int32) (M : sk_M) (Q : Int32 → sk_M → Prop) : Prop :=
 if (¬ ((M.1 125 4) < (12 : Int32))) then (
 w_X6_refuse M (fun r13 M13 =>
 (r13 = 0 ∨ r13 = 1) ∧ Q r13 M13))
 else (
 w_X6_step M (fun M21 =>
 w_X6_numberUpTo ((M21.1 125 3) - (1 : Int32)) M21 (fun r34 M34 =>
 sLet (fun s60_40 : Int32 × sk_M =>
 if (s60_40.1 = (-1 : Int32)) then (
 Q (0 : Int32) s60_40.2)
 else (
 sLet (fun s111_72 : Int32 × sk_M =>
 vp_in (s111_72.2.1 125 4) 12 ∧ sLet (sk_si s111_72.2 (0 + 4) (s111_72.2.1 125 4).toNatClampNeg r34) fun M123 =>
 vp_in (M123.1 125 4) 12 ∧ sLet (sk_si M123 (0 + 5) (M123.1 125 4).toNatClampNeg s60_40.1) fun M136 =>
 vp_in (M136.1 125 4) 12 ∧ sLet (sk_si M136 (0 + 6) (M136.1 125 4).toNatClampNeg s111_72.1) fun M150 =>
 sLet (sk_si M150 125 4 ((M150.1 125 4) + (1 : Int32))) fun M158 =>
 Q (1 : Int32) M158) fun j111_72 =>
 if (¬ (a1 = 0)) then (
 w_X6_pass 6 s60_40.2 (fun r81 M81 =>
 sLet (fun s101_84 : Int32 × sk_M =>
 if (s101_84.1 = (-1 : Int32)) then (
 Q (0 : Int32) s101_84.2)
 else (
 j111_72 (s101_84.1, s101_84.2))) fun j101_84 =>
 if (¬ (r81 = 0)) then (
 w_X6_numberUpTo (999 : Int32) M81 (fun r94 M94 =>
 j101_84 (r94, M94)))
 else (
 j101_84 ((-1 : Int32), M81))))
 else (
 j111_72 ((-1 : Int32), s60_40.2)))) fun j60_40 =>
 if (r34 = (-1 : Int32)) then (
 j60_40 ((-1 : Int32), M34))
 else (
 w_X6_numberUpTo ((M34.1 125 2) - (1 : Int32)) M34 (fun r57 M57 =>
 j60_40 (r57, M57))))))
def w_X0_line  (M : sk_M) (Q : Int32 → sk_M → Prop) : Prop :=
 w_X6_is 0 M (fun r6 =>
 if (¬ (r6 = 0)) then (
 w_X0_vaultLine M (fun r13 M13 =>
 (r13 = 0 ∨ r13 = 1) ∧ Q r13 M13))
 else (
 w_X6_is 3 M (fun r23 =>
 if (¬ (r23 = 0)) then (
 w_X0_personLine M (fun r30 M30 =>
 (r30 = 0 ∨ r30 = 1) ∧ Q r30 M30))
 else (
 w_X6_is 5 M (fun r40 =>
 if (¬ (r40 = 0)) then (
 w_X0_contractLine (0 : Int32) M (fun r48 M48 =>
 (r48 = 0 ∨ r48 = 1) ∧ Q r48 M48))
 else (
 w_X6_is 4 M (fun r58 =>
 if (¬ (r58 = 0)) then (
 w_X0_contractLine (1 : Int32) M (fun r66 M66 =>
 (r66 = 0 ∨ r66 = 1) ∧ Q r66 M66))
 else (
 w_X6_is 7 M (fun r76 =>
 if (¬ (r76 = 0)) then (
 w_X6_step M (fun M86 =>
 w_X6_numberUpTo (100 : Int32) M86 (fun r96 M96 =>
 sLet (sk_si M96 125 5 r96) fun M99 =>
 if ((f_X6_isWrong M99) = 0) then (
 Q (1 : Int32) M99)
 else (
 Q (0 : Int32) M99))))
 else (
 w_X6_refuse M (fun r122 M122 =>
 (r122 = 0 ∨ r122 = 1) ∧ Q r122 M122)))))))))))
def w_X0_read_L65  (Q : Int32 → sk_M → Prop) (c : (Int32 × sk_M) → Prop) (s65 : Int32 × sk_M) : Prop :=
 if (¬ ((14 : Int32) ≤ s65.1)) then (
 w_X0_line s65.2 (fun r72 M72 =>
 if (r72 = 0) then (
 Q (0 : Int32) M72)
 else (
 if ((M72.1 121 2) = 0) then (
 Q (1 : Int32) M72)
 else (
 w_X6_passSign (59 : Int32) M72 (fun r98 M98 =>
 if (r98 = 0) then (
 Q (0 : Int32) M98)
 else (
 c ((s65.1 + (1 : Int32)), M98)))))))
 else (
 w_X6_refuse s65.2 (fun r116 M116 =>
 (r116 = 0 ∨ r116 = 1) ∧ Q r116 M116))
def w_X0_read  (M : sk_M) (Q : Int32 → sk_M → Prop) : Prop :=
 sLet (sk_si M 125 2 (M.1 0 0)) fun M8 =>
 sLet (sk_si M8 125 3 (M8.1 0 1)) fun M19 =>
 sLet (sk_si M19 125 4 (M19.1 0 2)) fun M30 =>
 sLet (sk_si M30 125 5 (M30.1 0 6)) fun M41 =>
 w_X6_rewind M41 (fun M48 =>
 if ((M48.1 121 2) = 0) then (
 Q (1 : Int32) M48)
 else (
 lp (w_X0_read_L65 Q) sk_F ((0 : Int32), M48)))
def w_X0_settle  (M : sk_M) (Q : sk_M → Prop) : Prop :=
 sLet (sk_si M 0 0 (M.1 125 2)) fun M8 =>
 sLet (sk_si M8 0 1 (M8.1 125 3)) fun M19 =>
 sLet (sk_si M19 0 2 (M19.1 125 4)) fun M30 =>
 sLet (sk_si M30 0 6 (M30.1 125 5)) fun M41 =>
 Q M41
def f_X1_apart (a0 : Int32) : Int32 :=
 sLeT (abI ((a0 / (6 : Int32)) - (rmI a0 (6 : Int32)))) fun y12 =>
 (mnI y12 ((6 : Int32) - y12))
def w_X1_whereApart_L4 (a0 : Int32) (Q : Int64 → Prop) (c : (Int64 × Int32) → Prop) (s4 : Int64 × Int32) : Prop :=
 if (¬ ((36 : Int32) ≤ s4.2)) then (
 if ((f_X1_apart s4.2) = a0) then (
 sLet (s4.1 ||| ((1 : Int64) <<< (s4.2.toInt64 &&& 63))) fun y23 =>
 c (y23, (s4.2 + (1 : Int32))))
 else (
 c (s4.1, (s4.2 + (1 : Int32)))))
 else (
 Q s4.1)
def w_X1_whereApart (a0 : Int32) (M : sk_M) (Q : Int64 → Prop) : Prop :=
 lp (w_X1_whereApart_L4 a0 Q) sk_F ((0 : Int64), (0 : Int32))
def w_X1_sum_L107 (c1 : Nat) (r24 : Int32) (r34 : Int32) (r45 : Int32) (s104_57 : Int32 × sk_M) (k167 : sk_M → Prop) (c : (Int32 × sk_M) → Prop) (s107 : Int32 × sk_M) : Prop :=
 if (¬ ((36 : Int32) ≤ s107.1)) then (
 vp_in s107.1 36 ∧
 if (¬ (r24 = 0)) then (
 vp_in s107.1 36 ∧ sLet (sk_si s107.2 c1 s107.1.toNatClampNeg ((s107.2.1 c1 s107.1.toNatClampNeg) + (s107.1 / (6 : Int32)))) fun M160 =>
 c ((s107.1 + (1 : Int32)), M160))
 else (
 if (¬ (r34 = 0)) then (
 vp_in s107.1 36 ∧ sLet (sk_si s107.2 c1 s107.1.toNatClampNeg ((s107.2.1 c1 s107.1.toNatClampNeg) + (rmI s107.1 (6 : Int32)))) fun M160 =>
 c ((s107.1 + (1 : Int32)), M160))
 else (
 if (¬ (r45 = 0)) then (
 vp_in s107.1 36 ∧ sLet (sk_si s107.2 c1 s107.1.toNatClampNeg ((s107.2.1 c1 s107.1.toNatClampNeg) + (f_X1_apart s107.1))) fun M160 =>
 c ((s107.1 + (1 : Int32)), M160))
 else (
 vp_in s107.1 36 ∧ sLet (sk_si s107.2 c1 s107.1.toNatClampNeg ((s107.2.1 c1 s107.1.toNatClampNeg) + s104_57.1)) fun M160 =>
 c ((s107.1 + (1 : Int32)), M160)))))
 else (
 k167 s107.2)
def w_X1_sum_L7 (c1 : Nat) (Q : sk_M → Prop) (c : (Int32 × sk_M) → Prop) (s7 : Int32 × sk_M) : Prop :=
 if (¬ ((s7.2.1 121 1) < s7.1)) then (
 w_X6_is 15 s7.2 (fun r24 =>
 w_X6_is 16 s7.2 (fun r34 =>
 w_X6_is 17 s7.2 (fun r45 =>
 sLet (s7.2.1 126 4) fun y54 =>
 sLet (fun s104_57 : Int32 × sk_M =>
 lp (w_X1_sum_L107 c1 r24 r34 r45 s104_57 (fun s167 : sk_M =>
 if ((f_X6_isWrong s167) = 0) then (
 w_X6_isSign (43 : Int32) s167 (fun r183 =>
 if (r183 = 0) then (
 Q s167)
 else (
 w_X6_step s167 (fun M194 =>
 c ((s7.1 + (1 : Int32)), M194)))))
 else (
 Q s167))) sk_F ((0 : Int32), s104_57.2)) fun j104_57 =>
 sLet (fun s82_57 : Int32 × sk_M =>
 w_X6_step s82_57.2 (fun M86 =>
 j104_57 (s82_57.1, M86))) fun j82_57 =>
 if ((r24 = 0) ∧ ((r34 = 0) ∧ (r45 = 0))) then (
 w_X6_is 14 s7.2 (fun r76 =>
 if (¬ (r76 = 0)) then (
 j82_57 (y54, s7.2))
 else (
 w_X6_numberUpTo (999 : Int32) s7.2 (fun r99 M99 =>
 j104_57 (r99, M99)))))
 else (
 j82_57 (y54, s7.2))))))
 else (
 Q s7.2)
def w_X1_sum (c1 : Nat) (M : sk_M) (Q : sk_M → Prop) : Prop :=
 sLet (flI M c1 (0 : Int32) 36) fun M2 =>
 lp (w_X1_sum_L7 c1 Q) sk_F ((0 : Int32), M2)
def w_X1_whereLess_L5 (c0 : Nat) (c1 : Nat) (M : sk_M) (Q : Int64 → Prop) (c : (Int64 × Int32) → Prop) (s5 : Int64 × Int32) : Prop :=
 if (¬ ((36 : Int32) ≤ s5.2)) then (
 vp_in s5.2 36 ∧
 vp_in s5.2 36 ∧
 if (¬ ((M.1 c1 s5.2.toNatClampNeg) ≤ (M.1 c0 s5.2.toNatClampNeg))) then (
 sLet (s5.1 ||| ((1 : Int64) <<< (s5.2.toInt64 &&& 63))) fun y29 =>
 c (y29, (s5.2 + (1 : Int32))))
 else (
 c (s5.1, (s5.2 + (1 : Int32)))))
 else (
 Q s5.1)
def w_X1_whereLess (c0 : Nat) (c1 : Nat) (M : sk_M) (Q : Int64 → Prop) : Prop :=
 lp (w_X1_whereLess_L5 c0 c1 M Q) sk_F ((0 : Int64), (0 : Int32))
def w_X1_condition_L12 (A : Int32 → sk_M → (Int64 → sk_M → Prop) → Prop) (a1 : Int32) (Q : Int64 → sk_M → Prop) (c : (Int64 × Int64 × Int32 × sk_M) → Prop) (s12 : Int64 × Int64 × Int32 × sk_M) : Prop :=
 if (¬ ((s12.2.2.2.1 121 1) ≤ s12.2.2.1) ∧ ((f_X6_isWrong s12.2.2.2) = 0)) then (
 w_X6_is 18 s12.2.2.2 (fun r40 =>
 if (¬ (r40 = 0)) then (
 w_X6_step s12.2.2.2 (fun M50 =>
 A a1 M50 (fun r57 M57 =>
 sLet (s12.2.1 &&& r57) fun y61 =>
 c (s12.1, y61, (s12.2.2.1 + (1 : Int32)), M57))))
 else (
 w_X6_is 19 s12.2.2.2 (fun r72 =>
 if (¬ (r72 = 0)) then (
 w_X6_step s12.2.2.2 (fun M82 =>
 sLet (s12.1 ||| s12.2.1) fun y89 =>
 A a1 M82 (fun r92 M92 =>
 c (y89, r92, (s12.2.2.1 + (1 : Int32)), M92))))
 else (
 Q (s12.1 ||| s12.2.1) s12.2.2.2)))))
 else (
 Q (s12.1 ||| s12.2.1) s12.2.2.2)
def w_X1_condition (A : Int32 → sk_M → (Int64 → sk_M → Prop) → Prop) (a1 : Int32) (M : sk_M) (Q : Int64 → sk_M → Prop) : Prop :=
 A a1 M (fun r4 M4 =>
 lp (w_X1_condition_L12 A a1 Q) sk_F ((0 : Int64), r4, (0 : Int32), M4))
def w_X1_atom (A : Int32 → sk_M → (Int64 → sk_M → Prop) → Prop) (a1 : Int32) (M : sk_M) (Q : Int64 → sk_M → Prop) : Prop :=
 w_X6_is 11 M (fun r6 =>
 sLet (fun s26_11 : sk_M =>
 if (¬ (a1 < (6 : Int32))) then (
 w_X6_refuse s26_11 (fun r36 M36 =>
 Q (0 : Int64) M36))
 else (
 w_X6_step s26_11 (fun M46 =>
 if (¬ (r6 = 0)) then (
 A (a1 + (1 : Int32)) M46 (fun r60 M60 =>
 Q ((68719476735 : Int64) &&& (r60 ^^^ (-1 : Int64))) M60))
 else (
 w_X1_condition A (a1 + (1 : Int32)) M46 (fun r73 M73 =>
 if ((f_X6_isWrong M73) = 0) then (
 w_X6_passSign (41 : Int32) M73 (fun r93 M93 =>
 Q r73 M93))
 else (
 Q r73 M73)))))) fun j26_11 =>
 if (r6 = 0) then (
 w_X6_isSign (40 : Int32) M (fun r20 =>
 if (¬ (r20 = 0)) then (
 j26_11 M)
 else (
 w_X6_is 12 M (fun r105 =>
 sLet (fun s123_108 : sk_M =>
 w_X6_is 12 s123_108 (fun r129 =>
 sLet (if (¬ (r129 = 0)) then (0 : Int32) else (1 : Int32) : Int32) fun s140_132 =>
 w_X6_step s123_108 (fun M145 =>
 w_X1_whereApart s140_132 M145 (fun r149 =>
 Q r149 M145)))) fun j123_108 =>
 if (r105 = 0) then (
 w_X6_is 13 M (fun r117 =>
 if (¬ (r117 = 0)) then (
 j123_108 M)
 else (
 w_X1_sum 128 M (fun M158 =>
 w_X6_isSign (60 : Int32) M158 (fun r167 =>
 if ((f_X6_isWrong M158) = 0) then (
 sLet (fun s207_182 : sk_M =>
 w_X6_step s207_182 (fun M211 =>
 w_X1_sum 129 M211 (fun M219 =>
 if (¬ (r167 = 0)) then (
 w_X1_whereLess 128 129 M219 (fun r234 =>
 Q r234 M219))
 else (
 w_X1_whereLess 129 128 M219 (fun r248 =>
 Q r248 M219))))) fun j207_182 =>
 if (r167 = 0) then (
 w_X6_isSign (62 : Int32) M158 (fun r191 =>
 if (r191 = 0) then (
 w_X6_refuse M158 (fun r201 M201 =>
 Q (0 : Int64) M201))
 else (
 j207_182 M158)))
 else (
 j207_182 M158))
 else (
 w_X6_refuse M158 (fun r201 M201 =>
 Q (0 : Int64) M201)))))))
 else (
 j123_108 M)))))
 else (
 j26_11 M))
def w_X1_atomN : Nat → Int32 → sk_M → (Int64 → sk_M → Prop) → Prop
  | 0 => fun _ _ _ => False
  | n + 1 => w_X1_atom (w_X1_atomN n)
def w_X1_line_L105 (r6 : Int32) (r47 : Int32) (s90_62 : Int64 × sk_M) (Q : Int32 → sk_M → Prop) (c : (Int32 × sk_M) → Prop) (s105 : Int32 × sk_M) : Prop :=
 if (¬ ((36 : Int32) ≤ s105.1)) then (
 if ((lg_cmp ((s90_62.1 >>> (s105.1.toInt64 &&& 63)) &&& (1 : Int64)) (1 : Int64)) = 0) then (
 vp_in (((s105.2.1 126 4) * (36 : Int32)) + s105.1) 108 ∧
 if (¬ (r6 = 0)) then (
 vp_in (((s105.2.1 126 4) * (36 : Int32)) + s105.1) 108 ∧ sLet (sk_si s105.2 127 (((s105.2.1 126 4) * (36 : Int32)) + s105.1).toNatClampNeg ((s105.2.1 127 (((s105.2.1 126 4) * (36 : Int32)) + s105.1).toNatClampNeg) + (-r47))) fun M150 =>
 c ((s105.1 + (1 : Int32)), M150))
 else (
 vp_in (((s105.2.1 126 4) * (36 : Int32)) + s105.1) 108 ∧ sLet (sk_si s105.2 127 (((s105.2.1 126 4) * (36 : Int32)) + s105.1).toNatClampNeg ((s105.2.1 127 (((s105.2.1 126 4) * (36 : Int32)) + s105.1).toNatClampNeg) + r47)) fun M150 =>
 c ((s105.1 + (1 : Int32)), M150)))
 else (
 c ((s105.1 + (1 : Int32)), s105.2)))
 else (
 Q (1 : Int32) s105.2)
def w_X1_line  (M : sk_M) (Q : Int32 → sk_M → Prop) : Prop :=
 w_X6_is 9 M (fun r6 =>
 sLet (fun s34_11 : sk_M =>
 w_X6_step s34_11 (fun M38 =>
 w_X6_numberUpTo (99 : Int32) M38 (fun r47 M47 =>
 sLet (fun s90_62 : Int64 × sk_M =>
 if (¬ ((f_X6_isWrong s90_62.2) = 0)) then (
 Q (0 : Int32) s90_62.2)
 else (
 lp (w_X1_line_L105 r6 r47 s90_62 Q) sk_F ((0 : Int32), s90_62.2))) fun j90_62 =>
 if ((f_X6_isWrong M47) = 0) then (
 w_X6_is 10 M47 (fun r71 =>
 if (¬ (r71 = 0)) then (
 w_X6_step M47 (fun M81 =>
 w_X1_condition (w_X1_atomN 8) (0 : Int32) M81 (fun r86 M86 =>
 j90_62 (r86, M86))))
 else (
 j90_62 ((68719476735 : Int64), M47))))
 else (
 j90_62 ((68719476735 : Int64), M47))))) fun j34_11 =>
 if (r6 = 0) then (
 w_X6_is 8 M (fun r20 =>
 if (r20 = 0) then (
 w_X6_refuse M (fun r30 M30 =>
 (r30 = 0 ∨ r30 = 1) ∧ Q r30 M30))
 else (
 j34_11 M)))
 else (
 j34_11 M))
def w_X1_read_L48  (Q : Int32 → sk_M → Prop) (k114 : (Int32 × sk_M) → Prop) (c : (Int32 × sk_M) → Prop) (s48 : Int32 × sk_M) : Prop :=
 if (¬ (s48.1 = 0) ∧ (¬ ((12 : Int32) ≤ (s48.2.1 126 5)))) then (
 w_X1_line s48.2 (fun r62 M62 =>
 if (r62 = 0) then (
 Q (0 : Int32) M62)
 else (
 sLet (sk_si M62 126 5 ((M62.1 126 5) + (1 : Int32))) fun M77 =>
 sLet (if (¬ ((M77.1 121 2) = 0)) then (1 : Int32) else (0 : Int32) : Int32) fun s95_87 =>
 if (¬ (s95_87 = 0)) then (
 w_X6_passSign (59 : Int32) M77 (fun r106 M106 =>
 if (r106 = 0) then (
 Q (0 : Int32) M106)
 else (
 c (s95_87, M106))))
 else (
 c (s95_87, M77)))))
 else (
 k114 (s48.1, s48.2))
def w_X1_read_L10  (Q : Int32 → sk_M → Prop) (c : (Int32 × sk_M) → Prop) (s10 : Int32 × sk_M) : Prop :=
 if (¬ ((3 : Int32) ≤ s10.1)) then (
 sLet (sk_si s10.2 126 4 s10.1) fun M17 =>
 w_X6_rewind M17 (fun M24 =>
 sLet (sk_si M24 126 5 (0 : Int32)) fun M29 =>
 sLet (if (¬ ((M29.1 121 2) = 0)) then (1 : Int32) else (0 : Int32) : Int32) fun s47_39 =>
 lp (w_X1_read_L48 Q (fun s114 : Int32 × sk_M =>
 if (¬ (s114.1 = 0)) then (
 w_X6_refuse s114.2 (fun r122 M122 =>
 (r122 = 0 ∨ r122 = 1) ∧ Q r122 M122))
 else (
 c ((s10.1 + (1 : Int32)), s114.2)))) sk_F (s47_39, M29)))
 else (
 Q (1 : Int32) s10.2)
def w_X1_read  (M : sk_M) (Q : Int32 → sk_M → Prop) : Prop :=
 sLet (flI M 127 (0 : Int32) 108) fun M5 =>
 lp (w_X1_read_L10 Q) sk_F ((0 : Int32), M5)
def w_X4_soundsAlike_L34 (y18 : Int32) (y29 : Int32) (M : sk_M) (Q : Int32 → Prop) (c : Int32 → Prop) (s34 : Int32) : Prop :=
 if (¬ ((6 : Int32) ≤ s34)) then (
 vp_in (y18 + s34) 108 ∧
 vp_in y18 108 ∧
 vp_in (y29 + s34) 108 ∧
 vp_in y29 108 ∧
 if (¬ (((M.1 (0 + 7) (y18 + s34).toNatClampNeg) - (M.1 (0 + 7) y18.toNatClampNeg)) = ((M.1 (0 + 7) (y29 + s34).toNatClampNeg) - (M.1 (0 + 7) y29.toNatClampNeg)))) then (
 Q (0 : Int32))
 else (
 c (s34 + (1 : Int32))))
 else (
 Q (1 : Int32))
def w_X4_soundsAlike (a1 : Int32) (a2 : Int32) (a3 : Int32) (M : sk_M) (Q : Int32 → Prop) : Prop :=
 sLet ((a1 * (36 : Int32)) + (a2 * (6 : Int32))) fun y18 =>
 sLet ((a1 * (36 : Int32)) + (a3 * (6 : Int32))) fun y29 =>
 lp (w_X4_soundsAlike_L34 y18 y29 M Q) sk_F (1 : Int32)
def w_X4_findLeaders_L17 (s2 : Int32 × sk_M) (s9 : Int32 × sk_M) (k38 : Int32 → Prop) (c : Int32 → Prop) (s17 : Int32) : Prop :=
 if (¬ (s9.1 ≤ s17)) then (
 w_X4_soundsAlike s2.1 s17 s9.1 s9.2 (fun r26 =>
 if (r26 = 0) then (
 c (s17 + (1 : Int32)))
 else (
 k38 s17)))
 else (
 k38 s17)
def w_X4_findLeaders_L9 (s2 : Int32 × sk_M) (k56 : sk_M → Prop) (c : (Int32 × sk_M) → Prop) (s9 : Int32 × sk_M) : Prop :=
 if (¬ ((6 : Int32) ≤ s9.1)) then (
 lp (w_X4_findLeaders_L17 s2 s9 (fun s38 : Int32 =>
 vp_in ((s2.1 * (6 : Int32)) + s9.1) 18 ∧ sLet (sk_si s9.2 137 ((s2.1 * (6 : Int32)) + s9.1).toNatClampNeg s38) fun M49 =>
 c ((s9.1 + (1 : Int32)), M49))) sk_F (0 : Int32))
 else (
 k56 s9.2)
def w_X4_findLeaders_L2  (Q : sk_M → Prop) (c : (Int32 × sk_M) → Prop) (s2 : Int32 × sk_M) : Prop :=
 if (¬ ((3 : Int32) ≤ s2.1)) then (
 lp (w_X4_findLeaders_L9 s2 (fun s56 : sk_M =>
 c ((s2.1 + (1 : Int32)), s56))) sk_F ((0 : Int32), s2.2))
 else (
 Q s2.2)
def w_X4_findLeaders  (M : sk_M) (Q : sk_M → Prop) : Prop :=
 lp (w_X4_findLeaders_L2 Q) sk_F ((0 : Int32), M)
def w_X4_leads (a1 : Int32) (M : sk_M) (Q : Int32 → Prop) : Prop :=
 vp_in (a1 / (36 : Int32)) 18 ∧
 if ((M.1 137 (a1 / (36 : Int32)).toNatClampNeg) = (a1 / (36 : Int32))) then (
 vp_in ((6 : Int32) + (rmI (a1 / (6 : Int32)) (6 : Int32))) 18 ∧
 if ((M.1 137 ((6 : Int32) + (rmI (a1 / (6 : Int32)) (6 : Int32))).toNatClampNeg) = (rmI (a1 / (6 : Int32)) (6 : Int32))) then (
 vp_in ((12 : Int32) + (rmI a1 (6 : Int32))) 18 ∧
 if ((M.1 137 ((12 : Int32) + (rmI a1 (6 : Int32))).toNatClampNeg) = (rmI a1 (6 : Int32))) then (
 Q (1 : Int32))
 else (
 Q (0 : Int32)))
 else (
 Q (0 : Int32)))
 else (
 Q (0 : Int32))
def w_X4_partAll_L26 (a2 : Int32) (k155 : (Int32 × Int32 × sk_M) → Prop) (c : (Int32 × Int32 × Int32 × sk_M) → Prop) (s26 : Int32 × Int32 × Int32 × sk_M) : Prop :=
 if (¬ ((s26.2.2.2.1 130 8) ≤ s26.2.2.1) ∧ (¬ (a2 ≤ s26.1))) then (
 vp_in s26.2.2.1 216 ∧
 sLet (s26.2.2.2.1 131 s26.2.2.1.toNatClampNeg) fun y48 =>
 vp_in (y48 / (6 : Int32)) 36 ∧
 vp_in ((s26.2.2.2.1 130 9) + (rmI y48 (6 : Int32))) 108 ∧
 sLet ((s26.2.2.2.1 133 (y48 / (6 : Int32)).toNatClampNeg) + (s26.2.2.2.1 (0 + 7) ((s26.2.2.2.1 130 9) + (rmI y48 (6 : Int32))).toNatClampNeg)) fun y73 =>
 vp_in y73 7129 ∧
 sLet (s26.2.2.2.1 134 y73.toNatClampNeg) fun y82 =>
 sLet (if (¬ (y82 ≤ (s26.2.2.2.1 130 10))) then ((y82 - (s26.2.2.2.1 130 10)) + (1 : Int32)) else (1 : Int32) : Int32) fun s106_90 =>
 vp_in y73 7129 ∧ sLet (sk_si s26.2.2.2 134 y73.toNatClampNeg ((s26.2.2.2.1 130 10) + s106_90)) fun M121 =>
 if (¬ (s106_90 ≤ s26.1)) then (
 c (s106_90, (1 : Int32), (s26.2.2.1 + (1 : Int32)), M121))
 else (
 if (s106_90 = s26.1) then (
 c (s26.1, (s26.2.1 + (1 : Int32)), (s26.2.2.1 + (1 : Int32)), M121))
 else (
 c (s26.1, s26.2.1, (s26.2.2.1 + (1 : Int32)), M121))))
 else (
 k155 (s26.1, s26.2.1, s26.2.2.2))
def w_X4_partAll (a1 : Int32) (a2 : Int32) (M : sk_M) (Q : Int32 → sk_M → Prop) : Prop :=
 w_X4_face a1 M (fun M2 =>
 w_X4_startTally M2 (fun M6 =>
 lp (w_X4_partAll_L26 a2 (fun s155 : Int32 × Int32 × sk_M =>
 sLet (sk_si s155.2.2 130 11 s155.1) fun M158 =>
 sLet (sk_si M158 130 12 s155.2.1) fun M164 =>
 if (¬ (a2 ≤ s155.1)) then (
 Q (1 : Int32) M164)
 else (
 Q (0 : Int32) M164))) sk_F ((0 : Int32), (0 : Int32), (0 : Int32), M6)))
def w_X4_weigh (a1 : Int32) (M : sk_M) (Q : sk_M → Prop) : Prop :=
 vp_in a1 216 ∧
 sLet (M.1 132 a1.toNatClampNeg) fun y6 =>
 sLet (M.1 130 11) fun y11 =>
 sLet (fun s51_13 : Int32 =>
 sLet (if (y6 = (M.1 130 15)) then (if (M.1 130 13) ≤ a1 then (0 : Int32) else (1 : Int32)) else y6 : Int32) fun s76_56 =>
 if ((s51_13 < (M.1 130 14)) ∨ ((s51_13 = (M.1 130 14)) ∧ (¬ (s76_56 = 0)))) then (
 sLet (sk_si M 130 13 a1) fun M101 =>
 sLet (sk_si M101 130 14 s51_13) fun M106 =>
 (y6 = 0 ∨ y6 = 1) ∧ sLet (sk_si M106 130 15 y6) fun M111 =>
 Q M111)
 else (
 Q M)) fun j51_13 =>
 if (¬ (y6 = 0) ∧ (((M.1 130 12) = (1 : Int32)) ∧ (¬ (y11 ≤ (1 : Int32))))) then (
 w_X4_slotOf a1 M (fun r35 =>
 vp_in r35 7129 ∧
 if ((M.1 134 r35.toNatClampNeg) = ((M.1 130 10) + y11)) then (
 j51_13 (y11 + (-1 : Int32)))
 else (
 j51_13 y11)))
 else (
 j51_13 y11)
def w_X4_weighAlike_L34 (a2 : Int32) (a3 : Int32) (s3 : Int32 × sk_M) (s13 : Int32 × sk_M) (k93 : sk_M → Prop) (c : (Int32 × sk_M) → Prop) (s34 : Int32 × sk_M) : Prop :=
 if (¬ ((6 : Int32) ≤ s34.1)) then (
 vp_in ((6 : Int32) + s13.1) 18 ∧
 if ((s34.2.1 137 ((6 : Int32) + s13.1).toNatClampNeg) = a2) then (
 vp_in ((12 : Int32) + s34.1) 18 ∧
 if ((s34.2.1 137 ((12 : Int32) + s34.1).toNatClampNeg) = a3) then (
 w_X4_weigh ((((36 : Int32) * s3.1) + ((6 : Int32) * s13.1)) + s34.1) s34.2 (fun M84 =>
 c ((s34.1 + (1 : Int32)), M84)))
 else (
 c ((s34.1 + (1 : Int32)), s34.2)))
 else (
 k93 s34.2))
 else (
 k93 s34.2)
def w_X4_weighAlike_L13 (a1 : Int32) (a2 : Int32) (a3 : Int32) (s3 : Int32 × sk_M) (k99 : sk_M → Prop) (c : (Int32 × sk_M) → Prop) (s13 : Int32 × sk_M) : Prop :=
 if (¬ ((6 : Int32) ≤ s13.1)) then (
 vp_in s3.1 18 ∧
 if ((s13.2.1 137 s3.1.toNatClampNeg) = a1) then (
 lp (w_X4_weighAlike_L34 a2 a3 s3 s13 (fun s93 : sk_M =>
 c ((s13.1 + (1 : Int32)), s93))) sk_F (a3, s13.2))
 else (
 k99 s13.2))
 else (
 k99 s13.2)
def w_X4_weighAlike_L3 (a1 : Int32) (a2 : Int32) (a3 : Int32) (Q : sk_M → Prop) (c : (Int32 × sk_M) → Prop) (s3 : Int32 × sk_M) : Prop :=
 if (¬ ((6 : Int32) ≤ s3.1)) then (
 lp (w_X4_weighAlike_L13 a1 a2 a3 s3 (fun s99 : sk_M =>
 c ((s3.1 + (1 : Int32)), s99))) sk_F (a2, s3.2))
 else (
 Q s3.2)
def w_X4_weighAlike (a1 : Int32) (a2 : Int32) (a3 : Int32) (M : sk_M) (Q : sk_M → Prop) : Prop :=
 lp (w_X4_weighAlike_L3 a1 a2 a3 Q) sk_F (a1, M)
def w_X4_bestTurning_L46  (Q : Int32 → sk_M → Prop) (c : (Int32 × sk_M) → Prop) (s46 : Int32 × sk_M) : Prop :=
 if (¬ ((216 : Int32) ≤ s46.1)) then (
 if (((s46.2.1 130 14) = (1 : Int32)) ∧ (¬ ((s46.2.1 130 15) = 0) ∧ (¬ (s46.1 ≤ (s46.2.1 130 13))))) then (
 Q (s46.2.1 130 13) s46.2)
 else (
 w_X4_leads s46.1 s46.2 (fun r83 =>
 if (¬ (r83 = 0)) then (
 w_X4_partAll s46.1 ((s46.2.1 130 14) + (2 : Int32)) s46.2 (fun r97 M97 =>
 if (¬ (r97 = 0)) then (
 w_X4_weighAlike (s46.1 / (36 : Int32)) (rmI (s46.1 / (6 : Int32)) (6 : Int32)) (rmI s46.1 (6 : Int32)) M97 (fun M119 =>
 c ((s46.1 + (1 : Int32)), M119)))
 else (
 c ((s46.1 + (1 : Int32)), M97))))
 else (
 c ((s46.1 + (1 : Int32)), s46.2)))))
 else (
 Q (s46.2.1 130 13) s46.2)
def w_X4_bestTurning  (M : sk_M) (Q : Int32 → sk_M → Prop) : Prop :=
 if (((M.1 130 8) = (1 : Int32)) ∨ ((M.1 130 8) = (2 : Int32))) then (
 Q (M.1 131 0) M)
 else (
 w_X4_findLeaders M (fun M24 =>
 sLet (sk_si M24 130 13 (0 : Int32)) fun M29 =>
 sLet (sk_si M29 130 14 (217 : Int32)) fun M36 =>
 sLet (sk_si M36 130 15 (0 : Int32)) fun M41 =>
 lp (w_X4_bestTurning_L46 Q) sk_F ((0 : Int32), M41)))
def w_X4_mostShared_L11  (k40 : sk_M → Prop) (c : (Int32 × sk_M) → Prop) (s11 : Int32 × sk_M) : Prop :=
 if (¬ ((s11.2.1 130 8) ≤ s11.1)) then (
 vp_in s11.1 216 ∧
 w_X4_slotOf (s11.2.1 131 s11.1.toNatClampNeg) s11.2 (fun r27 =>
 w_X4_countOne r27 s11.2 (fun r30 M30 =>
 c ((s11.1 + (1 : Int32)), M30))))
 else (
 k40 s11.2)
def w_X4_mostShared_L50 (s40 : sk_M) (Q : Int32 → sk_M → Prop) (c : (Int32 × Int32 × Int32) → Prop) (s50 : Int32 × Int32 × Int32) : Prop :=
 if (¬ ((s40.1 130 8) ≤ s50.2.2)) then (
 vp_in s50.2.2 216 ∧
 w_X4_slotOf (s40.1 131 s50.2.2.toNatClampNeg) s40 (fun r71 =>
 vp_in r71 7129 ∧
 sLet (s40.1 134 r71.toNatClampNeg) fun y75 =>
 if (¬ (y75 ≤ s50.2.1)) then (
 vp_in s50.2.2 216 ∧
 sLet (s40.1 131 s50.2.2.toNatClampNeg) fun y90 =>
 c (y90, y75, (s50.2.2 + (1 : Int32))))
 else (
 c (s50.1, s50.2.1, (s50.2.2 + (1 : Int32))))))
 else (
 Q s50.1 s40)
def w_X4_mostShared (a1 : Int32) (M : sk_M) (Q : Int32 → sk_M → Prop) : Prop :=
 w_X4_face a1 M (fun M2 =>
 w_X4_startTally M2 (fun M6 =>
 lp (w_X4_mostShared_L11  (fun s40 : sk_M =>
 sLet (s40.1 130 10) fun y46 =>
 lp (w_X4_mostShared_L50 s40 Q) sk_F ((-1 : Int32), y46, (0 : Int32)))) sk_F ((0 : Int32), M6)))
def w_X4_turningsNeeded_L14  (k32 : sk_M → Prop) (c : (Int32 × sk_M) → Prop) (s14 : Int32 × sk_M) : Prop :=
 if (¬ ((216 : Int32) ≤ s14.1)) then (
 w_X4_compare s14.1 s14.2 (fun M23 =>
 c ((s14.1 + (1 : Int32)), M23)))
 else (
 k32 s14.2)
def w_X4_turningsNeeded_L67 (s50 : Int32 × sk_M) (k113 : sk_M → Prop) (c : (Int32 × sk_M) → Prop) (s67 : Int32 × sk_M) : Prop :=
 if (¬ ((216 : Int32) ≤ s67.1)) then (
 vp_in s50.1 64 ∧
 if (¬ ((s67.2.1 136 s50.1.toNatClampNeg) ≤ (2 : Int32))) then (
 vp_in s50.1 64 ∧
 w_X4_neededBehind s67.1 s50.1 s67.2 (fun r99 =>
 vp_in s50.1 64 ∧ sLet (sk_si s67.2 136 s50.1.toNatClampNeg (mnI (s67.2.1 136 s50.1.toNatClampNeg) ((1 : Int32) + r99))) fun M106 =>
 c ((s67.1 + (1 : Int32)), M106)))
 else (
 k113 s67.2))
 else (
 k113 s67.2)
def w_X4_turningsNeeded_L50 (y40 : Int32) (Q : Int32 → sk_M → Prop) (c : (Int32 × sk_M) → Prop) (s50 : Int32 × sk_M) : Prop :=
 if (¬ (y40 < s50.1)) then (
 vp_in s50.1 64 ∧ sLet (sk_si s50.2 136 s50.1.toNatClampNeg (bc32 s50.1)) fun M64 =>
 lp (w_X4_turningsNeeded_L67 s50 (fun s113 : sk_M =>
 c ((s50.1 + (1 : Int32)), s113))) sk_F ((0 : Int32), M64))
 else (
 vp_in y40 64 ∧
 Q (s50.2.1 136 y40.toNatClampNeg) s50.2)
def w_X4_turningsNeeded  (M : sk_M) (Q : Int32 → sk_M → Prop) : Prop :=
 if (¬ ((M.1 130 8) ≤ (6 : Int32))) then (
 Q (-3 : Int32) M)
 else (
 lp (w_X4_turningsNeeded_L14  (fun s32 : sk_M =>
 sLet (((1 : Int32) <<< ((s32.1 130 8) &&& 31)) - (1 : Int32)) fun y40 =>
 sLet (sk_si s32 136 0 (0 : Int32)) fun M47 =>
 lp (w_X4_turningsNeeded_L50 y40 Q) sk_F ((1 : Int32), M47))) sk_F ((0 : Int32), M))
def f_X6_hasRoom (a1 : Int32) (M : sk_M) : Int32 :=
 if (¬ ((400 : Int32) < ((M.1 121 1) + a1))) then (
 (1 : Int32))
 else (
 (0 : Int32))
def w_X6_put_L3 (a1 : Int32) (Q : sk_M → Prop) (c : (Int32 × sk_M) → Prop) (s3 : Int32 × sk_M) : Prop :=
 if (¬ (s3.1 < 0) ∧ (¬ ((400 : Int32) ≤ (s3.2.1 121 1)))) then (
 vp_in (s3.2.1 121 1) 400 ∧ sLet (sk_si s3.2 122 (s3.2.1 121 1).toNatClampNeg ((us32 a1 s3.1) &&& (255 : Int32))) fun M32 =>
 sLet (sk_si M32 121 1 ((M32.1 121 1) + (1 : Int32))) fun M40 =>
 c ((s3.1 + (-8 : Int32)), M40))
 else (
 Q s3.2)
def w_X6_put (a1 : Int32) (M : sk_M) (Q : sk_M → Prop) : Prop :=
 lp (w_X6_put_L3 a1 Q) sk_F ((24 : Int32), M)
def w_X7_feed (a1 : Int32) (a2 : Int32) (a3 : Int32) (a4 : Int32) (a5 : Int32) (M : sk_M) (Q : Int32 → sk_M → Prop) : Prop :=
 if ((f_X6_hasRoom (20 : Int32) M) = 0) then (
 Q (-1 : Int32) M)
 else (
 w_X6_put a1 M (fun M19 =>
 w_X6_put a2 M19 (fun M27 =>
 w_X6_put a3 M27 (fun M35 =>
 w_X6_put a4 M35 (fun M44 =>
 w_X6_put a5 M44 (fun M53 =>
 Q (M53.1 121 1) M53))))))
def w_X7_end (a1 : Int32) (M : sk_M) (Q : Int32 → sk_M → Prop) : Prop :=
 if ((a1 < 0) ∨ (¬ (a1 ≤ (M.1 121 1)))) then (
 Q (0 : Int32) M)
 else (
 sLet (sk_si M 121 1 a1) fun M22 =>
 Q (1 : Int32) M22)
def w_X7_bank  (M : sk_M) (Q : Int32 → sk_M → Prop) (X : String → sk_M → Prop) : Prop :=
 w_X0_read M (fun r4 M4 =>
 sLet (sk_si M4 121 1 (0 : Int32)) fun M13 =>
 if (r4 = 0) then (
 X "java/lang/IllegalArgumentException" M13)
 else (
 if (¬ ((M13.1 0 3) < (12 : Int32))) then (
 X "java/lang/UnsupportedOperationException" M13)
 else (
 w_X0_settle M13 (fun M56 =>
 sLet (sk_si M56 0 3 ((M56.1 0 3) + (1 : Int32))) fun M69 =>
 w_X3_clear M69 (fun M76 =>
 Q (M76.1 0 3) M76)))))
def w_X7_law  (M : sk_M) (Q : Int32 → sk_M → Prop) (X : String → sk_M → Prop) : Prop :=
 w_X1_read M (fun r4 M4 =>
 sLet (sk_si M4 121 1 (0 : Int32)) fun M13 =>
 if (r4 = 0) then (
 X "java/lang/IllegalArgumentException" M13)
 else (
 w_X5_obey 0 127 (M13.1 126 5) M13 (fun M48 =>
 w_X3_clear M48 (fun M55 =>
 Q (M55.1 0 4) M55))))
def f_X7_fault  (M : sk_M) : Int32 :=
 (M.1 121 5)
def w_X7_needVault (a1 : Int32) (M : sk_M) (Q : Prop) (X : String → Prop) : Prop :=
 if ((a1 < 0) ∨ (¬ (a1 < (M.1 0 0)))) then (
 X "java/lang/IndexOutOfBoundsException")
 else (
 Q)
def f_X7_gaps (a0 : Int32) : Int32 :=
 ((127 : Int32) &&& (a0 ^^^ (-1 : Int32)))
def w_X7_soon_L2 (a0 : Int32) (a1 : Int32) (Q : Int32 → Prop) (c : Int32 → Prop) (s2 : Int32) : Prop :=
 if (¬ ((7 : Int32) ≤ s2)) then (
 sLet (rmI (mnI (9999 : Int32) (a1 + s2)) (7 : Int32)) fun y20 =>
 if (((a0 >>> (y20 &&& 31)) &&& (1 : Int32)) = 0) then (
 Q s2)
 else (
 c (s2 + (1 : Int32))))
 else (
 Q (-1 : Int32))
def w_X7_soon (a0 : Int32) (a1 : Int32) (M : sk_M) (Q : Int32 → Prop) : Prop :=
 lp (w_X7_soon_L2 a0 a1 Q) sk_F (0 : Int32)
def w_X7_longestGap_L16 (a0 : Int32) (Q : Int32 → Prop) (c : (Int32 × Int32 × Int32) → Prop) (s16 : Int32 × Int32 × Int32) : Prop :=
 if (¬ ((14 : Int32) ≤ s16.2.2)) then (
 sLet (if (((a0 >>> ((rmI s16.2.2 (7 : Int32)) &&& 31)) &&& (1 : Int32)) = 0) then (s16.1 + (1 : Int32)) else (0 : Int32) : Int32) fun s40_30 =>
 sLet (mxI s16.2.1 s40_30) fun y46 =>
 c (s40_30, y46, (s16.2.2 + (1 : Int32))))
 else (
 Q s16.2.1)
def w_X7_longestGap (a0 : Int32) (M : sk_M) (Q : Int32 → Prop) : Prop :=
 if ((a0 &&& (127 : Int32)) = 0) then (
 Q (7 : Int32))
 else (
 lp (w_X7_longestGap_L16 a0 Q) sk_F ((0 : Int32), (0 : Int32), (0 : Int32)))
def w_X7_needPerson (a1 : Int32) (M : sk_M) (Q : Prop) (X : String → Prop) : Prop :=
 if ((a1 < 0) ∨ (¬ (a1 < (M.1 0 1)))) then (
 X "java/lang/IndexOutOfBoundsException")
 else (
 Q)
def w_X7_left (a1 : Int32) (a2 : Int32) (M : sk_M) (Q : Int32 → Prop) (X : String → Prop) : Prop :=
 w_X7_needPerson a1 M (
 w_X7_needVault a2 M (
 w_X5_leftOf 0 a1 a2 M (fun r16 =>
 Q r16)) X) X
def w_X7_code (a1 : Int32) (a2 : Int32) (a3 : Int32) (M : sk_M) (Q : Int32 → sk_M → Prop) (X : String → sk_M → Prop) : Prop :=
 w_X7_needPerson a1 M (
 w_X7_needVault a2 M (
 w_X4_load a1 a2 M (fun M16 =>
 if (¬ (a3 < 0) ∧ (¬ ((M16.1 130 8) ≤ a3))) then (
 vp_in a3 216 ∧
 Q (M16.1 131 a3.toNatClampNeg) M16)
 else (
 Q (-1 : Int32) M16))) (fun e9 => X e9 M)) (fun e9 => X e9 M)
def w_X7_needWheel (a0 : Int32) (M : sk_M) (Q : Prop) (X : String → Prop) : Prop :=
 if ((a0 < 0) ∨ (¬ (a0 < (3 : Int32)))) then (
 X "java/lang/IndexOutOfBoundsException")
 else (
 Q)
def w_X7_wheel (a1 : Int32) (a2 : Int32) (a3 : Int32) (a4 : Int32) (M : sk_M) (Q : Int32 → sk_M → Prop) (X : String → sk_M → Prop) : Prop :=
 w_X7_needPerson a1 M (
 w_X7_needVault a2 M (
 w_X7_needWheel a3 M (
 w_X4_load a1 a2 M (fun M20 =>
 w_X4_sidesOf a3 M20 (fun r28 =>
 if (¬ (a4 = 0)) then (
 Q r28 M20)
 else (
 if ((bc32 r28) = (1 : Int32)) then (
 Q (f_J6_numberOfTrailingZeros_0f7a4 r28) M20)
 else (
 Q (-1 : Int32) M20))))) (fun e9 => X e9 M)) (fun e9 => X e9 M)) (fun e9 => X e9 M)
def w_X7_click (a1 : Int32) (a2 : Int32) (a3 : Int32) (M : sk_M) (Q : Int32 → Prop) (X : String → Prop) : Prop :=
 w_X7_needWheel a1 M (
 if ((a2 < 0) ∨ (((6 : Int32) ≤ a2) ∨ ((a3 < 0) ∨ (¬ (a3 < (6 : Int32)))))) then (
 X "java/lang/IllegalArgumentException")
 else (
 vp_in (((a1 * (36 : Int32)) + (a2 * (6 : Int32))) + a3) 108 ∧
 Q (M.1 (0 + 7) (((a1 * (36 : Int32)) + (a2 * (6 : Int32))) + a3).toNatClampNeg))) X
def w_X7_needCode (a0 : Int32) (M : sk_M) (Q : Prop) (X : String → Prop) : Prop :=
 if ((a0 < 0) ∨ (¬ (a0 < (216 : Int32)))) then (
 X "java/lang/IndexOutOfBoundsException")
 else (
 Q)
def w_X7_sound (a1 : Int32) (a2 : Int32) (M : sk_M) (Q : Int32 → Prop) (X : String → Prop) : Prop :=
 w_X7_needCode a1 M (
 w_X7_needCode a2 M (
 w_X5_soundOf 0 a1 a2 M (fun r14 =>
 Q r14)) X) X
def w_X7_turn (a1 : Int32) (a2 : Int32) (a3 : Int32) (M : sk_M) (Q : Int32 → sk_M → Prop) (X : String → sk_M → Prop) : Prop :=
 w_X7_needPerson a1 M (
 w_X7_needVault a2 M (
 w_X7_needCode a3 M (
 w_X5_isGuarded 0 a2 M (fun r19 =>
 if (¬ (r19 = 0)) then (
 X "java/lang/IllegalStateException" M)
 else (
 w_X3_keep 0 M (fun M43 =>
 vp_in a2 6 ∧
 sLet (M43.1 (0 + 1) a2.toNatClampNeg) fun y55 =>
 w_X5_soundOf 0 a3 y55 M43 (fun r64 =>
 w_X4_load a1 a2 M43 (fun M75 =>
 w_X4_hear a3 y55 M75 (fun M85 =>
 w_X5_know 0 a1 a2 M85 (fun M98 =>
 sLet (fun s122_104 : sk_M =>
 w_X5_write 0 a1 a2 a3 r64 s122_104 (fun M131 =>
 Q r64 M131)) fun j122_104 =>
 if (a3 = y55) then (
 sLet (sk_si M98 0 9 ((M98.1 0 9) ||| ((1 : Int32) <<< (a2 &&& 31)))) fun M119 =>
 j122_104 M119)
 else (
 j122_104 M98))))))))) (fun e9 => X e9 M)) (fun e9 => X e9 M)) (fun e9 => X e9 M)
def w_X7_needTwo (a1 : Int32) (a2 : Int32) (a3 : Int32) (M : sk_M) (Q : Prop) (X : String → Prop) : Prop :=
 w_X7_needPerson a1 M (
 w_X7_needPerson a2 M (
 w_X7_needVault a3 M (
 if (a1 = a2) then (
 X "java/lang/IllegalArgumentException")
 else (
 Q)) X) X) X
def w_X7_tell (a1 : Int32) (a2 : Int32) (a3 : Int32) (M : sk_M) (Q : Int32 → sk_M → Prop) (X : String → sk_M → Prop) : Prop :=
 w_X7_needTwo a1 a2 a3 M (
 w_X3_keep 0 M (fun M15 =>
 w_X5_learnFrom 0 a2 a1 a3 M15 (fun M25 =>
 w_X5_leftOf 0 a2 a3 M25 (fun r34 =>
 Q r34 M25)))) (fun e9 => X e9 M)
def w_X7_forget (a1 : Int32) (a2 : Int32) (M : sk_M) (Q : Int32 → sk_M → Prop) (X : String → sk_M → Prop) : Prop :=
 w_X7_needPerson a1 M (
 w_X7_needVault a2 M (
 w_X3_keep 0 M (fun M18 =>
 w_X5_leftOf 0 a1 a2 M18 (fun r27 =>
 w_X5_knowNothing 0 a1 a2 M18 (fun M37 =>
 Q r27 M37)))) (fun e9 => X e9 M)) (fun e9 => X e9 M)
def w_X7_change (a1 : Int32) (a2 : Int32) (M : sk_M) (Q : Int32 → sk_M → Prop) (X : String → sk_M → Prop) : Prop :=
 w_X7_needVault a1 M (
 w_X7_needCode a2 M (
 w_X3_keep 0 M (fun M17 =>
 vp_in a1 6 ∧
 sLet (M17.1 (0 + 1) a1.toNatClampNeg) fun y29 =>
 w_X5_tellAnew 0 a1 a2 M17 (fun M36 =>
 sLet (sk_si M36 0 8 ((M36.1 0 8) + (1 : Int32))) fun M49 =>
 Q y29 M49))) (fun e9 => X e9 M)) (fun e9 => X e9 M)
def w_X7_guard (a1 : Int32) (a2 : Int32) (a3 : Int32) (M : sk_M) (Q : Int32 → sk_M → Prop) (X : String → sk_M → Prop) : Prop :=
 w_X7_needVault a1 M (
 if ((a2 < 0) ∨ (¬ (a2 < (7 : Int32)))) then (
 X "java/lang/IllegalArgumentException" M)
 else (
 w_X3_keep 0 M (fun M33 =>
 vp_in a1 6 ∧
 sLet (M33.1 (0 + 2) a1.toNatClampNeg) fun y45 =>
 sLet (if (¬ (a3 = 0)) then (y45 ||| ((1 : Int32) <<< (a2 &&& 31))) else (y45 &&& (((1 : Int32) <<< (a2 &&& 31)) ^^^ (-1 : Int32))) : Int32) fun s68_48 =>
 vp_in a1 6 ∧ sLet (sk_si M33 (0 + 2) a1.toNatClampNeg s68_48) fun M80 =>
 if (¬ (s68_48 = y45)) then (
 Q (1 : Int32) M80)
 else (
 Q (0 : Int32) M80)))) (fun e9 => X e9 M)
def w_X7_days_L53  (k98 : sk_M → Prop) (c : (Int32 × sk_M) → Prop) (s53 : Int32 × sk_M) : Prop :=
 if (¬ ((s53.2.1 0 0) ≤ s53.1)) then (
 w_X2_hasTold s53.1 s53.2 (fun r69 =>
 if (¬ (r69 = 0)) then (
 vp_in s53.1 6 ∧
 w_X5_tellAnew 0 s53.1 (s53.2.1 139 s53.1.toNatClampNeg) s53.2 (fun M89 =>
 c ((s53.1 + (1 : Int32)), M89)))
 else (
 c ((s53.1 + (1 : Int32)), s53.2))))
 else (
 k98 s53.2)
def w_X7_days (a1 : Int32) (M : sk_M) (Q : Int32 → sk_M → Prop) (X : String → sk_M → Prop) : Prop :=
 if ((a1 < (1 : Int32)) ∨ (¬ (a1 ≤ (60 : Int32)))) then (
 X "java/lang/IllegalArgumentException" M)
 else (
 w_X3_keep 0 M (fun M29 =>
 w_X2_work 0 (M29.1 0 7) a1 M29 (fun M48 =>
 lp (w_X7_days_L53  (fun s98 : sk_M =>
 sLet (sk_si s98 0 8 ((s98.1 0 8) + (s98.1 138 2))) fun M114 =>
 sLet (sk_si M114 0 7 (M114.1 138 1)) fun M128 =>
 sLet (sk_si M128 0 5 (mnI (9999 : Int32) ((M128.1 0 5) + a1))) fun M150 =>
 Q (M150.1 138 2) M150)) sk_F ((0 : Int32), M48))))
def w_X7_parts (a1 : Int32) (a2 : Int32) (a3 : Int32) (a4 : Int32) (M : sk_M) (Q : Int32 → sk_M → Prop) (X : String → sk_M → Prop) : Prop :=
 w_X7_needPerson a1 M (
 w_X7_needVault a2 M (
 w_X7_needCode a3 M (
 w_X4_load a1 a2 M (fun M20 =>
 if (¬ (a4 = 0)) then (
 w_X4_greatestPart a3 (217 : Int32) M20 (fun r36 M36 =>
 Q r36 M36))
 else (
 w_X4_partsBy a3 M20 (fun r47 M47 =>
 Q r47 M47)))) (fun e9 => X e9 M)) (fun e9 => X e9 M)) (fun e9 => X e9 M)
def w_X7_next (a1 : Int32) (a2 : Int32) (M : sk_M) (Q : Int32 → sk_M → Prop) (X : String → sk_M → Prop) : Prop :=
 w_X7_needPerson a1 M (
 w_X7_needVault a2 M (
 w_X4_load a1 a2 M (fun M16 =>
 w_X4_bestTurning M16 (fun r23 M23 =>
 Q r23 M23))) (fun e9 => X e9 M)) (fun e9 => X e9 M)
def w_X7_outright_L21  (Q : Int32 → sk_M → Prop) (c : (Int32 × sk_M) → Prop) (s21 : Int32 × sk_M) : Prop :=
 if (¬ ((216 : Int32) ≤ s21.1)) then (
 w_X4_greatestPart s21.1 (2 : Int32) s21.2 (fun r34 M34 =>
 if (¬ ((2 : Int32) ≤ r34)) then (
 Q s21.1 M34)
 else (
 c ((s21.1 + (1 : Int32)), M34))))
 else (
 Q (-1 : Int32) s21.2)
def w_X7_outright (a1 : Int32) (a2 : Int32) (M : sk_M) (Q : Int32 → sk_M → Prop) (X : String → sk_M → Prop) : Prop :=
 w_X7_needPerson a1 M (
 w_X7_needVault a2 M (
 w_X4_load a1 a2 M (fun M16 =>
 lp (w_X7_outright_L21 Q) sk_F ((0 : Int32), M16))) (fun e9 => X e9 M)) (fun e9 => X e9 M)
def w_X7_worst (a1 : Int32) (a2 : Int32) (M : sk_M) (Q : Int32 → sk_M → Prop) (X : String → sk_M → Prop) : Prop :=
 w_X7_needPerson a1 M (
 w_X7_needVault a2 M (
 w_X4_load a1 a2 M (fun M16 =>
 w_X4_turningsNeeded M16 (fun r23 M23 =>
 Q r23 M23))) (fun e9 => X e9 M)) (fun e9 => X e9 M)
def w_X7_quietest (a1 : Int32) (M : sk_M) (Q : Int32 → sk_M → Prop) (X : String → sk_M → Prop) : Prop :=
 w_X7_needCode a1 M (
 w_X4_loadAllBut a1 M (fun M9 =>
 w_X4_mostShared a1 M9 (fun r17 M17 =>
 Q r17 M17))) (fun e9 => X e9 M)
def w_X7_loudest_L13  (M : sk_M) (Q : Int32 → Prop) (c : (Int32 × Int32 × Int32) → Prop) (s13 : Int32 × Int32 × Int32) : Prop :=
 if (¬ ((216 : Int32) ≤ s13.2.2)) then (
 w_X5_rangeOf 0 s13.2.2 M (fun r25 =>
 if (¬ (r25 ≤ s13.2.1)) then (
 c (s13.2.2, r25, (s13.2.2 + (1 : Int32))))
 else (
 c (s13.1, s13.2.1, (s13.2.2 + (1 : Int32))))))
 else (
 Q s13.1)
def w_X7_loudest  (M : sk_M) (Q : Int32 → Prop) : Prop :=
 w_X5_rangeOf 0 (0 : Int32) M (fun r7 =>
 lp (w_X7_loudest_L13 M Q) sk_F ((0 : Int32), r7, (1 : Int32)))
def w_X7_deaf_L14 (s4 : Int32 × Int32) (M : sk_M) (k50 : Int32 → Prop) (c : (Int32 × Int32) → Prop) (s14 : Int32 × Int32) : Prop :=
 if (¬ ((6 : Int32) ≤ s14.2)) then (
 if (¬ (s14.1 = 0)) then (
 w_X5_wheelRange 0 s4.2 s14.2 M (fun r32 =>
 if (r32 = 0) then (
 c ((1 : Int32), (s14.2 + (1 : Int32))))
 else (
 c ((0 : Int32), (s14.2 + (1 : Int32))))))
 else (
 c ((0 : Int32), (s14.2 + (1 : Int32)))))
 else (
 k50 s14.1)
def w_X7_deaf_L4  (M : sk_M) (Q : Int32 → Prop) (c : (Int32 × Int32) → Prop) (s4 : Int32 × Int32) : Prop :=
 if (¬ ((3 : Int32) ≤ s4.2)) then (
 lp (w_X7_deaf_L14 s4 M (fun s50 : Int32 =>
 if (¬ (s50 = 0)) then (
 sLet (s4.1 ||| ((1 : Int32) <<< (s4.2 &&& 31))) fun y59 =>
 c (y59, (s4.2 + (1 : Int32))))
 else (
 c (s4.1, (s4.2 + (1 : Int32)))))) sk_F ((1 : Int32), (0 : Int32)))
 else (
 Q s4.1)
def w_X7_deaf  (M : sk_M) (Q : Int32 → Prop) : Prop :=
 lp (w_X7_deaf_L4 M Q) sk_F ((0 : Int32), (0 : Int32))
def w_X7_alone_L9 (a1 : Int32) (M : sk_M) (Q : Int32 → Prop) (c : (Int32 × Int32) → Prop) (s9 : Int32 × Int32) : Prop :=
 if (¬ ((M.1 0 1) ≤ s9.2)) then (
 w_X5_leftOf 0 s9.2 a1 M (fun r26 =>
 if (r26 = (1 : Int32)) then (
 sLet (s9.1 ||| ((1 : Int32) <<< (s9.2 &&& 31))) fun y38 =>
 c (y38, (s9.2 + (1 : Int32))))
 else (
 c (s9.1, (s9.2 + (1 : Int32))))))
 else (
 Q s9.1)
def w_X7_alone (a1 : Int32) (M : sk_M) (Q : Int32 → Prop) (X : String → Prop) : Prop :=
 w_X7_needVault a1 M (
 lp (w_X7_alone_L9 a1 M Q) sk_F ((0 : Int32), (0 : Int32))) X
def w_X7_together (a1 : Int32) (a2 : Int32) (M : sk_M) (Q : Int32 → Prop) (X : String → Prop) : Prop :=
 w_X7_needVault a2 M (
 w_X5_leftOfAll 0 a1 a2 M (fun r11 =>
 if (r11 = (1 : Int32)) then (
 Q (1 : Int32))
 else (
 Q (0 : Int32)))) X
def w_X7_fewest_L27 (a1 : Int32) (a2 : Int32) (y16 : Int32) (M : sk_M) (Q : Int32 → Prop) (c : (Int32 × Int32 × Int32) → Prop) (s27 : Int32 × Int32 × Int32) : Prop :=
 if (¬ (y16 < s27.2.2)) then (
 sLet (if (¬ (a2 = 0)) then (y16 &&& (s27.2.2 ^^^ (-1 : Int32))) else s27.2.2 : Int32) fun s48_34 =>
 if (¬ (s27.2.1 ≤ (bc32 s27.2.2))) then (
 w_X5_leftOfAll 0 s48_34 a1 M (fun r67 =>
 sLet (if (r67 = (1 : Int32)) then (1 : Int32) else (0 : Int32) : Int32) fun s79_71 =>
 if (¬ (s79_71 = a2)) then (
 sLet (bc32 s27.2.2) fun y92 =>
 c (s27.2.2, y92, (s27.2.2 + (1 : Int32))))
 else (
 c (s27.1, s27.2.1, (s27.2.2 + (1 : Int32))))))
 else (
 c (s27.1, s27.2.1, (s27.2.2 + (1 : Int32)))))
 else (
 Q s27.1)
def w_X7_fewest (a1 : Int32) (a2 : Int32) (M : sk_M) (Q : Int32 → Prop) (X : String → Prop) : Prop :=
 w_X7_needVault a1 M (
 sLet (((1 : Int32) <<< ((M.1 0 1) &&& 31)) - (1 : Int32)) fun y16 =>
 lp (w_X7_fewest_L27 a1 a2 y16 M Q) sk_F ((-1 : Int32), (7 : Int32), (0 : Int32))) X
def w_X7_pair_L32 (a1 : Int32) (s14 : Int32 × Int32 × Int32) (M : sk_M) (k87 : (Int32 × Int32) → Prop) (c : (Int32 × Int32 × Int32) → Prop) (s32 : Int32 × Int32 × Int32) : Prop :=
 if (¬ ((M.1 0 1) ≤ s32.2.2)) then (
 w_X5_leftOfAll 0 (((1 : Int32) <<< (s14.2.2 &&& 31)) ||| ((1 : Int32) <<< (s32.2.2 &&& 31))) a1 M (fun r58 =>
 if (¬ (s32.2.1 ≤ r58)) then (
 sLet (((10 : Int32) * s14.2.2) + s32.2.2) fun y77 =>
 c (y77, r58, (s32.2.2 + (1 : Int32))))
 else (
 c (s32.1, s32.2.1, (s32.2.2 + (1 : Int32))))))
 else (
 k87 (s32.1, s32.2.1))
def w_X7_pair_L14 (a1 : Int32) (M : sk_M) (Q : Int32 → Prop) (c : (Int32 × Int32 × Int32) → Prop) (s14 : Int32 × Int32 × Int32) : Prop :=
 if (¬ ((M.1 0 1) ≤ s14.2.2)) then (
 sLet (s14.2.2 + (1 : Int32)) fun y30 =>
 lp (w_X7_pair_L32 a1 s14 M (fun s87 : Int32 × Int32 =>
 c (s87.1, s87.2, (s14.2.2 + (1 : Int32))))) sk_F (s14.1, s14.2.1, y30))
 else (
 Q s14.1)
def w_X7_pair (a1 : Int32) (M : sk_M) (Q : Int32 → Prop) (X : String → Prop) : Prop :=
 w_X7_needVault a1 M (
 lp (w_X7_pair_L14 a1 M Q) sk_F ((-1 : Int32), (217 : Int32), (0 : Int32))) X
def w_X7_gains (a1 : Int32) (a2 : Int32) (a3 : Int32) (M : sk_M) (Q : Int32 → Prop) (X : String → Prop) : Prop :=
 w_X7_needTwo a1 a2 a3 M (
 w_X5_leftOf 0 a1 a3 M (fun r13 =>
 w_X5_leftOfAll 0 (((1 : Int32) <<< (a1 &&& 31)) ||| ((1 : Int32) <<< (a2 &&& 31))) a3 M (fun r28 =>
 Q (r13 - r28)))) X
def w_X7_broken_L4  (M : sk_M) (Q : Int32 → Prop) (c : (Int32 × Int32) → Prop) (s4 : Int32 × Int32) : Prop :=
 if (¬ ((M.1 0 2) ≤ s4.2)) then (
 w_X5_isBroken 0 s4.2 M (fun r20 =>
 if (¬ (r20 = 0)) then (
 sLet (s4.1 ||| ((1 : Int32) <<< (s4.2 &&& 31))) fun y31 =>
 c (y31, (s4.2 + (1 : Int32))))
 else (
 c (s4.1, (s4.2 + (1 : Int32))))))
 else (
 Q s4.1)
def w_X7_broken  (M : sk_M) (Q : Int32 → Prop) : Prop :=
 lp (w_X7_broken_L4 M Q) sk_F ((0 : Int32), (0 : Int32))
def f_X7_fewerOf (a0 : Int32) (a1 : Int32) : Int32 :=
 sLeT ((bc32 a0) - (bc32 a1)) fun y9 =>
 if ((y9 < 0) ∨ ((y9 = 0) ∧ (¬ (a1 ≤ a0)))) then (
 a0)
 else (
 a1)
def w_X7_breaks_L4  (M : sk_M) (Q : Int32 → Prop) (c : (Int32 × Int32) → Prop) (s4 : Int32 × Int32) : Prop :=
 if (¬ ((M.1 0 2) ≤ s4.2)) then (
 w_X5_quarrelsOf 0 s4.2 M (fun r20 =>
 if (¬ (r20 = 0)) then (
 w_X5_quarrelsOf 0 (f_J6_numberOfTrailingZeros_0f7a4 r20) M (fun r38 =>
 sLet (s4.1 ||| (f_X7_fewerOf r20 r38)) fun y45 =>
 c (y45, (s4.2 + (1 : Int32)))))
 else (
 c (s4.1, (s4.2 + (1 : Int32))))))
 else (
 Q s4.1)
def w_X7_breaks  (M : sk_M) (Q : Int32 → Prop) : Prop :=
 lp (w_X7_breaks_L4 M Q) sk_F ((0 : Int32), (0 : Int32))
def w_X7_rota_L46 (a2 : Int32) (y35 : Int32) (M : sk_M) (Q : Int32 → Prop) (c : (Int32 × Int32 × Int32) → Prop) (s46 : Int32 × Int32 × Int32) : Prop :=
 if (¬ ((127 : Int32) < s46.2.2)) then (
 if (((s46.2.2 &&& y35) = 0) ∧ (¬ (s46.2.1 ≤ (bc32 s46.2.2)))) then (
 w_X7_longestGap (y35 ||| s46.2.2) M (fun r74 =>
 if (¬ (a2 < r74)) then (
 sLet (bc32 s46.2.2) fun y90 =>
 c (s46.2.2, y90, (s46.2.2 + (1 : Int32))))
 else (
 c (s46.1, s46.2.1, (s46.2.2 + (1 : Int32))))))
 else (
 c (s46.1, s46.2.1, (s46.2.2 + (1 : Int32)))))
 else (
 Q s46.1)
def w_X7_rota (a1 : Int32) (a2 : Int32) (M : sk_M) (Q : Int32 → Prop) (X : String → Prop) : Prop :=
 w_X7_needVault a1 M (
 if ((a2 < 0) ∨ (¬ (a2 < (7 : Int32)))) then (
 X "java/lang/IllegalArgumentException")
 else (
 vp_in a1 6 ∧
 sLet (M.1 (0 + 2) a1.toNatClampNeg) fun y35 =>
 lp (w_X7_rota_L46 a2 y35 M Q) sk_F ((0 : Int32), (8 : Int32), (0 : Int32)))) X
def w_X7_richest_L13 (a1 : Int32) (a2 : Int32) (M : sk_M) (Q : Int32 → Prop) (c : (Int32 × Int32 × Int32) → Prop) (s13 : Int32 × Int32 × Int32) : Prop :=
 if (¬ ((M.1 0 0) ≤ s13.2.2)) then (
 w_X5_isGuarded 0 s13.2.2 M (fun r31 =>
 if (¬ (r31 = 0)) then (
 c (s13.1, s13.2.1, (s13.2.2 + (1 : Int32))))
 else (
 sLet (fun s68_41 : Int32 =>
 if ((s13.1 = (-1 : Int32)) ∨ (¬ (s68_41 ≤ s13.2.1))) then (
 c (s13.2.2, s68_41, (s13.2.2 + (1 : Int32))))
 else (
 c (s13.1, s13.2.1, (s13.2.2 + (1 : Int32))))) fun j68_41 =>
 if (¬ (a2 = 0)) then (
 w_X5_leftOf 0 a1 s13.2.2 M (fun r51 =>
 j68_41 (-r51)))
 else (
 w_X5_shareOf 0 a1 s13.2.2 M (fun r65 =>
 j68_41 r65)))))
 else (
 Q s13.1)
def w_X7_richest (a1 : Int32) (a2 : Int32) (M : sk_M) (Q : Int32 → Prop) (X : String → Prop) : Prop :=
 w_X7_needPerson a1 M (
 lp (w_X7_richest_L13 a1 a2 M Q) sk_F ((-1 : Int32), (0 : Int32), (0 : Int32))) X
def w_X7_first_L15 (a1 : Int32) (M : sk_M) (Q : Int32 → Prop) (k45 : Int32 → Prop) (c : Int32 → Prop) (s15 : Int32) : Prop :=
 if (¬ (s15 < 0)) then (
 w_X5_rowCell 0 s15 (2 : Int32) M (fun r25 =>
 if (r25 = a1) then (
 w_X5_rowCell 0 s15 (5 : Int32) M (fun r38 =>
 if (r38 = (1 : Int32)) then (
 k45 s15)
 else (
 c (s15 + (-1 : Int32)))))
 else (
 c (s15 + (-1 : Int32)))))
 else (
 Q (-1 : Int32))
def w_X7_first (a1 : Int32) (M : sk_M) (Q : Int32 → Prop) (X : String → Prop) : Prop :=
 w_X7_needVault a1 M (
 sLet ((M.1 0 10) - (1 : Int32)) fun y14 =>
 lp (w_X7_first_L15 a1 M Q (fun s45 : Int32 =>
 w_X5_rowCell 0 s45 (1 : Int32) M (fun r51 =>
 Q r51))) sk_F y14) X
def w_X7_turned_L20 (a1 : Int32) (a2 : Int32) (M : sk_M) (Q : Int32 → Prop) (c : (Int32 × Int32) → Prop) (s20 : Int32 × Int32) : Prop :=
 if (¬ ((M.1 0 10) ≤ s20.2)) then (
 w_X5_rowCell 0 s20.2 (2 : Int32) M (fun r39 =>
 sLet (if (r39 = a1) then (1 : Int32) else (0 : Int32) : Int32) fun s51_43 =>
 if (¬ (s51_43 = 0)) then (
 if (¬ (a2 = (-1 : Int32))) then (
 w_X5_rowCell 0 s20.2 (1 : Int32) M (fun r70 =>
 if (r70 = a2) then (
 c ((s20.1 + (1 : Int32)), (s20.2 + (1 : Int32))))
 else (
 c (s20.1, (s20.2 + (1 : Int32))))))
 else (
 c ((s20.1 + (1 : Int32)), (s20.2 + (1 : Int32)))))
 else (
 c (s20.1, (s20.2 + (1 : Int32))))))
 else (
 Q s20.1)
def w_X7_turned (a1 : Int32) (a2 : Int32) (M : sk_M) (Q : Int32 → Prop) (X : String → Prop) : Prop :=
 w_X7_needVault a1 M (
 sLet (fun s15_7 : Unit =>
 lp (w_X7_turned_L20 a1 a2 M Q) sk_F ((0 : Int32), (0 : Int32))) fun j15_7 =>
 if (¬ (a2 = (-1 : Int32))) then (
 w_X7_needPerson a2 M (
 j15_7 ()) X)
 else (
 j15_7 ())) X
def w_X7_price_L9 (a1 : Int32) (M : sk_M) (Q : Int32 → Prop) (c : (Int32 × Int32) → Prop) (s9 : Int32 × Int32) : Prop :=
 if (¬ ((M.1 0 0) ≤ s9.2)) then (
 w_X5_shareOf 0 a1 s9.2 M (fun r27 =>
 sLet (s9.1 + r27) fun y31 =>
 c (y31, (s9.2 + (1 : Int32)))))
 else (
 Q s9.1)
def w_X7_price (a1 : Int32) (M : sk_M) (Q : Int32 → Prop) (X : String → Prop) : Prop :=
 w_X7_needPerson a1 M (
 lp (w_X7_price_L9 a1 M Q) sk_F ((0 : Int32), (0 : Int32))) X
def w_X7_risky_L35 (s18 : Int32 × Int32 × Int32) (M : sk_M) (k68 : Int32 → Prop) (c : (Int32 × Int32) → Prop) (s35 : Int32 × Int32) : Prop :=
 if (¬ ((M.1 0 1) ≤ s35.2)) then (
 w_X5_leftOf 0 s35.2 s18.2.2 M (fun r56 =>
 sLet (s35.1 + r56) fun y60 =>
 c (y60, (s35.2 + (1 : Int32)))))
 else (
 k68 s35.1)
def w_X7_risky_L18  (M : sk_M) (Q : Int32 → Prop) (c : (Int32 × Int32 × Int32) → Prop) (s18 : Int32 × Int32 × Int32) : Prop :=
 if (¬ ((M.1 0 0) ≤ s18.2.2)) then (
 lp (w_X7_risky_L35 s18 M (fun s68 : Int32 =>
 if ((s18.1 = (-1 : Int32)) ∨ (¬ (s18.2.1 ≤ s68))) then (
 c (s18.2.2, s68, (s18.2.2 + (1 : Int32))))
 else (
 c (s18.1, s18.2.1, (s18.2.2 + (1 : Int32)))))) sk_F ((0 : Int32), (0 : Int32)))
 else (
 Q s18.1)
def w_X7_risky  (M : sk_M) (Q : Int32 → Prop) : Prop :=
 if ((M.1 0 1) = 0) then (
 Q (-1 : Int32))
 else (
 lp (w_X7_risky_L18 M Q) sk_F ((-1 : Int32), (0 : Int32), (0 : Int32)))
def w_X7_when_L32 (y19 : Int32) (Q : Int32 → sk_M → Prop) (c : (Int32 × sk_M) → Prop) (s32 : Int32 × sk_M) : Prop :=
 if (¬ ((20 : Int32) < s32.1)) then (
 w_X4_bestTurning s32.2 (fun r43 M43 =>
 if (r43 = y19) then (
 Q s32.1 M43)
 else (
 w_X4_hear r43 y19 M43 (fun M64 =>
 c ((s32.1 + (1 : Int32)), M64)))))
 else (
 Q (-1 : Int32) s32.2)
def w_X7_when (a1 : Int32) (a2 : Int32) (M : sk_M) (Q : Int32 → sk_M → Prop) (X : String → sk_M → Prop) : Prop :=
 w_X7_needPerson a1 M (
 w_X7_needVault a2 M (
 vp_in a2 6 ∧
 sLet (M.1 (0 + 1) a2.toNatClampNeg) fun y19 =>
 w_X4_load a1 a2 M (fun M26 =>
 lp (w_X7_when_L32 y19 Q) sk_F ((1 : Int32), M26))) (fun e9 => X e9 M)) (fun e9 => X e9 M)
def w_X7_needTrial (a0 : Int32) (M : sk_M) (Q : Prop) (X : String → Prop) : Prop :=
 if ((a0 < 0) ∨ (¬ (a0 ≤ (40 : Int32)))) then (
 X "java/lang/IllegalArgumentException")
 else (
 Q)
def w_X7_leftWholeAfterwards_L17 (s4 : Int32 × Int32) (M : sk_M) (k63 : Int32 → Prop) (c : (Int32 × Int32) → Prop) (s17 : Int32 × Int32) : Prop :=
 if (¬ ((M.1 0 1) ≤ s17.2)) then (
 w_X2_hasTold s4.2 M (fun r33 =>
 if (r33 = 0) then (
 w_X5_leftOf 0 s17.2 s4.2 M (fun r45 =>
 if (r45 = (216 : Int32)) then (
 c ((s17.1 + (1 : Int32)), (s17.2 + (1 : Int32))))
 else (
 c (s17.1, (s17.2 + (1 : Int32))))))
 else (
 c ((s17.1 + (1 : Int32)), (s17.2 + (1 : Int32))))))
 else (
 k63 s17.1)
def w_X7_leftWholeAfterwards_L4  (M : sk_M) (Q : Int32 → Prop) (c : (Int32 × Int32) → Prop) (s4 : Int32 × Int32) : Prop :=
 if (¬ ((M.1 0 0) ≤ s4.2)) then (
 lp (w_X7_leftWholeAfterwards_L17 s4 M (fun s63 : Int32 =>
 c (s63, (s4.2 + (1 : Int32))))) sk_F (s4.1, (0 : Int32)))
 else (
 Q s4.1)
def w_X7_leftWholeAfterwards  (M : sk_M) (Q : Int32 → Prop) : Prop :=
 lp (w_X7_leftWholeAfterwards_L4 M Q) sk_F ((0 : Int32), (0 : Int32))
def w_X7_trial (a1 : Int32) (a2 : Int32) (M : sk_M) (Q : Int32 → sk_M → Prop) (X : String → sk_M → Prop) : Prop :=
 w_X7_needTrial a1 M (
 w_X2_work 0 (M.1 0 7) a1 M (fun M20 =>
 if (¬ (a2 = 0)) then (
 w_X7_leftWholeAfterwards M20 (fun r28 =>
 Q r28 M20))
 else (
 w_X2_changedFrom 0 M20 (fun r42 =>
 Q r42 M20)))) (fun e9 => X e9 M)
def w_X7_span_L9 (a1 : Int32) (a2 : Int32) (Q : Int32 → sk_M → Prop) (c : (Int32 × Int32 × sk_M) → Prop) (s9 : Int32 × Int32 × sk_M) : Prop :=
 if (¬ ((6 : Int32) < s9.2.1)) then (
 w_X2_work 0 s9.2.1 a1 s9.2.2 (fun M27 =>
 w_X2_changedFrom 0 M27 (fun r38 =>
 sLet (bc32 r38) fun y44 =>
 if (¬ (s9.1 = (-1 : Int32))) then (
 if (¬ (a2 = 0)) then (
 if (¬ (y44 ≤ s9.1)) then (
 c (y44, (s9.2.1 + (1 : Int32)), M27))
 else (
 c (s9.1, (s9.2.1 + (1 : Int32)), M27)))
 else (
 if (¬ (s9.1 ≤ y44)) then (
 c (y44, (s9.2.1 + (1 : Int32)), M27))
 else (
 c (s9.1, (s9.2.1 + (1 : Int32)), M27))))
 else (
 c (y44, (s9.2.1 + (1 : Int32)), M27)))))
 else (
 Q s9.1 s9.2.2)
def w_X7_span (a1 : Int32) (a2 : Int32) (M : sk_M) (Q : Int32 → sk_M → Prop) (X : String → sk_M → Prop) : Prop :=
 w_X7_needTrial a1 M (
 lp (w_X7_span_L9 a1 a2 Q) sk_F ((-1 : Int32), (1 : Int32), M)) (fun e9 => X e9 M)
def w_X7_seed (a1 : Int32) (M : sk_M) (Q : Int32 → sk_M → Prop) : Prop :=
 sLet (M.1 0 7) fun y7 =>
 sLet (sk_si M 0 7 a1) fun M13 =>
 Q y7 M13
def w_X7_undo  (M : sk_M) (Q : Int32 → sk_M → Prop) : Prop :=
 w_X3_giveBack 0 M (fun r8 M8 =>
 (r8 = 0 ∨ r8 = 1) ∧ Q r8 M8)
def w_X7_image  (M : sk_M) (Q : sk_M → Prop) : Prop :=
 w_X5_copyFrom 10 0 M (fun M8 =>
 sLet (sk_si M8 120 8 (1 : Int32)) fun M13 =>
 Q M13)
def w_X7_back  (M : sk_M) (Q : Int32 → sk_M → Prop) : Prop :=
 if ((M.1 120 8) = 0) then (
 Q (0 : Int32) M)
 else (
 w_X5_copyFrom 0 10 M (fun M17 =>
 w_X3_clear M17 (fun M24 =>
 Q (1 : Int32) M24)))
def w_X7_count (a1 : Int32) (M : sk_M) (Q : Int32 → Prop) : Prop :=
 if a1 = 0 then (
 Q (M.1 0 0))
 else (
 if a1 = 1 then (
 Q (M.1 0 1))
 else (
 if a1 = 2 then (
 Q (M.1 0 2))
 else (
 if a1 = 3 then (
 Q (M.1 0 3))
 else (
 if a1 = 4 then (
 Q (M.1 0 4))
 else (
 if a1 = 5 then (
 Q (M.1 0 5))
 else (
 if a1 = 6 then (
 Q (M.1 0 6))
 else (
 if a1 = 7 then (
 Q (M.1 0 9))
 else (
 if a1 = 8 then (
 w_X5_guardedToday 0 M (fun r136 =>
 Q r136))
 else (
 if a1 = 9 then (
 Q (M.1 0 10))
 else (
 if a1 = 10 then (
 Q (M.1 0 8))
 else (
 if a1 = 11 then (
 w_X5_worthOfAll 0 M (fun r160 =>
 Q r160))
 else (
 if a1 = 12 then (
 Q (M.1 123 1))
 else (
 Q (-1 : Int32))))))))))))))
def w_X7_vault (a1 : Int32) (a2 : Int32) (M : sk_M) (Q : Int32 → Prop) (X : String → Prop) : Prop :=
 w_X7_needVault a1 M (
 if a2 = 0 then (
 vp_in a1 6 ∧
 Q (M.1 (0 + 1) a1.toNatClampNeg))
 else (
 if a2 = 1 then (
 vp_in a1 6 ∧
 Q (M.1 (0 + 2) a1.toNatClampNeg))
 else (
 if a2 = 2 then (
 vp_in a1 6 ∧
 Q (M.1 (0 + 3) a1.toNatClampNeg))
 else (
 if a2 = 3 then (
 Q (((M.1 0 9) >>> (a1 &&& 31)) &&& (1 : Int32)))
 else (
 if a2 = 4 then (
 vp_in a1 6 ∧
 Q (f_X7_gaps (M.1 (0 + 2) a1.toNatClampNeg)))
 else (
 if a2 = 5 then (
 vp_in a1 6 ∧
 w_X7_soon (M.1 (0 + 2) a1.toNatClampNeg) (M.1 0 5) M (fun r119 =>
 Q r119))
 else (
 if a2 = 6 then (
 vp_in a1 6 ∧
 w_X7_longestGap (M.1 (0 + 2) a1.toNatClampNeg) M (fun r132 =>
 Q r132))
 else (
 X "java/util/NoSuchElementException")))))))) X
def w_X7_contract (a1 : Int32) (a2 : Int32) (M : sk_M) (Q : Int32 → Prop) (X : String → Prop) : Prop :=
 if ((a1 < 0) ∨ (¬ (a1 < (M.1 0 2)))) then (
 X "java/lang/IndexOutOfBoundsException")
 else (
 if a2 = 0 then (
 w_X5_isOpenContract 0 a1 M (fun r65 =>
 if (¬ (r65 = 0)) then (
 Q (1 : Int32))
 else (
 Q (0 : Int32))))
 else (
 if a2 = 1 then (
 vp_in a1 12 ∧
 Q (M.1 (0 + 4) a1.toNatClampNeg))
 else (
 if a2 = 2 then (
 vp_in a1 12 ∧
 Q (M.1 (0 + 5) a1.toNatClampNeg))
 else (
 if a2 = 3 then (
 vp_in a1 12 ∧
 Q (M.1 (0 + 6) a1.toNatClampNeg))
 else (
 if a2 = 4 then (
 w_X5_quarrelsOf 0 a1 M (fun r112 =>
 Q r112))
 else (
 X "java/util/NoSuchElementException"))))))
def w_X7_log (a1 : Int32) (a2 : Int32) (M : sk_M) (Q : Int32 → Prop) (X : String → Prop) : Prop :=
 if ((a2 < 0) ∨ (¬ (a2 < (6 : Int32)))) then (
 X "java/util/NoSuchElementException")
 else (
 if (¬ (a1 < 0) ∧ (¬ ((M.1 0 10) ≤ a1))) then (
 w_X5_rowCell 0 a1 a2 M (fun r42 =>
 Q r42))
 else (
 Q (-999 : Int32)))
