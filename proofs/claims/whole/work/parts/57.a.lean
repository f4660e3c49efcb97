/-! the world as the constructors leave it -/
def swT (cA : Nat → ClassId) (b : Nat) (p : Nat → Nat) (q : Nat → Nat → Nat) (a : Nat) (hs : Nat → Nat) (qs : Nat → Nat → Nat) (bm : Nat) (qm : Nat → Nat) (bo : Nat) : va_W := swX7 cA b p q a hs qs ++ swX8 cA bm qm ++ [(bo, .inl (cA 11, 1, .inr (.inl (fun _ => 0))))]
def swAd (b : Nat) (p : Nat → Nat) (q : Nat → Nat → Nat) (a : Nat) (hs : Nat → Nat) (qs : Nat → Nat → Nat) (bm : Nat) (qm : Nat → Nat) (bo : Nat) : Nat → Nat := fun c =>
  if c < 10 then (if c = 0 then p 2 else q 2 c) else if c < 20 then (if c = 10 then p 3 else q 3 (c - 10)) else if c < 120 then (if c % 10 = 0 then hs (c / 10 - 2) else qs (c / 10 - 2) (c % 10)) else
  [b, p 1, q 1 1, p 4, a, p 5, p 6, q 6 1, q 6 2, q 6 3, p 7, q 7 1, q 7 2, q 7 3, q 7 4, q 7 5, q 7 6, q 7 7, p 8, q 8 1, bm, qm 1, qm 2, qm 3, qm 4, qm 5, qm 6, qm 7, qm 8, qm 9, qm 10, qm 11, qm 12, qm 13, qm 14, qm 15, qm 16, qm 17, bo].getD (c - 120) 0
def M00 : sk_M := (fun c => if c < 120 then (if c % 10 = 0 then (fun k => if k = 4 then -1 else if k = 7 then 1 else 0) else if c % 10 = 7 then ckI 108 else fun _ => 0) else if c = 121 then (fun k => if k = 5 then -1 else 0) else if c = 140 then (fun k => if k = 19 then -1 else 0) else if c = 141 then upd (fun _ => 0) 9 1 else fun _ => 0,
  fun c => if c < 120 then (if c % 10 = 9 then knI 144 else fun _ => 0) else fun _ => 0)
theorem ap_l {A B : va_W} {k : Nat} {x : Nat × va_E} (h : A[k]? = some x) : (A ++ B)[k]? = some x := by
  rw [List.getElem?_append_left (List.getElem?_eq_some_iff.mp h).1]
  exact h
theorem ap_r {A B : va_W} {n k : Nat} {x : Nat × va_E} (hA : A.length = n) (h : B[k]? = some x) : (A ++ B)[n + k]? = some x := by
  rw [List.getElem?_append_right (by omega), show n + k - A.length = k by omega]
  exact h
theorem ln_a {A B : va_W} {n m : Nat} (h : A.length = n) (g : B.length = m) : (A ++ B).length = n + m := by rw [List.length_append, h, g]
theorem swL_len {cA : Nat → ClassId} {hs : Nat → Nat} {qs : Nat → Nat → Nat} : ∀ n, (swL cA hs qs n).length = 10 * n
  | 0 => rfl
  | n + 1 => by
    show (swL cA hs qs n ++ swX5 cA (hs n) (qs n)).length = _
    rw [List.length_append, swL_len n]
    show 10 * n + 10 = _
    omega
theorem swL_at {cA : Nat → ClassId} {hs : Nat → Nat} {qs : Nat → Nat → Nat} {j t : Nat} {x : Nat × va_E} (h : (swX5 cA (hs j) (qs j))[t]? = some x) : ∀ n, j < n → (swL cA hs qs n)[10 * j + t]? = some x
  | 0, hj => absurd hj (Nat.not_lt_zero _)
  | n + 1, hj => by
    show (swL cA hs qs n ++ swX5 cA (hs n) (qs n))[10 * j + t]? = some x
    by_cases z : j < n
    · exact ap_l (swL_at h n z)
    · obtain rfl : j = n := by omega
      exact ap_r (swL_len j) h
section SK57
variable {cA : Nat → ClassId} {b a bm bo : Nat} {p hs qm : Nat → Nat} {q qs : Nat → Nat → Nat}
set_option maxRecDepth 20000 in
theorem ln_3 : (swX3 cA (p 4) a hs qs).length = 102 := by
  show (swL cA hs qs 10).length + 1 + 1 = 102
  rw [swL_len]
set_option maxRecDepth 20000 in
theorem lp_1 : ([((b, .inr (7, [.ref (p 1), .ref (p 2), .ref (p 3), .ref (p 4), .ref (p 5), .ref (p 6), .ref (p 7), .ref (p 8), .int 0])) : Nat × va_E)]).length = 1 := rfl
set_option maxRecDepth 20000 in
theorem lp_2 : ([((b, .inr (7, [.ref (p 1), .ref (p 2), .ref (p 3), .ref (p 4), .ref (p 5), .ref (p 6), .ref (p 7), .ref (p 8), .int 0])) : Nat × va_E)] ++ swX6 cA (p 1) (q 1)).length = 3 := ln_a lp_1 (rfl : (swX6 cA (p 1) (q 1)).length = 2)
set_option maxRecDepth 20000 in
theorem lp_3 : ([((b, .inr (7, [.ref (p 1), .ref (p 2), .ref (p 3), .ref (p 4), .ref (p 5), .ref (p 6), .ref (p 7), .ref (p 8), .int 0])) : Nat × va_E)] ++ swX6 cA (p 1) (q 1) ++ swX5 cA (p 2) (q 2)).length = 13 := ln_a lp_2 (rfl : (swX5 cA (p 2) (q 2)).length = 10)
set_option maxRecDepth 20000 in
theorem lp_4 : ([((b, .inr (7, [.ref (p 1), .ref (p 2), .ref (p 3), .ref (p 4), .ref (p 5), .ref (p 6), .ref (p 7), .ref (p 8), .int 0])) : Nat × va_E)] ++ swX6 cA (p 1) (q 1) ++ swX5 cA (p 2) (q 2) ++ swX5 cA (p 3) (q 3)).length = 23 := ln_a lp_3 (rfl : (swX5 cA (p 3) (q 3)).length = 10)
set_option maxRecDepth 20000 in
theorem lp_5 : ([((b, .inr (7, [.ref (p 1), .ref (p 2), .ref (p 3), .ref (p 4), .ref (p 5), .ref (p 6), .ref (p 7), .ref (p 8), .int 0])) : Nat × va_E)] ++ swX6 cA (p 1) (q 1) ++ swX5 cA (p 2) (q 2) ++ swX5 cA (p 3) (q 3) ++ swX3 cA (p 4) a hs qs).length = 125 := ln_a lp_4 ln_3
set_option maxRecDepth 20000 in
theorem lp_6 : ([((b, .inr (7, [.ref (p 1), .ref (p 2), .ref (p 3), .ref (p 4), .ref (p 5), .ref (p 6), .ref (p 7), .ref (p 8), .int 0])) : Nat × va_E)] ++ swX6 cA (p 1) (q 1) ++ swX5 cA (p 2) (q 2) ++ swX5 cA (p 3) (q 3) ++ swX3 cA (p 4) a hs qs ++ swX0 cA (p 5) (p 1) (p 2) (q 5)).length = 126 := ln_a lp_5 (rfl : (swX0 cA (p 5) (p 1) (p 2) (q 5)).length = 1)
set_option maxRecDepth 20000 in
theorem lp_7 : ([((b, .inr (7, [.ref (p 1), .ref (p 2), .ref (p 3), .ref (p 4), .ref (p 5), .ref (p 6), .ref (p 7), .ref (p 8), .int 0])) : Nat × va_E)] ++ swX6 cA (p 1) (q 1) ++ swX5 cA (p 2) (q 2) ++ swX5 cA (p 3) (q 3) ++ swX3 cA (p 4) a hs qs ++ swX0 cA (p 5) (p 1) (p 2) (q 5) ++ swX1 cA (p 6) (p 1) (q 6)).length = 130 := ln_a lp_6 (rfl : (swX1 cA (p 6) (p 1) (q 6)).length = 4)
set_option maxRecDepth 20000 in
theorem lp_8 : ([((b, .inr (7, [.ref (p 1), .ref (p 2), .ref (p 3), .ref (p 4), .ref (p 5), .ref (p 6), .ref (p 7), .ref (p 8), .int 0])) : Nat × va_E)] ++ swX6 cA (p 1) (q 1) ++ swX5 cA (p 2) (q 2) ++ swX5 cA (p 3) (q 3) ++ swX3 cA (p 4) a hs qs ++ swX0 cA (p 5) (p 1) (p 2) (q 5) ++ swX1 cA (p 6) (p 1) (q 6) ++ swX4 cA (p 7) (p 2) (q 7)).length = 138 := ln_a lp_7 (rfl : (swX4 cA (p 7) (p 2) (q 7)).length = 8)
set_option maxRecDepth 20000 in
theorem lp_9 : ([((b, .inr (7, [.ref (p 1), .ref (p 2), .ref (p 3), .ref (p 4), .ref (p 5), .ref (p 6), .ref (p 7), .ref (p 8), .int 0])) : Nat × va_E)] ++ swX6 cA (p 1) (q 1) ++ swX5 cA (p 2) (q 2) ++ swX5 cA (p 3) (q 3) ++ swX3 cA (p 4) a hs qs ++ swX0 cA (p 5) (p 1) (p 2) (q 5) ++ swX1 cA (p 6) (p 1) (q 6) ++ swX4 cA (p 7) (p 2) (q 7) ++ swX2 cA (p 8) (q 8)).length = 140 := ln_a lp_8 (rfl : (swX2 cA (p 8) (q 8)).length = 2)
set_option maxRecDepth 20000 in
theorem lp_10 : ([((b, .inr (7, [.ref (p 1), .ref (p 2), .ref (p 3), .ref (p 4), .ref (p 5), .ref (p 6), .ref (p 7), .ref (p 8), .int 0])) : Nat × va_E)] ++ swX6 cA (p 1) (q 1) ++ swX5 cA (p 2) (q 2) ++ swX5 cA (p 3) (q 3) ++ swX3 cA (p 4) a hs qs ++ swX0 cA (p 5) (p 1) (p 2) (q 5) ++ swX1 cA (p 6) (p 1) (q 6) ++ swX4 cA (p 7) (p 2) (q 7) ++ swX2 cA (p 8) (q 8) ++ swX8 cA bm qm).length = 158 := ln_a lp_9 (rfl : (swX8 cA bm qm).length = 18)
set_option maxRecDepth 20000 in
theorem wx_0 : (swX5 cA (p 2) (q 2))[0]? = some ((swAd b p q a hs qs bm qm bo) 0, sk_ce (swAd b p q a hs qs bm qm bo) cA M00 0) := rfl
set_option maxRecDepth 20000 in
theorem wx_1 : (swX5 cA (p 2) (q 2))[1]? = some ((swAd b p q a hs qs bm qm bo) 1, sk_ce (swAd b p q a hs qs bm qm bo) cA M00 1) := rfl
set_option maxRecDepth 20000 in
theorem wx_2 : (swX5 cA (p 2) (q 2))[2]? = some ((swAd b p q a hs qs bm qm bo) 2, sk_ce (swAd b p q a hs qs bm qm bo) cA M00 2) := rfl
set_option maxRecDepth 20000 in
theorem wx_3 : (swX5 cA (p 2) (q 2))[3]? = some ((swAd b p q a hs qs bm qm bo) 3, sk_ce (swAd b p q a hs qs bm qm bo) cA M00 3) := rfl
set_option maxRecDepth 20000 in
theorem wx_4 : (swX5 cA (p 2) (q 2))[4]? = some ((swAd b p q a hs qs bm qm bo) 4, sk_ce (swAd b p q a hs qs bm qm bo) cA M00 4) := rfl
set_option maxRecDepth 20000 in
theorem wx_5 : (swX5 cA (p 2) (q 2))[5]? = some ((swAd b p q a hs qs bm qm bo) 5, sk_ce (swAd b p q a hs qs bm qm bo) cA M00 5) := rfl
set_option maxRecDepth 20000 in
theorem wx_6 : (swX5 cA (p 2) (q 2))[6]? = some ((swAd b p q a hs qs bm qm bo) 6, sk_ce (swAd b p q a hs qs bm qm bo) cA M00 6) := rfl
set_option maxRecDepth 20000 in
theorem wx_7 : (swX5 cA (p 2) (q 2))[7]? = some ((swAd b p q a hs qs bm qm bo) 7, sk_ce (swAd b p q a hs qs bm qm bo) cA M00 7) := rfl
set_option maxRecDepth 20000 in
theorem wx_8 : (swX5 cA (p 2) (q 2))[8]? = some ((swAd b p q a hs qs bm qm bo) 8, sk_ce (swAd b p q a hs qs bm qm bo) cA M00 8) := rfl
set_option maxRecDepth 20000 in
theorem wx_9 : (swX5 cA (p 2) (q 2))[9]? = some ((swAd b p q a hs qs bm qm bo) 9, sk_ce (swAd b p q a hs qs bm qm bo) cA M00 9) := rfl
set_option maxRecDepth 20000 in
theorem wx_10 : (swX5 cA (p 3) (q 3))[0]? = some ((swAd b p q a hs qs bm qm bo) 10, sk_ce (swAd b p q a hs qs bm qm bo) cA M00 10) := rfl
set_option maxRecDepth 20000 in
theorem wx_11 : (swX5 cA (p 3) (q 3))[1]? = some ((swAd b p q a hs qs bm qm bo) 11, sk_ce (swAd b p q a hs qs bm qm bo) cA M00 11) := rfl
set_option maxRecDepth 20000 in
theorem wx_12 : (swX5 cA (p 3) (q 3))[2]? = some ((swAd b p q a hs qs bm qm bo) 12, sk_ce (swAd b p q a hs qs bm qm bo) cA M00 12) := rfl
set_option maxRecDepth 20000 in
theorem wx_13 : (swX5 cA (p 3) (q 3))[3]? = some ((swAd b p q a hs qs bm qm bo) 13, sk_ce (swAd b p q a hs qs bm qm bo) cA M00 13) := rfl
set_option maxRecDepth 20000 in
theorem wx_14 : (swX5 cA (p 3) (q 3))[4]? = some ((swAd b p q a hs qs bm qm bo) 14, sk_ce (swAd b p q a hs qs bm qm bo) cA M00 14) := rfl
set_option maxRecDepth 20000 in
theorem wx_15 : (swX5 cA (p 3) (q 3))[5]? = some ((swAd b p q a hs qs bm qm bo) 15, sk_ce (swAd b p q a hs qs bm qm bo) cA M00 15) := rfl
set_option maxRecDepth 20000 in
theorem wx_16 : (swX5 cA (p 3) (q 3))[6]? = some ((swAd b p q a hs qs bm qm bo) 16, sk_ce (swAd b p q a hs qs bm qm bo) cA M00 16) := rfl
set_option maxRecDepth 20000 in
theorem wx_17 : (swX5 cA (p 3) (q 3))[7]? = some ((swAd b p q a hs qs bm qm bo) 17, sk_ce (swAd b p q a hs qs bm qm bo) cA M00 17) := rfl
set_option maxRecDepth 20000 in
theorem wx_18 : (swX5 cA (p 3) (q 3))[8]? = some ((swAd b p q a hs qs bm qm bo) 18, sk_ce (swAd b p q a hs qs bm qm bo) cA M00 18) := rfl
set_option maxRecDepth 20000 in
theorem wx_19 : (swX5 cA (p 3) (q 3))[9]? = some ((swAd b p q a hs qs bm qm bo) 19, sk_ce (swAd b p q a hs qs bm qm bo) cA M00 19) := rfl
set_option maxRecDepth 20000 in
theorem wx_20 : (swX5 cA (hs 0) (qs 0))[0]? = some ((swAd b p q a hs qs bm qm bo) 20, sk_ce (swAd b p q a hs qs bm qm bo) cA M00 20) := rfl
set_option maxRecDepth 20000 in
theorem wx_21 : (swX5 cA (hs 0) (qs 0))[1]? = some ((swAd b p q a hs qs bm qm bo) 21, sk_ce (swAd b p q a hs qs bm qm bo) cA M00 21) := rfl
set_option maxRecDepth 20000 in
theorem wx_22 : (swX5 cA (hs 0) (qs 0))[2]? = some ((swAd b p q a hs qs bm qm bo) 22, sk_ce (swAd b p q a hs qs bm qm bo) cA M00 22) := rfl
set_option maxRecDepth 20000 in
theorem wx_23 : (swX5 cA (hs 0) (qs 0))[3]? = some ((swAd b p q a hs qs bm qm bo) 23, sk_ce (swAd b p q a hs qs bm qm bo) cA M00 23) := rfl
set_option maxRecDepth 20000 in
theorem wx_24 : (swX5 cA (hs 0) (qs 0))[4]? = some ((swAd b p q a hs qs bm qm bo) 24, sk_ce (swAd b p q a hs qs bm qm bo) cA M00 24) := rfl
set_option maxRecDepth 20000 in
theorem wx_25 : (swX5 cA (hs 0) (qs 0))[5]? = some ((swAd b p q a hs qs bm qm bo) 25, sk_ce (swAd b p q a hs qs bm qm bo) cA M00 25) := rfl
set_option maxRecDepth 20000 in
theorem wx_26 : (swX5 cA (hs 0) (qs 0))[6]? = some ((swAd b p q a hs qs bm qm bo) 26, sk_ce (swAd b p q a hs qs bm qm bo) cA M00 26) := rfl
set_option maxRecDepth 20000 in
theorem wx_27 : (swX5 cA (hs 0) (qs 0))[7]? = some ((swAd b p q a hs qs bm qm bo) 27, sk_ce (swAd b p q a hs qs bm qm bo) cA M00 27) := rfl
set_option maxRecDepth 20000 in
theorem wx_28 : (swX5 cA (hs 0) (qs 0))[8]? = some ((swAd b p q a hs qs bm qm bo) 28, sk_ce (swAd b p q a hs qs bm qm bo) cA M00 28) := rfl
set_option maxRecDepth 20000 in
theorem wx_29 : (swX5 cA (hs 0) (qs 0))[9]? = some ((swAd b p q a hs qs bm qm bo) 29, sk_ce (swAd b p q a hs qs bm qm bo) cA M00 29) := rfl
set_option maxRecDepth 20000 in
theorem wx_30 : (swX5 cA (hs 1) (qs 1))[0]? = some ((swAd b p q a hs qs bm qm bo) 30, sk_ce (swAd b p q a hs qs bm qm bo) cA M00 30) := rfl
set_option maxRecDepth 20000 in
theorem wx_31 : (swX5 cA (hs 1) (qs 1))[1]? = some ((swAd b p q a hs qs bm qm bo) 31, sk_ce (swAd b p q a hs qs bm qm bo) cA M00 31) := rfl
set_option maxRecDepth 20000 in
theorem wx_32 : (swX5 cA (hs 1) (qs 1))[2]? = some ((swAd b p q a hs qs bm qm bo) 32, sk_ce (swAd b p q a hs qs bm qm bo) cA M00 32) := rfl
set_option maxRecDepth 20000 in
theorem wx_33 : (swX5 cA (hs 1) (qs 1))[3]? = some ((swAd b p q a hs qs bm qm bo) 33, sk_ce (swAd b p q a hs qs bm qm bo) cA M00 33) := rfl
set_option maxRecDepth 20000 in
theorem wx_34 : (swX5 cA (hs 1) (qs 1))[4]? = some ((swAd b p q a hs qs bm qm bo) 34, sk_ce (swAd b p q a hs qs bm qm bo) cA M00 34) := rfl
set_option maxRecDepth 20000 in
theorem wx_35 : (swX5 cA (hs 1) (qs 1))[5]? = some ((swAd b p q a hs qs bm qm bo) 35, sk_ce (swAd b p q a hs qs bm qm bo) cA M00 35) := rfl
set_option maxRecDepth 20000 in
theorem wx_36 : (swX5 cA (hs 1) (qs 1))[6]? = some ((swAd b p q a hs qs bm qm bo) 36, sk_ce (swAd b p q a hs qs bm qm bo) cA M00 36) := rfl
set_option maxRecDepth 20000 in
theorem wx_37 : (swX5 cA (hs 1) (qs 1))[7]? = some ((swAd b p q a hs qs bm qm bo) 37, sk_ce (swAd b p q a hs qs bm qm bo) cA M00 37) := rfl
set_option maxRecDepth 20000 in
theorem wx_38 : (swX5 cA (hs 1) (qs 1))[8]? = some ((swAd b p q a hs qs bm qm bo) 38, sk_ce (swAd b p q a hs qs bm qm bo) cA M00 38) := rfl
set_option maxRecDepth 20000 in
theorem wx_39 : (swX5 cA (hs 1) (qs 1))[9]? = some ((swAd b p q a hs qs bm qm bo) 39, sk_ce (swAd b p q a hs qs bm qm bo) cA M00 39) := rfl
set_option maxRecDepth 20000 in
theorem wx_40 : (swX5 cA (hs 2) (qs 2))[0]? = some ((swAd b p q a hs qs bm qm bo) 40, sk_ce (swAd b p q a hs qs bm qm bo) cA M00 40) := rfl
set_option maxRecDepth 20000 in
theorem wx_41 : (swX5 cA (hs 2) (qs 2))[1]? = some ((swAd b p q a hs qs bm qm bo) 41, sk_ce (swAd b p q a hs qs bm qm bo) cA M00 41) := rfl
set_option maxRecDepth 20000 in
theorem wx_42 : (swX5 cA (hs 2) (qs 2))[2]? = some ((swAd b p q a hs qs bm qm bo) 42, sk_ce (swAd b p q a hs qs bm qm bo) cA M00 42) := rfl
set_option maxRecDepth 20000 in
theorem wx_43 : (swX5 cA (hs 2) (qs 2))[3]? = some ((swAd b p q a hs qs bm qm bo) 43, sk_ce (swAd b p q a hs qs bm qm bo) cA M00 43) := rfl
set_option maxRecDepth 20000 in
theorem wx_44 : (swX5 cA (hs 2) (qs 2))[4]? = some ((swAd b p q a hs qs bm qm bo) 44, sk_ce (swAd b p q a hs qs bm qm bo) cA M00 44) := rfl
set_option maxRecDepth 20000 in
theorem wx_45 : (swX5 cA (hs 2) (qs 2))[5]? = some ((swAd b p q a hs qs bm qm bo) 45, sk_ce (swAd b p q a hs qs bm qm bo) cA M00 45) := rfl
set_option maxRecDepth 20000 in
theorem wx_46 : (swX5 cA (hs 2) (qs 2))[6]? = some ((swAd b p q a hs qs bm qm bo) 46, sk_ce (swAd b p q a hs qs bm qm bo) cA M00 46) := rfl
set_option maxRecDepth 20000 in
theorem wx_47 : (swX5 cA (hs 2) (qs 2))[7]? = some ((swAd b p q a hs qs bm qm bo) 47, sk_ce (swAd b p q a hs qs bm qm bo) cA M00 47) := rfl
set_option maxRecDepth 20000 in
theorem wx_48 : (swX5 cA (hs 2) (qs 2))[8]? = some ((swAd b p q a hs qs bm qm bo) 48, sk_ce (swAd b p q a hs qs bm qm bo) cA M00 48) := rfl
set_option maxRecDepth 20000 in
theorem wx_49 : (swX5 cA (hs 2) (qs 2))[9]? = some ((swAd b p q a hs qs bm qm bo) 49, sk_ce (swAd b p q a hs qs bm qm bo) cA M00 49) := rfl
set_option maxRecDepth 20000 in
theorem wx_50 : (swX5 cA (hs 3) (qs 3))[0]? = some ((swAd b p q a hs qs bm qm bo) 50, sk_ce (swAd b p q a hs qs bm qm bo) cA M00 50) := rfl
set_option maxRecDepth 20000 in
theorem wx_51 : (swX5 cA (hs 3) (qs 3))[1]? = some ((swAd b p q a hs qs bm qm bo) 51, sk_ce (swAd b p q a hs qs bm qm bo) cA M00 51) := rfl
set_option maxRecDepth 20000 in
theorem wx_52 : (swX5 cA (hs 3) (qs 3))[2]? = some ((swAd b p q a hs qs bm qm bo) 52, sk_ce (swAd b p q a hs qs bm qm bo) cA M00 52) := rfl
set_option maxRecDepth 20000 in
theorem wx_53 : (swX5 cA (hs 3) (qs 3))[3]? = some ((swAd b p q a hs qs bm qm bo) 53, sk_ce (swAd b p q a hs qs bm qm bo) cA M00 53) := rfl
set_option maxRecDepth 20000 in
theorem wx_54 : (swX5 cA (hs 3) (qs 3))[4]? = some ((swAd b p q a hs qs bm qm bo) 54, sk_ce (swAd b p q a hs qs bm qm bo) cA M00 54) := rfl
set_option maxRecDepth 20000 in
theorem wx_55 : (swX5 cA (hs 3) (qs 3))[5]? = some ((swAd b p q a hs qs bm qm bo) 55, sk_ce (swAd b p q a hs qs bm qm bo) cA M00 55) := rfl
set_option maxRecDepth 20000 in
theorem wx_56 : (swX5 cA (hs 3) (qs 3))[6]? = some ((swAd b p q a hs qs bm qm bo) 56, sk_ce (swAd b p q a hs qs bm qm bo) cA M00 56) := rfl
set_option maxRecDepth 20000 in
theorem wx_57 : (swX5 cA (hs 3) (qs 3))[7]? = some ((swAd b p q a hs qs bm qm bo) 57, sk_ce (swAd b p q a hs qs bm qm bo) cA M00 57) := rfl
set_option maxRecDepth 20000 in
theorem wx_58 : (swX5 cA (hs 3) (qs 3))[8]? = some ((swAd b p q a hs qs bm qm bo) 58, sk_ce (swAd b p q a hs qs bm qm bo) cA M00 58) := rfl
set_option maxRecDepth 20000 in
theorem wx_59 : (swX5 cA (hs 3) (qs 3))[9]? = some ((swAd b p q a hs qs bm qm bo) 59, sk_ce (swAd b p q a hs qs bm qm bo) cA M00 59) := rfl
set_option maxRecDepth 20000 in
theorem wx_60 : (swX5 cA (hs 4) (qs 4))[0]? = some ((swAd b p q a hs qs bm qm bo) 60, sk_ce (swAd b p q a hs qs bm qm bo) cA M00 60) := rfl
set_option maxRecDepth 20000 in
theorem wx_61 : (swX5 cA (hs 4) (qs 4))[1]? = some ((swAd b p q a hs qs bm qm bo) 61, sk_ce (swAd b p q a hs qs bm qm bo) cA M00 61) := rfl
set_option maxRecDepth 20000 in
theorem wx_62 : (swX5 cA (hs 4) (qs 4))[2]? = some ((swAd b p q a hs qs bm qm bo) 62, sk_ce (swAd b p q a hs qs bm qm bo) cA M00 62) := rfl
set_option maxRecDepth 20000 in
theorem wx_63 : (swX5 cA (hs 4) (qs 4))[3]? = some ((swAd b p q a hs qs bm qm bo) 63, sk_ce (swAd b p q a hs qs bm qm bo) cA M00 63) := rfl
set_option maxRecDepth 20000 in
theorem wx_64 : (swX5 cA (hs 4) (qs 4))[4]? = some ((swAd b p q a hs qs bm qm bo) 64, sk_ce (swAd b p q a hs qs bm qm bo) cA M00 64) := rfl
set_option maxRecDepth 20000 in
theorem wx_65 : (swX5 cA (hs 4) (qs 4))[5]? = some ((swAd b p q a hs qs bm qm bo) 65, sk_ce (swAd b p q a hs qs bm qm bo) cA M00 65) := rfl
set_option maxRecDepth 20000 in
theorem wx_66 : (swX5 cA (hs 4) (qs 4))[6]? = some ((swAd b p q a hs qs bm qm bo) 66, sk_ce (swAd b p q a hs qs bm qm bo) cA M00 66) := rfl
set_option maxRecDepth 20000 in
theorem wx_67 : (swX5 cA (hs 4) (qs 4))[7]? = some ((swAd b p q a hs qs bm qm bo) 67, sk_ce (swAd b p q a hs qs bm qm bo) cA M00 67) := rfl
set_option maxRecDepth 20000 in
theorem wx_68 : (swX5 cA (hs 4) (qs 4))[8]? = some ((swAd b p q a hs qs bm qm bo) 68, sk_ce (swAd b p q a hs qs bm qm bo) cA M00 68) := rfl
set_option maxRecDepth 20000 in
theorem wx_69 : (swX5 cA (hs 4) (qs 4))[9]? = some ((swAd b p q a hs qs bm qm bo) 69, sk_ce (swAd b p q a hs qs bm qm bo) cA M00 69) := rfl
set_option maxRecDepth 20000 in
theorem wx_70 : (swX5 cA (hs 5) (qs 5))[0]? = some ((swAd b p q a hs qs bm qm bo) 70, sk_ce (swAd b p q a hs qs bm qm bo) cA M00 70) := rfl
set_option maxRecDepth 20000 in
theorem wx_71 : (swX5 cA (hs 5) (qs 5))[1]? = some ((swAd b p q a hs qs bm qm bo) 71, sk_ce (swAd b p q a hs qs bm qm bo) cA M00 71) := rfl
set_option maxRecDepth 20000 in
theorem wx_72 : (swX5 cA (hs 5) (qs 5))[2]? = some ((swAd b p q a hs qs bm qm bo) 72, sk_ce (swAd b p q a hs qs bm qm bo) cA M00 72) := rfl
set_option maxRecDepth 20000 in
theorem wx_73 : (swX5 cA (hs 5) (qs 5))[3]? = some ((swAd b p q a hs qs bm qm bo) 73, sk_ce (swAd b p q a hs qs bm qm bo) cA M00 73) := rfl
set_option maxRecDepth 20000 in
theorem wx_74 : (swX5 cA (hs 5) (qs 5))[4]? = some ((swAd b p q a hs qs bm qm bo) 74, sk_ce (swAd b p q a hs qs bm qm bo) cA M00 74) := rfl
set_option maxRecDepth 20000 in
theorem wx_75 : (swX5 cA (hs 5) (qs 5))[5]? = some ((swAd b p q a hs qs bm qm bo) 75, sk_ce (swAd b p q a hs qs bm qm bo) cA M00 75) := rfl
set_option maxRecDepth 20000 in
theorem wx_76 : (swX5 cA (hs 5) (qs 5))[6]? = some ((swAd b p q a hs qs bm qm bo) 76, sk_ce (swAd b p q a hs qs bm qm bo) cA M00 76) := rfl
set_option maxRecDepth 20000 in
theorem wx_77 : (swX5 cA (hs 5) (qs 5))[7]? = some ((swAd b p q a hs qs bm qm bo) 77, sk_ce (swAd b p q a hs qs bm qm bo) cA M00 77) := rfl
set_option maxRecDepth 20000 in
theorem wx_78 : (swX5 cA (hs 5) (qs 5))[8]? = some ((swAd b p q a hs qs bm qm bo) 78, sk_ce (swAd b p q a hs qs bm qm bo) cA M00 78) := rfl
set_option maxRecDepth 20000 in
theorem wx_79 : (swX5 cA (hs 5) (qs 5))[9]? = some ((swAd b p q a hs qs bm qm bo) 79, sk_ce (swAd b p q a hs qs bm qm bo) cA M00 79) := rfl
set_option maxRecDepth 20000 in
theorem wx_80 : (swX5 cA (hs 6) (qs 6))[0]? = some ((swAd b p q a hs qs bm qm bo) 80, sk_ce (swAd b p q a hs qs bm qm bo) cA M00 80) := rfl
set_option maxRecDepth 20000 in
theorem wx_81 : (swX5 cA (hs 6) (qs 6))[1]? = some ((swAd b p q a hs qs bm qm bo) 81, sk_ce (swAd b p q a hs qs bm qm bo) cA M00 81) := rfl
set_option maxRecDepth 20000 in
theorem wx_82 : (swX5 cA (hs 6) (qs 6))[2]? = some ((swAd b p q a hs qs bm qm bo) 82, sk_ce (swAd b p q a hs qs bm qm bo) cA M00 82) := rfl
set_option maxRecDepth 20000 in
theorem wx_83 : (swX5 cA (hs 6) (qs 6))[3]? = some ((swAd b p q a hs qs bm qm bo) 83, sk_ce (swAd b p q a hs qs bm qm bo) cA M00 83) := rfl
set_option maxRecDepth 20000 in
theorem wx_84 : (swX5 cA (hs 6) (qs 6))[4]? = some ((swAd b p q a hs qs bm qm bo) 84, sk_ce (swAd b p q a hs qs bm qm bo) cA M00 84) := rfl
set_option maxRecDepth 20000 in
theorem wx_85 : (swX5 cA (hs 6) (qs 6))[5]? = some ((swAd b p q a hs qs bm qm bo) 85, sk_ce (swAd b p q a hs qs bm qm bo) cA M00 85) := rfl
set_option maxRecDepth 20000 in
theorem wx_86 : (swX5 cA (hs 6) (qs 6))[6]? = some ((swAd b p q a hs qs bm qm bo) 86, sk_ce (swAd b p q a hs qs bm qm bo) cA M00 86) := rfl
set_option maxRecDepth 20000 in
theorem wx_87 : (swX5 cA (hs 6) (qs 6))[7]? = some ((swAd b p q a hs qs bm qm bo) 87, sk_ce (swAd b p q a hs qs bm qm bo) cA M00 87) := rfl
set_option maxRecDepth 20000 in
theorem wx_88 : (swX5 cA (hs 6) (qs 6))[8]? = some ((swAd b p q a hs qs bm qm bo) 88, sk_ce (swAd b p q a hs qs bm qm bo) cA M00 88) := rfl
set_option maxRecDepth 20000 in
theorem wx_89 : (swX5 cA (hs 6) (qs 6))[9]? = some ((swAd b p q a hs qs bm qm bo) 89, sk_ce (swAd b p q a hs qs bm qm bo) cA M00 89) := rfl
set_option maxRecDepth 20000 in
theorem wx_90 : (swX5 cA (hs 7) (qs 7))[0]? = some ((swAd b p q a hs qs bm qm bo) 90, sk_ce (swAd b p q a hs qs bm qm bo) cA M00 90) := rfl
set_option maxRecDepth 20000 in
theorem wx_91 : (swX5 cA (hs 7) (qs 7))[1]? = some ((swAd b p q a hs qs bm qm bo) 91, sk_ce (swAd b p q a hs qs bm qm bo) cA M00 91) := rfl
set_option maxRecDepth 20000 in
theorem wx_92 : (swX5 cA (hs 7) (qs 7))[2]? = some ((swAd b p q a hs qs bm qm bo) 92, sk_ce (swAd b p q a hs qs bm qm bo) cA M00 92) := rfl
set_option maxRecDepth 20000 in
theorem wx_93 : (swX5 cA (hs 7) (qs 7))[3]? = some ((swAd b p q a hs qs bm qm bo) 93, sk_ce (swAd b p q a hs qs bm qm bo) cA M00 93) := rfl
set_option maxRecDepth 20000 in
theorem wx_94 : (swX5 cA (hs 7) (qs 7))[4]? = some ((swAd b p q a hs qs bm qm bo) 94, sk_ce (swAd b p q a hs qs bm qm bo) cA M00 94) := rfl
set_option maxRecDepth 20000 in
theorem wx_95 : (swX5 cA (hs 7) (qs 7))[5]? = some ((swAd b p q a hs qs bm qm bo) 95, sk_ce (swAd b p q a hs qs bm qm bo) cA M00 95) := rfl
set_option maxRecDepth 20000 in
theorem wx_96 : (swX5 cA (hs 7) (qs 7))[6]? = some ((swAd b p q a hs qs bm qm bo) 96, sk_ce (swAd b p q a hs qs bm qm bo) cA M00 96) := rfl
set_option maxRecDepth 20000 in
theorem wx_97 : (swX5 cA (hs 7) (qs 7))[7]? = some ((swAd b p q a hs qs bm qm bo) 97, sk_ce (swAd b p q a hs qs bm qm bo) cA M00 97) := rfl
set_option maxRecDepth 20000 in
theorem wx_98 : (swX5 cA (hs 7) (qs 7))[8]? = some ((swAd b p q a hs qs bm qm bo) 98, sk_ce (swAd b p q a hs qs bm qm bo) cA M00 98) := rfl
set_option maxRecDepth 20000 in
theorem wx_99 : (swX5 cA (hs 7) (qs 7))[9]? = some ((swAd b p q a hs qs bm qm bo) 99, sk_ce (swAd b p q a hs qs bm qm bo) cA M00 99) := rfl
set_option maxRecDepth 20000 in
theorem wx_100 : (swX5 cA (hs 8) (qs 8))[0]? = some ((swAd b p q a hs qs bm qm bo) 100, sk_ce (swAd b p q a hs qs bm qm bo) cA M00 100) := rfl
set_option maxRecDepth 20000 in
theorem wx_101 : (swX5 cA (hs 8) (qs 8))[1]? = some ((swAd b p q a hs qs bm qm bo) 101, sk_ce (swAd b p q a hs qs bm qm bo) cA M00 101) := rfl
set_option maxRecDepth 20000 in
theorem wx_102 : (swX5 cA (hs 8) (qs 8))[2]? = some ((swAd b p q a hs qs bm qm bo) 102, sk_ce (swAd b p q a hs qs bm qm bo) cA M00 102) := rfl
set_option maxRecDepth 20000 in
theorem wx_103 : (swX5 cA (hs 8) (qs 8))[3]? = some ((swAd b p q a hs qs bm qm bo) 103, sk_ce (swAd b p q a hs qs bm qm bo) cA M00 103) := rfl
set_option maxRecDepth 20000 in
theorem wx_104 : (swX5 cA (hs 8) (qs 8))[4]? = some ((swAd b p q a hs qs bm qm bo) 104, sk_ce (swAd b p q a hs qs bm qm bo) cA M00 104) := rfl
set_option maxRecDepth 20000 in
theorem wx_105 : (swX5 cA (hs 8) (qs 8))[5]? = some ((swAd b p q a hs qs bm qm bo) 105, sk_ce (swAd b p q a hs qs bm qm bo) cA M00 105) := rfl
set_option maxRecDepth 20000 in
theorem wx_106 : (swX5 cA (hs 8) (qs 8))[6]? = some ((swAd b p q a hs qs bm qm bo) 106, sk_ce (swAd b p q a hs qs bm qm bo) cA M00 106) := rfl
set_option maxRecDepth 20000 in
theorem wx_107 : (swX5 cA (hs 8) (qs 8))[7]? = some ((swAd b p q a hs qs bm qm bo) 107, sk_ce (swAd b p q a hs qs bm qm bo) cA M00 107) := rfl
set_option maxRecDepth 20000 in
theorem wx_108 : (swX5 cA (hs 8) (qs 8))[8]? = some ((swAd b p q a hs qs bm qm bo) 108, sk_ce (swAd b p q a hs qs bm qm bo) cA M00 108) := rfl
set_option maxRecDepth 20000 in
theorem wx_109 : (swX5 cA (hs 8) (qs 8))[9]? = some ((swAd b p q a hs qs bm qm bo) 109, sk_ce (swAd b p q a hs qs bm qm bo) cA M00 109) := rfl
set_option maxRecDepth 20000 in
theorem wx_110 : (swX5 cA (hs 9) (qs 9))[0]? = some ((swAd b p q a hs qs bm qm bo) 110, sk_ce (swAd b p q a hs qs bm qm bo) cA M00 110) := rfl
set_option maxRecDepth 20000 in
theorem wx_111 : (swX5 cA (hs 9) (qs 9))[1]? = some ((swAd b p q a hs qs bm qm bo) 111, sk_ce (swAd b p q a hs qs bm qm bo) cA M00 111) := rfl
set_option maxRecDepth 20000 in
theorem wx_112 : (swX5 cA (hs 9) (qs 9))[2]? = some ((swAd b p q a hs qs bm qm bo) 112, sk_ce (swAd b p q a hs qs bm qm bo) cA M00 112) := rfl
set_option maxRecDepth 20000 in
theorem wx_113 : (swX5 cA (hs 9) (qs 9))[3]? = some ((swAd b p q a hs qs bm qm bo) 113, sk_ce (swAd b p q a hs qs bm qm bo) cA M00 113) := rfl
set_option maxRecDepth 20000 in
theorem wx_114 : (swX5 cA (hs 9) (qs 9))[4]? = some ((swAd b p q a hs qs bm qm bo) 114, sk_ce (swAd b p q a hs qs bm qm bo) cA M00 114) := rfl
set_option maxRecDepth 20000 in
theorem wx_115 : (swX5 cA (hs 9) (qs 9))[5]? = some ((swAd b p q a hs qs bm qm bo) 115, sk_ce (swAd b p q a hs qs bm qm bo) cA M00 115) := rfl
set_option maxRecDepth 20000 in
theorem wx_116 : (swX5 cA (hs 9) (qs 9))[6]? = some ((swAd b p q a hs qs bm qm bo) 116, sk_ce (swAd b p q a hs qs bm qm bo) cA M00 116) := rfl
set_option maxRecDepth 20000 in
theorem wx_117 : (swX5 cA (hs 9) (qs 9))[7]? = some ((swAd b p q a hs qs bm qm bo) 117, sk_ce (swAd b p q a hs qs bm qm bo) cA M00 117) := rfl
set_option maxRecDepth 20000 in
theorem wx_118 : (swX5 cA (hs 9) (qs 9))[8]? = some ((swAd b p q a hs qs bm qm bo) 118, sk_ce (swAd b p q a hs qs bm qm bo) cA M00 118) := rfl
set_option maxRecDepth 20000 in
theorem wx_119 : (swX5 cA (hs 9) (qs 9))[9]? = some ((swAd b p q a hs qs bm qm bo) 119, sk_ce (swAd b p q a hs qs bm qm bo) cA M00 119) := rfl
set_option maxRecDepth 20000 in
theorem wx_120 : ([((b, .inr (7, [.ref (p 1), .ref (p 2), .ref (p 3), .ref (p 4), .ref (p 5), .ref (p 6), .ref (p 7), .ref (p 8), .int 0])) : Nat × va_E)])[0]? = some ((swAd b p q a hs qs bm qm bo) 120, sk_ce (swAd b p q a hs qs bm qm bo) cA M00 120) := rfl
set_option maxRecDepth 20000 in
theorem wx_121 : (swX6 cA (p 1) (q 1))[0]? = some ((swAd b p q a hs qs bm qm bo) 121, sk_ce (swAd b p q a hs qs bm qm bo) cA M00 121) := rfl
set_option maxRecDepth 20000 in
theorem wx_122 : (swX6 cA (p 1) (q 1))[1]? = some ((swAd b p q a hs qs bm qm bo) 122, sk_ce (swAd b p q a hs qs bm qm bo) cA M00 122) := rfl
set_option maxRecDepth 20000 in
theorem wx_123 : (swX3 cA (p 4) a hs qs)[0]? = some ((swAd b p q a hs qs bm qm bo) 123, sk_ce (swAd b p q a hs qs bm qm bo) cA M00 123) := rfl
set_option maxRecDepth 20000 in
theorem wx_124 : (swX3 cA (p 4) a hs qs)[1]? = some ((swAd b p q a hs qs bm qm bo) 124, .inl (cA 14, 10, .inr (.inr (.inr (.inr (rfI hs 10)))))) := rfl
set_option maxRecDepth 20000 in
theorem wx_125 : (swX0 cA (p 5) (p 1) (p 2) (q 5))[0]? = some ((swAd b p q a hs qs bm qm bo) 125, sk_ce (swAd b p q a hs qs bm qm bo) cA M00 125) := rfl
set_option maxRecDepth 20000 in
theorem wx_126 : (swX1 cA (p 6) (p 1) (q 6))[0]? = some ((swAd b p q a hs qs bm qm bo) 126, sk_ce (swAd b p q a hs qs bm qm bo) cA M00 126) := rfl
set_option maxRecDepth 20000 in
theorem wx_127 : (swX1 cA (p 6) (p 1) (q 6))[1]? = some ((swAd b p q a hs qs bm qm bo) 127, sk_ce (swAd b p q a hs qs bm qm bo) cA M00 127) := rfl
set_option maxRecDepth 20000 in
theorem wx_128 : (swX1 cA (p 6) (p 1) (q 6))[2]? = some ((swAd b p q a hs qs bm qm bo) 128, sk_ce (swAd b p q a hs qs bm qm bo) cA M00 128) := rfl
set_option maxRecDepth 20000 in
theorem wx_129 : (swX1 cA (p 6) (p 1) (q 6))[3]? = some ((swAd b p q a hs qs bm qm bo) 129, sk_ce (swAd b p q a hs qs bm qm bo) cA M00 129) := rfl
set_option maxRecDepth 20000 in
theorem wx_130 : (swX4 cA (p 7) (p 2) (q 7))[0]? = some ((swAd b p q a hs qs bm qm bo) 130, sk_ce (swAd b p q a hs qs bm qm bo) cA M00 130) := rfl
set_option maxRecDepth 20000 in
theorem wx_131 : (swX4 cA (p 7) (p 2) (q 7))[1]? = some ((swAd b p q a hs qs bm qm bo) 131, sk_ce (swAd b p q a hs qs bm qm bo) cA M00 131) := rfl
set_option maxRecDepth 20000 in
theorem wx_132 : (swX4 cA (p 7) (p 2) (q 7))[2]? = some ((swAd b p q a hs qs bm qm bo) 132, sk_ce (swAd b p q a hs qs bm qm bo) cA M00 132) := rfl
set_option maxRecDepth 20000 in
theorem wx_133 : (swX4 cA (p 7) (p 2) (q 7))[3]? = some ((swAd b p q a hs qs bm qm bo) 133, sk_ce (swAd b p q a hs qs bm qm bo) cA M00 133) := rfl
set_option maxRecDepth 20000 in
theorem wx_134 : (swX4 cA (p 7) (p 2) (q 7))[4]? = some ((swAd b p q a hs qs bm qm bo) 134, sk_ce (swAd b p q a hs qs bm qm bo) cA M00 134) := rfl
set_option maxRecDepth 20000 in
theorem wx_135 : (swX4 cA (p 7) (p 2) (q 7))[5]? = some ((swAd b p q a hs qs bm qm bo) 135, sk_ce (swAd b p q a hs qs bm qm bo) cA M00 135) := rfl
set_option maxRecDepth 20000 in
theorem wx_136 : (swX4 cA (p 7) (p 2) (q 7))[6]? = some ((swAd b p q a hs qs bm qm bo) 136, sk_ce (swAd b p q a hs qs bm qm bo) cA M00 136) := rfl
set_option maxRecDepth 20000 in
theorem wx_137 : (swX4 cA (p 7) (p 2) (q 7))[7]? = some ((swAd b p q a hs qs bm qm bo) 137, sk_ce (swAd b p q a hs qs bm qm bo) cA M00 137) := rfl
set_option maxRecDepth 20000 in
theorem wx_138 : (swX2 cA (p 8) (q 8))[0]? = some ((swAd b p q a hs qs bm qm bo) 138, sk_ce (swAd b p q a hs qs bm qm bo) cA M00 138) := rfl
set_option maxRecDepth 20000 in
theorem wx_139 : (swX2 cA (p 8) (q 8))[1]? = some ((swAd b p q a hs qs bm qm bo) 139, sk_ce (swAd b p q a hs qs bm qm bo) cA M00 139) := rfl
set_option maxRecDepth 20000 in
theorem wx_140 : (swX8 cA bm qm)[0]? = some ((swAd b p q a hs qs bm qm bo) 140, sk_ce (swAd b p q a hs qs bm qm bo) cA M00 140) := rfl
set_option maxRecDepth 20000 in
theorem wx_141 : (swX8 cA bm qm)[1]? = some ((swAd b p q a hs qs bm qm bo) 141, sk_ce (swAd b p q a hs qs bm qm bo) cA M00 141) := rfl
set_option maxRecDepth 20000 in
theorem wx_142 : (swX8 cA bm qm)[2]? = some ((swAd b p q a hs qs bm qm bo) 142, sk_ce (swAd b p q a hs qs bm qm bo) cA M00 142) := rfl
set_option maxRecDepth 20000 in
theorem wx_143 : (swX8 cA bm qm)[3]? = some ((swAd b p q a hs qs bm qm bo) 143, sk_ce (swAd b p q a hs qs bm qm bo) cA M00 143) := rfl
set_option maxRecDepth 20000 in
theorem wx_144 : (swX8 cA bm qm)[4]? = some ((swAd b p q a hs qs bm qm bo) 144, sk_ce (swAd b p q a hs qs bm qm bo) cA M00 144) := rfl
set_option maxRecDepth 20000 in
theorem wx_145 : (swX8 cA bm qm)[5]? = some ((swAd b p q a hs qs bm qm bo) 145, sk_ce (swAd b p q a hs qs bm qm bo) cA M00 145) := rfl
set_option maxRecDepth 20000 in
theorem wx_146 : (swX8 cA bm qm)[6]? = some ((swAd b p q a hs qs bm qm bo) 146, sk_ce (swAd b p q a hs qs bm qm bo) cA M00 146) := rfl
set_option maxRecDepth 20000 in
theorem wx_147 : (swX8 cA bm qm)[7]? = some ((swAd b p q a hs qs bm qm bo) 147, sk_ce (swAd b p q a hs qs bm qm bo) cA M00 147) := rfl
set_option maxRecDepth 20000 in
theorem wx_148 : (swX8 cA bm qm)[8]? = some ((swAd b p q a hs qs bm qm bo) 148, sk_ce (swAd b p q a hs qs bm qm bo) cA M00 148) := rfl
set_option maxRecDepth 20000 in
theorem wx_149 : (swX8 cA bm qm)[9]? = some ((swAd b p q a hs qs bm qm bo) 149, sk_ce (swAd b p q a hs qs bm qm bo) cA M00 149) := rfl
set_option maxRecDepth 20000 in
theorem wx_150 : (swX8 cA bm qm)[10]? = some ((swAd b p q a hs qs bm qm bo) 150, sk_ce (swAd b p q a hs qs bm qm bo) cA M00 150) := rfl
set_option maxRecDepth 20000 in
theorem wx_151 : (swX8 cA bm qm)[11]? = some ((swAd b p q a hs qs bm qm bo) 151, sk_ce (swAd b p q a hs qs bm qm bo) cA M00 151) := rfl
set_option maxRecDepth 20000 in
theorem wx_152 : (swX8 cA bm qm)[12]? = some ((swAd b p q a hs qs bm qm bo) 152, sk_ce (swAd b p q a hs qs bm qm bo) cA M00 152) := rfl
set_option maxRecDepth 20000 in
theorem wx_153 : (swX8 cA bm qm)[13]? = some ((swAd b p q a hs qs bm qm bo) 153, sk_ce (swAd b p q a hs qs bm qm bo) cA M00 153) := rfl
set_option maxRecDepth 20000 in
theorem wx_154 : (swX8 cA bm qm)[14]? = some ((swAd b p q a hs qs bm qm bo) 154, sk_ce (swAd b p q a hs qs bm qm bo) cA M00 154) := rfl
set_option maxRecDepth 20000 in
theorem wx_155 : (swX8 cA bm qm)[15]? = some ((swAd b p q a hs qs bm qm bo) 155, sk_ce (swAd b p q a hs qs bm qm bo) cA M00 155) := rfl
set_option maxRecDepth 20000 in
theorem wx_156 : (swX8 cA bm qm)[16]? = some ((swAd b p q a hs qs bm qm bo) 156, sk_ce (swAd b p q a hs qs bm qm bo) cA M00 156) := rfl
set_option maxRecDepth 20000 in
theorem wx_157 : (swX8 cA bm qm)[17]? = some ((swAd b p q a hs qs bm qm bo) 157, sk_ce (swAd b p q a hs qs bm qm bo) cA M00 157) := rfl
set_option maxRecDepth 20000 in
theorem wx_158 : ([((bo, .inl (cA 11, 1, .inr (.inl (fun _ => 0)))) : Nat × va_E)])[0]? = some ((swAd b p q a hs qs bm qm bo) 158, sk_ce (swAd b p q a hs qs bm qm bo) cA M00 158) := rfl
set_option maxRecDepth 20000 in
theorem wt_0 : (swT cA b p q a hs qs bm qm bo)[3]? = some ((swAd b p q a hs qs bm qm bo) 0, sk_ce (swAd b p q a hs qs bm qm bo) cA M00 0) := (ap_l (ap_l (A := swX7 cA b p q a hs qs) (ap_l (ap_l (ap_l (ap_l (ap_l (ap_l (ap_r (n := 3) (k := 0) lp_2 wx_0)))))))))
set_option maxRecDepth 20000 in
theorem wt_1 : (swT cA b p q a hs qs bm qm bo)[4]? = some ((swAd b p q a hs qs bm qm bo) 1, sk_ce (swAd b p q a hs qs bm qm bo) cA M00 1) := (ap_l (ap_l (A := swX7 cA b p q a hs qs) (ap_l (ap_l (ap_l (ap_l (ap_l (ap_l (ap_r (n := 3) (k := 1) lp_2 wx_1)))))))))
set_option maxRecDepth 20000 in
theorem wt_2 : (swT cA b p q a hs qs bm qm bo)[5]? = some ((swAd b p q a hs qs bm qm bo) 2, sk_ce (swAd b p q a hs qs bm qm bo) cA M00 2) := (ap_l (ap_l (A := swX7 cA b p q a hs qs) (ap_l (ap_l (ap_l (ap_l (ap_l (ap_l (ap_r (n := 3) (k := 2) lp_2 wx_2)))))))))
set_option maxRecDepth 20000 in
theorem wt_3 : (swT cA b p q a hs qs bm qm bo)[6]? = some ((swAd b p q a hs qs bm qm bo) 3, sk_ce (swAd b p q a hs qs bm qm bo) cA M00 3) := (ap_l (ap_l (A := swX7 cA b p q a hs qs) (ap_l (ap_l (ap_l (ap_l (ap_l (ap_l (ap_r (n := 3) (k := 3) lp_2 wx_3)))))))))
set_option maxRecDepth 20000 in
theorem wt_4 : (swT cA b p q a hs qs bm qm bo)[7]? = some ((swAd b p q a hs qs bm qm bo) 4, sk_ce (swAd b p q a hs qs bm qm bo) cA M00 4) := (ap_l (ap_l (A := swX7 cA b p q a hs qs) (ap_l (ap_l (ap_l (ap_l (ap_l (ap_l (ap_r (n := 3) (k := 4) lp_2 wx_4)))))))))
set_option maxRecDepth 20000 in
theorem wt_5 : (swT cA b p q a hs qs bm qm bo)[8]? = some ((swAd b p q a hs qs bm qm bo) 5, sk_ce (swAd b p q a hs qs bm qm bo) cA M00 5) := (ap_l (ap_l (A := swX7 cA b p q a hs qs) (ap_l (ap_l (ap_l (ap_l (ap_l (ap_l (ap_r (n := 3) (k := 5) lp_2 wx_5)))))))))
set_option maxRecDepth 20000 in
theorem wt_6 : (swT cA b p q a hs qs bm qm bo)[9]? = some ((swAd b p q a hs qs bm qm bo) 6, sk_ce (swAd b p q a hs qs bm qm bo) cA M00 6) := (ap_l (ap_l (A := swX7 cA b p q a hs qs) (ap_l (ap_l (ap_l (ap_l (ap_l (ap_l (ap_r (n := 3) (k := 6) lp_2 wx_6)))))))))
set_option maxRecDepth 20000 in
theorem wt_7 : (swT cA b p q a hs qs bm qm bo)[10]? = some ((swAd b p q a hs qs bm qm bo) 7, sk_ce (swAd b p q a hs qs bm qm bo) cA M00 7) := (ap_l (ap_l (A := swX7 cA b p q a hs qs) (ap_l (ap_l (ap_l (ap_l (ap_l (ap_l (ap_r (n := 3) (k := 7) lp_2 wx_7)))))))))
set_option maxRecDepth 20000 in
theorem wt_8 : (swT cA b p q a hs qs bm qm bo)[11]? = some ((swAd b p q a hs qs bm qm bo) 8, sk_ce (swAd b p q a hs qs bm qm bo) cA M00 8) := (ap_l (ap_l (A := swX7 cA b p q a hs qs) (ap_l (ap_l (ap_l (ap_l (ap_l (ap_l (ap_r (n := 3) (k := 8) lp_2 wx_8)))))))))
set_option maxRecDepth 20000 in
theorem wt_9 : (swT cA b p q a hs qs bm qm bo)[12]? = some ((swAd b p q a hs qs bm qm bo) 9, sk_ce (swAd b p q a hs qs bm qm bo) cA M00 9) := (ap_l (ap_l (A := swX7 cA b p q a hs qs) (ap_l (ap_l (ap_l (ap_l (ap_l (ap_l (ap_r (n := 3) (k := 9) lp_2 wx_9)))))))))
set_option maxRecDepth 20000 in
theorem wt_10 : (swT cA b p q a hs qs bm qm bo)[13]? = some ((swAd b p q a hs qs bm qm bo) 10, sk_ce (swAd b p q a hs qs bm qm bo) cA M00 10) := (ap_l (ap_l (A := swX7 cA b p q a hs qs) (ap_l (ap_l (ap_l (ap_l (ap_l (ap_r (n := 13) (k := 0) lp_3 wx_10))))))))
set_option maxRecDepth 20000 in
theorem wt_11 : (swT cA b p q a hs qs bm qm bo)[14]? = some ((swAd b p q a hs qs bm qm bo) 11, sk_ce (swAd b p q a hs qs bm qm bo) cA M00 11) := (ap_l (ap_l (A := swX7 cA b p q a hs qs) (ap_l (ap_l (ap_l (ap_l (ap_l (ap_r (n := 13) (k := 1) lp_3 wx_11))))))))
set_option maxRecDepth 20000 in
theorem wt_12 : (swT cA b p q a hs qs bm qm bo)[15]? = some ((swAd b p q a hs qs bm qm bo) 12, sk_ce (swAd b p q a hs qs bm qm bo) cA M00 12) := (ap_l (ap_l (A := swX7 cA b p q a hs qs) (ap_l (ap_l (ap_l (ap_l (ap_l (ap_r (n := 13) (k := 2) lp_3 wx_12))))))))
set_option maxRecDepth 20000 in
theorem wt_13 : (swT cA b p q a hs qs bm qm bo)[16]? = some ((swAd b p q a hs qs bm qm bo) 13, sk_ce (swAd b p q a hs qs bm qm bo) cA M00 13) := (ap_l (ap_l (A := swX7 cA b p q a hs qs) (ap_l (ap_l (ap_l (ap_l (ap_l (ap_r (n := 13) (k := 3) lp_3 wx_13))))))))
set_option maxRecDepth 20000 in
theorem wt_14 : (swT cA b p q a hs qs bm qm bo)[17]? = some ((swAd b p q a hs qs bm qm bo) 14, sk_ce (swAd b p q a hs qs bm qm bo) cA M00 14) := (ap_l (ap_l (A := swX7 cA b p q a hs qs) (ap_l (ap_l (ap_l (ap_l (ap_l (ap_r (n := 13) (k := 4) lp_3 wx_14))))))))
set_option maxRecDepth 20000 in
theorem wt_15 : (swT cA b p q a hs qs bm qm bo)[18]? = some ((swAd b p q a hs qs bm qm bo) 15, sk_ce (swAd b p q a hs qs bm qm bo) cA M00 15) := (ap_l (ap_l (A := swX7 cA b p q a hs qs) (ap_l (ap_l (ap_l (ap_l (ap_l (ap_r (n := 13) (k := 5) lp_3 wx_15))))))))
set_option maxRecDepth 20000 in
theorem wt_16 : (swT cA b p q a hs qs bm qm bo)[19]? = some ((swAd b p q a hs qs bm qm bo) 16, sk_ce (swAd b p q a hs qs bm qm bo) cA M00 16) := (ap_l (ap_l (A := swX7 cA b p q a hs qs) (ap_l (ap_l (ap_l (ap_l (ap_l (ap_r (n := 13) (k := 6) lp_3 wx_16))))))))
set_option maxRecDepth 20000 in
theorem wt_17 : (swT cA b p q a hs qs bm qm bo)[20]? = some ((swAd b p q a hs qs bm qm bo) 17, sk_ce (swAd b p q a hs qs bm qm bo) cA M00 17) := (ap_l (ap_l (A := swX7 cA b p q a hs qs) (ap_l (ap_l (ap_l (ap_l (ap_l (ap_r (n := 13) (k := 7) lp_3 wx_17))))))))
set_option maxRecDepth 20000 in
theorem wt_18 : (swT cA b p q a hs qs bm qm bo)[21]? = some ((swAd b p q a hs qs bm qm bo) 18, sk_ce (swAd b p q a hs qs bm qm bo) cA M00 18) := (ap_l (ap_l (A := swX7 cA b p q a hs qs) (ap_l (ap_l (ap_l (ap_l (ap_l (ap_r (n := 13) (k := 8) lp_3 wx_18))))))))
set_option maxRecDepth 20000 in
theorem wt_19 : (swT cA b p q a hs qs bm qm bo)[22]? = some ((swAd b p q a hs qs bm qm bo) 19, sk_ce (swAd b p q a hs qs bm qm bo) cA M00 19) := (ap_l (ap_l (A := swX7 cA b p q a hs qs) (ap_l (ap_l (ap_l (ap_l (ap_l (ap_r (n := 13) (k := 9) lp_3 wx_19))))))))
set_option maxRecDepth 20000 in
theorem wt_20 : (swT cA b p q a hs qs bm qm bo)[25]? = some ((swAd b p q a hs qs bm qm bo) 20, sk_ce (swAd b p q a hs qs bm qm bo) cA M00 20) := (ap_l (ap_l (A := swX7 cA b p q a hs qs) (ap_l (ap_l (ap_l (ap_l (ap_r (n := 23) (k := 2) lp_4 (ap_r (A := [(p 4, .inr (3, [.ref a, .int 0, .int 0])), (a, .inl (cA 14, 10, .inr (.inr (.inr (.inr (rfI hs 10))))))]) (B := swL cA hs qs 10) (n := 2) (k := 0) rfl (swL_at (j := 0) (t := 0) wx_20 10 (by decide)) : (swX3 cA (p 4) a hs qs)[2 + 0]? = some _))))))))
set_option maxRecDepth 20000 in
theorem wt_21 : (swT cA b p q a hs qs bm qm bo)[26]? = some ((swAd b p q a hs qs bm qm bo) 21, sk_ce (swAd b p q a hs qs bm qm bo) cA M00 21) := (ap_l (ap_l (A := swX7 cA b p q a hs qs) (ap_l (ap_l (ap_l (ap_l (ap_r (n := 23) (k := 3) lp_4 (ap_r (A := [(p 4, .inr (3, [.ref a, .int 0, .int 0])), (a, .inl (cA 14, 10, .inr (.inr (.inr (.inr (rfI hs 10))))))]) (B := swL cA hs qs 10) (n := 2) (k := 1) rfl (swL_at (j := 0) (t := 1) wx_21 10 (by decide)) : (swX3 cA (p 4) a hs qs)[2 + 1]? = some _))))))))
set_option maxRecDepth 20000 in
theorem wt_22 : (swT cA b p q a hs qs bm qm bo)[27]? = some ((swAd b p q a hs qs bm qm bo) 22, sk_ce (swAd b p q a hs qs bm qm bo) cA M00 22) := (ap_l (ap_l (A := swX7 cA b p q a hs qs) (ap_l (ap_l (ap_l (ap_l (ap_r (n := 23) (k := 4) lp_4 (ap_r (A := [(p 4, .inr (3, [.ref a, .int 0, .int 0])), (a, .inl (cA 14, 10, .inr (.inr (.inr (.inr (rfI hs 10))))))]) (B := swL cA hs qs 10) (n := 2) (k := 2) rfl (swL_at (j := 0) (t := 2) wx_22 10 (by decide)) : (swX3 cA (p 4) a hs qs)[2 + 2]? = some _))))))))
set_option maxRecDepth 20000 in
theorem wt_23 : (swT cA b p q a hs qs bm qm bo)[28]? = some ((swAd b p q a hs qs bm qm bo) 23, sk_ce (swAd b p q a hs qs bm qm bo) cA M00 23) := (ap_l (ap_l (A := swX7 cA b p q a hs qs) (ap_l (ap_l (ap_l (ap_l (ap_r (n := 23) (k := 5) lp_4 (ap_r (A := [(p 4, .inr (3, [.ref a, .int 0, .int 0])), (a, .inl (cA 14, 10, .inr (.inr (.inr (.inr (rfI hs 10))))))]) (B := swL cA hs qs 10) (n := 2) (k := 3) rfl (swL_at (j := 0) (t := 3) wx_23 10 (by decide)) : (swX3 cA (p 4) a hs qs)[2 + 3]? = some _))))))))
set_option maxRecDepth 20000 in
theorem wt_24 : (swT cA b p q a hs qs bm qm bo)[29]? = some ((swAd b p q a hs qs bm qm bo) 24, sk_ce (swAd b p q a hs qs bm qm bo) cA M00 24) := (ap_l (ap_l (A := swX7 cA b p q a hs qs) (ap_l (ap_l (ap_l (ap_l (ap_r (n := 23) (k := 6) lp_4 (ap_r (A := [(p 4, .inr (3, [.ref a, .int 0, .int 0])), (a, .inl (cA 14, 10, .inr (.inr (.inr (.inr (rfI hs 10))))))]) (B := swL cA hs qs 10) (n := 2) (k := 4) rfl (swL_at (j := 0) (t := 4) wx_24 10 (by decide)) : (swX3 cA (p 4) a hs qs)[2 + 4]? = some _))))))))
set_option maxRecDepth 20000 in
theorem wt_25 : (swT cA b p q a hs qs bm qm bo)[30]? = some ((swAd b p q a hs qs bm qm bo) 25, sk_ce (swAd b p q a hs qs bm qm bo) cA M00 25) := (ap_l (ap_l (A := swX7 cA b p q a hs qs) (ap_l (ap_l (ap_l (ap_l (ap_r (n := 23) (k := 7) lp_4 (ap_r (A := [(p 4, .inr (3, [.ref a, .int 0, .int 0])), (a, .inl (cA 14, 10, .inr (.inr (.inr (.inr (rfI hs 10))))))]) (B := swL cA hs qs 10) (n := 2) (k := 5) rfl (swL_at (j := 0) (t := 5) wx_25 10 (by decide)) : (swX3 cA (p 4) a hs qs)[2 + 5]? = some _))))))))
set_option maxRecDepth 20000 in
theorem wt_26 : (swT cA b p q a hs qs bm qm bo)[31]? = some ((swAd b p q a hs qs bm qm bo) 26, sk_ce (swAd b p q a hs qs bm qm bo) cA M00 26) := (ap_l (ap_l (A := swX7 cA b p q a hs qs) (ap_l (ap_l (ap_l (ap_l (ap_r (n := 23) (k := 8) lp_4 (ap_r (A := [(p 4, .inr (3, [.ref a, .int 0, .int 0])), (a, .inl (cA 14, 10, .inr (.inr (.inr (.inr (rfI hs 10))))))]) (B := swL cA hs qs 10) (n := 2) (k := 6) rfl (swL_at (j := 0) (t := 6) wx_26 10 (by decide)) : (swX3 cA (p 4) a hs qs)[2 + 6]? = some _))))))))
set_option maxRecDepth 20000 in
theorem wt_27 : (swT cA b p q a hs qs bm qm bo)[32]? = some ((swAd b p q a hs qs bm qm bo) 27, sk_ce (swAd b p q a hs qs bm qm bo) cA M00 27) := (ap_l (ap_l (A := swX7 cA b p q a hs qs) (ap_l (ap_l (ap_l (ap_l (ap_r (n := 23) (k := 9) lp_4 (ap_r (A := [(p 4, .inr (3, [.ref a, .int 0, .int 0])), (a, .inl (cA 14, 10, .inr (.inr (.inr (.inr (rfI hs 10))))))]) (B := swL cA hs qs 10) (n := 2) (k := 7) rfl (swL_at (j := 0) (t := 7) wx_27 10 (by decide)) : (swX3 cA (p 4) a hs qs)[2 + 7]? = some _))))))))
set_option maxRecDepth 20000 in
theorem wt_28 : (swT cA b p q a hs qs bm qm bo)[33]? = some ((swAd b p q a hs qs bm qm bo) 28, sk_ce (swAd b p q a hs qs bm qm bo) cA M00 28) := (ap_l (ap_l (A := swX7 cA b p q a hs qs) (ap_l (ap_l (ap_l (ap_l (ap_r (n := 23) (k := 10) lp_4 (ap_r (A := [(p 4, .inr (3, [.ref a, .int 0, .int 0])), (a, .inl (cA 14, 10, .inr (.inr (.inr (.inr (rfI hs 10))))))]) (B := swL cA hs qs 10) (n := 2) (k := 8) rfl (swL_at (j := 0) (t := 8) wx_28 10 (by decide)) : (swX3 cA (p 4) a hs qs)[2 + 8]? = some _))))))))
set_option maxRecDepth 20000 in
theorem wt_29 : (swT cA b p q a hs qs bm qm bo)[34]? = some ((swAd b p q a hs qs bm qm bo) 29, sk_ce (swAd b p q a hs qs bm qm bo) cA M00 29) := (ap_l (ap_l (A := swX7 cA b p q a hs qs) (ap_l (ap_l (ap_l (ap_l (ap_r (n := 23) (k := 11) lp_4 (ap_r (A := [(p 4, .inr (3, [.ref a, .int 0, .int 0])), (a, .inl (cA 14, 10, .inr (.inr (.inr (.inr (rfI hs 10))))))]) (B := swL cA hs qs 10) (n := 2) (k := 9) rfl (swL_at (j := 0) (t := 9) wx_29 10 (by decide)) : (swX3 cA (p 4) a hs qs)[2 + 9]? = some _))))))))
set_option maxRecDepth 20000 in
theorem wt_30 : (swT cA b p q a hs qs bm qm bo)[35]? = some ((swAd b p q a hs qs bm qm bo) 30, sk_ce (swAd b p q a hs qs bm qm bo) cA M00 30) := (ap_l (ap_l (A := swX7 cA b p q a hs qs) (ap_l (ap_l (ap_l (ap_l (ap_r (n := 23) (k := 12) lp_4 (ap_r (A := [(p 4, .inr (3, [.ref a, .int 0, .int 0])), (a, .inl (cA 14, 10, .inr (.inr (.inr (.inr (rfI hs 10))))))]) (B := swL cA hs qs 10) (n := 2) (k := 10) rfl (swL_at (j := 1) (t := 0) wx_30 10 (by decide)) : (swX3 cA (p 4) a hs qs)[2 + 10]? = some _))))))))
set_option maxRecDepth 20000 in
theorem wt_31 : (swT cA b p q a hs qs bm qm bo)[36]? = some ((swAd b p q a hs qs bm qm bo) 31, sk_ce (swAd b p q a hs qs bm qm bo) cA M00 31) := (ap_l (ap_l (A := swX7 cA b p q a hs qs) (ap_l (ap_l (ap_l (ap_l (ap_r (n := 23) (k := 13) lp_4 (ap_r (A := [(p 4, .inr (3, [.ref a, .int 0, .int 0])), (a, .inl (cA 14, 10, .inr (.inr (.inr (.inr (rfI hs 10))))))]) (B := swL cA hs qs 10) (n := 2) (k := 11) rfl (swL_at (j := 1) (t := 1) wx_31 10 (by decide)) : (swX3 cA (p 4) a hs qs)[2 + 11]? = some _))))))))
set_option maxRecDepth 20000 in
theorem wt_32 : (swT cA b p q a hs qs bm qm bo)[37]? = some ((swAd b p q a hs qs bm qm bo) 32, sk_ce (swAd b p q a hs qs bm qm bo) cA M00 32) := (ap_l (ap_l (A := swX7 cA b p q a hs qs) (ap_l (ap_l (ap_l (ap_l (ap_r (n := 23) (k := 14) lp_4 (ap_r (A := [(p 4, .inr (3, [.ref a, .int 0, .int 0])), (a, .inl (cA 14, 10, .inr (.inr (.inr (.inr (rfI hs 10))))))]) (B := swL cA hs qs 10) (n := 2) (k := 12) rfl (swL_at (j := 1) (t := 2) wx_32 10 (by decide)) : (swX3 cA (p 4) a hs qs)[2 + 12]? = some _))))))))
set_option maxRecDepth 20000 in
theorem wt_33 : (swT cA b p q a hs qs bm qm bo)[38]? = some ((swAd b p q a hs qs bm qm bo) 33, sk_ce (swAd b p q a hs qs bm qm bo) cA M00 33) := (ap_l (ap_l (A := swX7 cA b p q a hs qs) (ap_l (ap_l (ap_l (ap_l (ap_r (n := 23) (k := 15) lp_4 (ap_r (A := [(p 4, .inr (3, [.ref a, .int 0, .int 0])), (a, .inl (cA 14, 10, .inr (.inr (.inr (.inr (rfI hs 10))))))]) (B := swL cA hs qs 10) (n := 2) (k := 13) rfl (swL_at (j := 1) (t := 3) wx_33 10 (by decide)) : (swX3 cA (p 4) a hs qs)[2 + 13]? = some _))))))))
set_option maxRecDepth 20000 in
theorem wt_34 : (swT cA b p q a hs qs bm qm bo)[39]? = some ((swAd b p q a hs qs bm qm bo) 34, sk_ce (swAd b p q a hs qs bm qm bo) cA M00 34) := (ap_l (ap_l (A := swX7 cA b p q a hs qs) (ap_l (ap_l (ap_l (ap_l (ap_r (n := 23) (k := 16) lp_4 (ap_r (A := [(p 4, .inr (3, [.ref a, .int 0, .int 0])), (a, .inl (cA 14, 10, .inr (.inr (.inr (.inr (rfI hs 10))))))]) (B := swL cA hs qs 10) (n := 2) (k := 14) rfl (swL_at (j := 1) (t := 4) wx_34 10 (by decide)) : (swX3 cA (p 4) a hs qs)[2 + 14]? = some _))))))))
set_option maxRecDepth 20000 in
theorem wt_35 : (swT cA b p q a hs qs bm qm bo)[40]? = some ((swAd b p q a hs qs bm qm bo) 35, sk_ce (swAd b p q a hs qs bm qm bo) cA M00 35) := (ap_l (ap_l (A := swX7 cA b p q a hs qs) (ap_l (ap_l (ap_l (ap_l (ap_r (n := 23) (k := 17) lp_4 (ap_r (A := [(p 4, .inr (3, [.ref a, .int 0, .int 0])), (a, .inl (cA 14, 10, .inr (.inr (.inr (.inr (rfI hs 10))))))]) (B := swL cA hs qs 10) (n := 2) (k := 15) rfl (swL_at (j := 1) (t := 5) wx_35 10 (by decide)) : (swX3 cA (p 4) a hs qs)[2 + 15]? = some _))))))))
set_option maxRecDepth 20000 in
theorem wt_36 : (swT cA b p q a hs qs bm qm bo)[41]? = some ((swAd b p q a hs qs bm qm bo) 36, sk_ce (swAd b p q a hs qs bm qm bo) cA M00 36) := (ap_l (ap_l (A := swX7 cA b p q a hs qs) (ap_l (ap_l (ap_l (ap_l (ap_r (n := 23) (k := 18) lp_4 (ap_r (A := [(p 4, .inr (3, [.ref a, .int 0, .int 0])), (a, .inl (cA 14, 10, .inr (.inr (.inr (.inr (rfI hs 10))))))]) (B := swL cA hs qs 10) (n := 2) (k := 16) rfl (swL_at (j := 1) (t := 6) wx_36 10 (by decide)) : (swX3 cA (p 4) a hs qs)[2 + 16]? = some _))))))))
set_option maxRecDepth 20000 in
theorem wt_37 : (swT cA b p q a hs qs bm qm bo)[42]? = some ((swAd b p q a hs qs bm qm bo) 37, sk_ce (swAd b p q a hs qs bm qm bo) cA M00 37) := (ap_l (ap_l (A := swX7 cA b p q a hs qs) (ap_l (ap_l (ap_l (ap_l (ap_r (n := 23) (k := 19) lp_4 (ap_r (A := [(p 4, .inr (3, [.ref a, .int 0, .int 0])), (a, .inl (cA 14, 10, .inr (.inr (.inr (.inr (rfI hs 10))))))]) (B := swL cA hs qs 10) (n := 2) (k := 17) rfl (swL_at (j := 1) (t := 7) wx_37 10 (by decide)) : (swX3 cA (p 4) a hs qs)[2 + 17]? = some _))))))))
set_option maxRecDepth 20000 in
theorem wt_38 : (swT cA b p q a hs qs bm qm bo)[43]? = some ((swAd b p q a hs qs bm qm bo) 38, sk_ce (swAd b p q a hs qs bm qm bo) cA M00 38) := (ap_l (ap_l (A := swX7 cA b p q a hs qs) (ap_l (ap_l (ap_l (ap_l (ap_r (n := 23) (k := 20) lp_4 (ap_r (A := [(p 4, .inr (3, [.ref a, .int 0, .int 0])), (a, .inl (cA 14, 10, .inr (.inr (.inr (.inr (rfI hs 10))))))]) (B := swL cA hs qs 10) (n := 2) (k := 18) rfl (swL_at (j := 1) (t := 8) wx_38 10 (by decide)) : (swX3 cA (p 4) a hs qs)[2 + 18]? = some _))))))))
set_option maxRecDepth 20000 in
theorem wt_39 : (swT cA b p q a hs qs bm qm bo)[44]? = some ((swAd b p q a hs qs bm qm bo) 39, sk_ce (swAd b p q a hs qs bm qm bo) cA M00 39) := (ap_l (ap_l (A := swX7 cA b p q a hs qs) (ap_l (ap_l (ap_l (ap_l (ap_r (n := 23) (k := 21) lp_4 (ap_r (A := [(p 4, .inr (3, [.ref a, .int 0, .int 0])), (a, .inl (cA 14, 10, .inr (.inr (.inr (.inr (rfI hs 10))))))]) (B := swL cA hs qs 10) (n := 2) (k := 19) rfl (swL_at (j := 1) (t := 9) wx_39 10 (by decide)) : (swX3 cA (p 4) a hs qs)[2 + 19]? = some _))))))))
set_option maxRecDepth 20000 in
theorem wt_40 : (swT cA b p q a hs qs bm qm bo)[45]? = some ((swAd b p q a hs qs bm qm bo) 40, sk_ce (swAd b p q a hs qs bm qm bo) cA M00 40) := (ap_l (ap_l (A := swX7 cA b p q a hs qs) (ap_l (ap_l (ap_l (ap_l (ap_r (n := 23) (k := 22) lp_4 (ap_r (A := [(p 4, .inr (3, [.ref a, .int 0, .int 0])), (a, .inl (cA 14, 10, .inr (.inr (.inr (.inr (rfI hs 10))))))]) (B := swL cA hs qs 10) (n := 2) (k := 20) rfl (swL_at (j := 2) (t := 0) wx_40 10 (by decide)) : (swX3 cA (p 4) a hs qs)[2 + 20]? = some _))))))))
set_option maxRecDepth 20000 in
theorem wt_41 : (swT cA b p q a hs qs bm qm bo)[46]? = some ((swAd b p q a hs qs bm qm bo) 41, sk_ce (swAd b p q a hs qs bm qm bo) cA M00 41) := (ap_l (ap_l (A := swX7 cA b p q a hs qs) (ap_l (ap_l (ap_l (ap_l (ap_r (n := 23) (k := 23) lp_4 (ap_r (A := [(p 4, .inr (3, [.ref a, .int 0, .int 0])), (a, .inl (cA 14, 10, .inr (.inr (.inr (.inr (rfI hs 10))))))]) (B := swL cA hs qs 10) (n := 2) (k := 21) rfl (swL_at (j := 2) (t := 1) wx_41 10 (by decide)) : (swX3 cA (p 4) a hs qs)[2 + 21]? = some _))))))))
set_option maxRecDepth 20000 in
theorem wt_42 : (swT cA b p q a hs qs bm qm bo)[47]? = some ((swAd b p q a hs qs bm qm bo) 42, sk_ce (swAd b p q a hs qs bm qm bo) cA M00 42) := (ap_l (ap_l (A := swX7 cA b p q a hs qs) (ap_l (ap_l (ap_l (ap_l (ap_r (n := 23) (k := 24) lp_4 (ap_r (A := [(p 4, .inr (3, [.ref a, .int 0, .int 0])), (a, .inl (cA 14, 10, .inr (.inr (.inr (.inr (rfI hs 10))))))]) (B := swL cA hs qs 10) (n := 2) (k := 22) rfl (swL_at (j := 2) (t := 2) wx_42 10 (by decide)) : (swX3 cA (p 4) a hs qs)[2 + 22]? = some _))))))))
set_option maxRecDepth 20000 in
theorem wt_43 : (swT cA b p q a hs qs bm qm bo)[48]? = some ((swAd b p q a hs qs bm qm bo) 43, sk_ce (swAd b p q a hs qs bm qm bo) cA M00 43) := (ap_l (ap_l (A := swX7 cA b p q a hs qs) (ap_l (ap_l (ap_l (ap_l (ap_r (n := 23) (k := 25) lp_4 (ap_r (A := [(p 4, .inr (3, [.ref a, .int 0, .int 0])), (a, .inl (cA 14, 10, .inr (.inr (.inr (.inr (rfI hs 10))))))]) (B := swL cA hs qs 10) (n := 2) (k := 23) rfl (swL_at (j := 2) (t := 3) wx_43 10 (by decide)) : (swX3 cA (p 4) a hs qs)[2 + 23]? = some _))))))))
set_option maxRecDepth 20000 in
theorem wt_44 : (swT cA b p q a hs qs bm qm bo)[49]? = some ((swAd b p q a hs qs bm qm bo) 44, sk_ce (swAd b p q a hs qs bm qm bo) cA M00 44) := (ap_l (ap_l (A := swX7 cA b p q a hs qs) (ap_l (ap_l (ap_l (ap_l (ap_r (n := 23) (k := 26) lp_4 (ap_r (A := [(p 4, .inr (3, [.ref a, .int 0, .int 0])), (a, .inl (cA 14, 10, .inr (.inr (.inr (.inr (rfI hs 10))))))]) (B := swL cA hs qs 10) (n := 2) (k := 24) rfl (swL_at (j := 2) (t := 4) wx_44 10 (by decide)) : (swX3 cA (p 4) a hs qs)[2 + 24]? = some _))))))))
set_option maxRecDepth 20000 in
theorem wt_45 : (swT cA b p q a hs qs bm qm bo)[50]? = some ((swAd b p q a hs qs bm qm bo) 45, sk_ce (swAd b p q a hs qs bm qm bo) cA M00 45) := (ap_l (ap_l (A := swX7 cA b p q a hs qs) (ap_l (ap_l (ap_l (ap_l (ap_r (n := 23) (k := 27) lp_4 (ap_r (A := [(p 4, .inr (3, [.ref a, .int 0, .int 0])), (a, .inl (cA 14, 10, .inr (.inr (.inr (.inr (rfI hs 10))))))]) (B := swL cA hs qs 10) (n := 2) (k := 25) rfl (swL_at (j := 2) (t := 5) wx_45 10 (by decide)) : (swX3 cA (p 4) a hs qs)[2 + 25]? = some _))))))))
set_option maxRecDepth 20000 in
theorem wt_46 : (swT cA b p q a hs qs bm qm bo)[51]? = some ((swAd b p q a hs qs bm qm bo) 46, sk_ce (swAd b p q a hs qs bm qm bo) cA M00 46) := (ap_l (ap_l (A := swX7 cA b p q a hs qs) (ap_l (ap_l (ap_l (ap_l (ap_r (n := 23) (k := 28) lp_4 (ap_r (A := [(p 4, .inr (3, [.ref a, .int 0, .int 0])), (a, .inl (cA 14, 10, .inr (.inr (.inr (.inr (rfI hs 10))))))]) (B := swL cA hs qs 10) (n := 2) (k := 26) rfl (swL_at (j := 2) (t := 6) wx_46 10 (by decide)) : (swX3 cA (p 4) a hs qs)[2 + 26]? = some _))))))))
set_option maxRecDepth 20000 in
theorem wt_47 : (swT cA b p q a hs qs bm qm bo)[52]? = some ((swAd b p q a hs qs bm qm bo) 47, sk_ce (swAd b p q a hs qs bm qm bo) cA M00 47) := (ap_l (ap_l (A := swX7 cA b p q a hs qs) (ap_l (ap_l (ap_l (ap_l (ap_r (n := 23) (k := 29) lp_4 (ap_r (A := [(p 4, .inr (3, [.ref a, .int 0, .int 0])), (a, .inl (cA 14, 10, .inr (.inr (.inr (.inr (rfI hs 10))))))]) (B := swL cA hs qs 10) (n := 2) (k := 27) rfl (swL_at (j := 2) (t := 7) wx_47 10 (by decide)) : (swX3 cA (p 4) a hs qs)[2 + 27]? = some _))))))))
set_option maxRecDepth 20000 in
theorem wt_48 : (swT cA b p q a hs qs bm qm bo)[53]? = some ((swAd b p q a hs qs bm qm bo) 48, sk_ce (swAd b p q a hs qs bm qm bo) cA M00 48) := (ap_l (ap_l (A := swX7 cA b p q a hs qs) (ap_l (ap_l (ap_l (ap_l (ap_r (n := 23) (k := 30) lp_4 (ap_r (A := [(p 4, .inr (3, [.ref a, .int 0, .int 0])), (a, .inl (cA 14, 10, .inr (.inr (.inr (.inr (rfI hs 10))))))]) (B := swL cA hs qs 10) (n := 2) (k := 28) rfl (swL_at (j := 2) (t := 8) wx_48 10 (by decide)) : (swX3 cA (p 4) a hs qs)[2 + 28]? = some _))))))))
set_option maxRecDepth 20000 in
theorem wt_49 : (swT cA b p q a hs qs bm qm bo)[54]? = some ((swAd b p q a hs qs bm qm bo) 49, sk_ce (swAd b p q a hs qs bm qm bo) cA M00 49) := (ap_l (ap_l (A := swX7 cA b p q a hs qs) (ap_l (ap_l (ap_l (ap_l (ap_r (n := 23) (k := 31) lp_4 (ap_r (A := [(p 4, .inr (3, [.ref a, .int 0, .int 0])), (a, .inl (cA 14, 10, .inr (.inr (.inr (.inr (rfI hs 10))))))]) (B := swL cA hs qs 10) (n := 2) (k := 29) rfl (swL_at (j := 2) (t := 9) wx_49 10 (by decide)) : (swX3 cA (p 4) a hs qs)[2 + 29]? = some _))))))))
set_option maxRecDepth 20000 in
theorem wt_50 : (swT cA b p q a hs qs bm qm bo)[55]? = some ((swAd b p q a hs qs bm qm bo) 50, sk_ce (swAd b p q a hs qs bm qm bo) cA M00 50) := (ap_l (ap_l (A := swX7 cA b p q a hs qs) (ap_l (ap_l (ap_l (ap_l (ap_r (n := 23) (k := 32) lp_4 (ap_r (A := [(p 4, .inr (3, [.ref a, .int 0, .int 0])), (a, .inl (cA 14, 10, .inr (.inr (.inr (.inr (rfI hs 10))))))]) (B := swL cA hs qs 10) (n := 2) (k := 30) rfl (swL_at (j := 3) (t := 0) wx_50 10 (by decide)) : (swX3 cA (p 4) a hs qs)[2 + 30]? = some _))))))))
set_option maxRecDepth 20000 in
theorem wt_51 : (swT cA b p q a hs qs bm qm bo)[56]? = some ((swAd b p q a hs qs bm qm bo) 51, sk_ce (swAd b p q a hs qs bm qm bo) cA M00 51) := (ap_l (ap_l (A := swX7 cA b p q a hs qs) (ap_l (ap_l (ap_l (ap_l (ap_r (n := 23) (k := 33) lp_4 (ap_r (A := [(p 4, .inr (3, [.ref a, .int 0, .int 0])), (a, .inl (cA 14, 10, .inr (.inr (.inr (.inr (rfI hs 10))))))]) (B := swL cA hs qs 10) (n := 2) (k := 31) rfl (swL_at (j := 3) (t := 1) wx_51 10 (by decide)) : (swX3 cA (p 4) a hs qs)[2 + 31]? = some _))))))))
set_option maxRecDepth 20000 in
theorem wt_52 : (swT cA b p q a hs qs bm qm bo)[57]? = some ((swAd b p q a hs qs bm qm bo) 52, sk_ce (swAd b p q a hs qs bm qm bo) cA M00 52) := (ap_l (ap_l (A := swX7 cA b p q a hs qs) (ap_l (ap_l (ap_l (ap_l (ap_r (n := 23) (k := 34) lp_4 (ap_r (A := [(p 4, .inr (3, [.ref a, .int 0, .int 0])), (a, .inl (cA 14, 10, .inr (.inr (.inr (.inr (rfI hs 10))))))]) (B := swL cA hs qs 10) (n := 2) (k := 32) rfl (swL_at (j := 3) (t := 2) wx_52 10 (by decide)) : (swX3 cA (p 4) a hs qs)[2 + 32]? = some _))))))))
set_option maxRecDepth 20000 in
theorem wt_53 : (swT cA b p q a hs qs bm qm bo)[58]? = some ((swAd b p q a hs qs bm qm bo) 53, sk_ce (swAd b p q a hs qs bm qm bo) cA M00 53) := (ap_l (ap_l (A := swX7 cA b p q a hs qs) (ap_l (ap_l (ap_l (ap_l (ap_r (n := 23) (k := 35) lp_4 (ap_r (A := [(p 4, .inr (3, [.ref a, .int 0, .int 0])), (a, .inl (cA 14, 10, .inr (.inr (.inr (.inr (rfI hs 10))))))]) (B := swL cA hs qs 10) (n := 2) (k := 33) rfl (swL_at (j := 3) (t := 3) wx_53 10 (by decide)) : (swX3 cA (p 4) a hs qs)[2 + 33]? = some _))))))))
set_option maxRecDepth 20000 in
theorem wt_54 : (swT cA b p q a hs qs bm qm bo)[59]? = some ((swAd b p q a hs qs bm qm bo) 54, sk_ce (swAd b p q a hs qs bm qm bo) cA M00 54) := (ap_l (ap_l (A := swX7 cA b p q a hs qs) (ap_l (ap_l (ap_l (ap_l (ap_r (n := 23) (k := 36) lp_4 (ap_r (A := [(p 4, .inr (3, [.ref a, .int 0, .int 0])), (a, .inl (cA 14, 10, .inr (.inr (.inr (.inr (rfI hs 10))))))]) (B := swL cA hs qs 10) (n := 2) (k := 34) rfl (swL_at (j := 3) (t := 4) wx_54 10 (by decide)) : (swX3 cA (p 4) a hs qs)[2 + 34]? = some _))))))))
set_option maxRecDepth 20000 in
theorem wt_55 : (swT cA b p q a hs qs bm qm bo)[60]? = some ((swAd b p q a hs qs bm qm bo) 55, sk_ce (swAd b p q a hs qs bm qm bo) cA M00 55) := (ap_l (ap_l (A := swX7 cA b p q a hs qs) (ap_l (ap_l (ap_l (ap_l (ap_r (n := 23) (k := 37) lp_4 (ap_r (A := [(p 4, .inr (3, [.ref a, .int 0, .int 0])), (a, .inl (cA 14, 10, .inr (.inr (.inr (.inr (rfI hs 10))))))]) (B := swL cA hs qs 10) (n := 2) (k := 35) rfl (swL_at (j := 3) (t := 5) wx_55 10 (by decide)) : (swX3 cA (p 4) a hs qs)[2 + 35]? = some _))))))))
set_option maxRecDepth 20000 in
theorem wt_56 : (swT cA b p q a hs qs bm qm bo)[61]? = some ((swAd b p q a hs qs bm qm bo) 56, sk_ce (swAd b p q a hs qs bm qm bo) cA M00 56) := (ap_l (ap_l (A := swX7 cA b p q a hs qs) (ap_l (ap_l (ap_l (ap_l (ap_r (n := 23) (k := 38) lp_4 (ap_r (A := [(p 4, .inr (3, [.ref a, .int 0, .int 0])), (a, .inl (cA 14, 10, .inr (.inr (.inr (.inr (rfI hs 10))))))]) (B := swL cA hs qs 10) (n := 2) (k := 36) rfl (swL_at (j := 3) (t := 6) wx_56 10 (by decide)) : (swX3 cA (p 4) a hs qs)[2 + 36]? = some _))))))))
set_option maxRecDepth 20000 in
theorem wt_57 : (swT cA b p q a hs qs bm qm bo)[62]? = some ((swAd b p q a hs qs bm qm bo) 57, sk_ce (swAd b p q a hs qs bm qm bo) cA M00 57) := (ap_l (ap_l (A := swX7 cA b p q a hs qs) (ap_l (ap_l (ap_l (ap_l (ap_r (n := 23) (k := 39) lp_4 (ap_r (A := [(p 4, .inr (3, [.ref a, .int 0, .int 0])), (a, .inl (cA 14, 10, .inr (.inr (.inr (.inr (rfI hs 10))))))]) (B := swL cA hs qs 10) (n := 2) (k := 37) rfl (swL_at (j := 3) (t := 7) wx_57 10 (by decide)) : (swX3 cA (p 4) a hs qs)[2 + 37]? = some _))))))))
set_option maxRecDepth 20000 in
theorem wt_58 : (swT cA b p q a hs qs bm qm bo)[63]? = some ((swAd b p q a hs qs bm qm bo) 58, sk_ce (swAd b p q a hs qs bm qm bo) cA M00 58) := (ap_l (ap_l (A := swX7 cA b p q a hs qs) (ap_l (ap_l (ap_l (ap_l (ap_r (n := 23) (k := 40) lp_4 (ap_r (A := [(p 4, .inr (3, [.ref a, .int 0, .int 0])), (a, .inl (cA 14, 10, .inr (.inr (.inr (.inr (rfI hs 10))))))]) (B := swL cA hs qs 10) (n := 2) (k := 38) rfl (swL_at (j := 3) (t := 8) wx_58 10 (by decide)) : (swX3 cA (p 4) a hs qs)[2 + 38]? = some _))))))))
set_option maxRecDepth 20000 in
theorem wt_59 : (swT cA b p q a hs qs bm qm bo)[64]? = some ((swAd b p q a hs qs bm qm bo) 59, sk_ce (swAd b p q a hs qs bm qm bo) cA M00 59) := (ap_l (ap_l (A := swX7 cA b p q a hs qs) (ap_l (ap_l (ap_l (ap_l (ap_r (n := 23) (k := 41) lp_4 (ap_r (A := [(p 4, .inr (3, [.ref a, .int 0, .int 0])), (a, .inl (cA 14, 10, .inr (.inr (.inr (.inr (rfI hs 10))))))]) (B := swL cA hs qs 10) (n := 2) (k := 39) rfl (swL_at (j := 3) (t := 9) wx_59 10 (by decide)) : (swX3 cA (p 4) a hs qs)[2 + 39]? = some _))))))))
set_option maxRecDepth 20000 in
theorem wt_60 : (swT cA b p q a hs qs bm qm bo)[65]? = some ((swAd b p q a hs qs bm qm bo) 60, sk_ce (swAd b p q a hs qs bm qm bo) cA M00 60) := (ap_l (ap_l (A := swX7 cA b p q a hs qs) (ap_l (ap_l (ap_l (ap_l (ap_r (n := 23) (k := 42) lp_4 (ap_r (A := [(p 4, .inr (3, [.ref a, .int 0, .int 0])), (a, .inl (cA 14, 10, .inr (.inr (.inr (.inr (rfI hs 10))))))]) (B := swL cA hs qs 10) (n := 2) (k := 40) rfl (swL_at (j := 4) (t := 0) wx_60 10 (by decide)) : (swX3 cA (p 4) a hs qs)[2 + 40]? = some _))))))))
set_option maxRecDepth 20000 in
theorem wt_61 : (swT cA b p q a hs qs bm qm bo)[66]? = some ((swAd b p q a hs qs bm qm bo) 61, sk_ce (swAd b p q a hs qs bm qm bo) cA M00 61) := (ap_l (ap_l (A := swX7 cA b p q a hs qs) (ap_l (ap_l (ap_l (ap_l (ap_r (n := 23) (k := 43) lp_4 (ap_r (A := [(p 4, .inr (3, [.ref a, .int 0, .int 0])), (a, .inl (cA 14, 10, .inr (.inr (.inr (.inr (rfI hs 10))))))]) (B := swL cA hs qs 10) (n := 2) (k := 41) rfl (swL_at (j := 4) (t := 1) wx_61 10 (by decide)) : (swX3 cA (p 4) a hs qs)[2 + 41]? = some _))))))))
set_option maxRecDepth 20000 in
theorem wt_62 : (swT cA b p q a hs qs bm qm bo)[67]? = some ((swAd b p q a hs qs bm qm bo) 62, sk_ce (swAd b p q a hs qs bm qm bo) cA M00 62) := (ap_l (ap_l (A := swX7 cA b p q a hs qs) (ap_l (ap_l (ap_l (ap_l (ap_r (n := 23) (k := 44) lp_4 (ap_r (A := [(p 4, .inr (3, [.ref a, .int 0, .int 0])), (a, .inl (cA 14, 10, .inr (.inr (.inr (.inr (rfI hs 10))))))]) (B := swL cA hs qs 10) (n := 2) (k := 42) rfl (swL_at (j := 4) (t := 2) wx_62 10 (by decide)) : (swX3 cA (p 4) a hs qs)[2 + 42]? = some _))))))))
set_option maxRecDepth 20000 in
theorem wt_63 : (swT cA b p q a hs qs bm qm bo)[68]? = some ((swAd b p q a hs qs bm qm bo) 63, sk_ce (swAd b p q a hs qs bm qm bo) cA M00 63) := (ap_l (ap_l (A := swX7 cA b p q a hs qs) (ap_l (ap_l (ap_l (ap_l (ap_r (n := 23) (k := 45) lp_4 (ap_r (A := [(p 4, .inr (3, [.ref a, .int 0, .int 0])), (a, .inl (cA 14, 10, .inr (.inr (.inr (.inr (rfI hs 10))))))]) (B := swL cA hs qs 10) (n := 2) (k := 43) rfl (swL_at (j := 4) (t := 3) wx_63 10 (by decide)) : (swX3 cA (p 4) a hs qs)[2 + 43]? = some _))))))))
set_option maxRecDepth 20000 in
theorem wt_64 : (swT cA b p q a hs qs bm qm bo)[69]? = some ((swAd b p q a hs qs bm qm bo) 64, sk_ce (swAd b p q a hs qs bm qm bo) cA M00 64) := (ap_l (ap_l (A := swX7 cA b p q a hs qs) (ap_l (ap_l (ap_l (ap_l (ap_r (n := 23) (k := 46) lp_4 (ap_r (A := [(p 4, .inr (3, [.ref a, .int 0, .int 0])), (a, .inl (cA 14, 10, .inr (.inr (.inr (.inr (rfI hs 10))))))]) (B := swL cA hs qs 10) (n := 2) (k := 44) rfl (swL_at (j := 4) (t := 4) wx_64 10 (by decide)) : (swX3 cA (p 4) a hs qs)[2 + 44]? = some _))))))))
set_option maxRecDepth 20000 in
theorem wt_65 : (swT cA b p q a hs qs bm qm bo)[70]? = some ((swAd b p q a hs qs bm qm bo) 65, sk_ce (swAd b p q a hs qs bm qm bo) cA M00 65) := (ap_l (ap_l (A := swX7 cA b p q a hs qs) (ap_l (ap_l (ap_l (ap_l (ap_r (n := 23) (k := 47) lp_4 (ap_r (A := [(p 4, .inr (3, [.ref a, .int 0, .int 0])), (a, .inl (cA 14, 10, .inr (.inr (.inr (.inr (rfI hs 10))))))]) (B := swL cA hs qs 10) (n := 2) (k := 45) rfl (swL_at (j := 4) (t := 5) wx_65 10 (by decide)) : (swX3 cA (p 4) a hs qs)[2 + 45]? = some _))))))))
set_option maxRecDepth 20000 in
theorem wt_66 : (swT cA b p q a hs qs bm qm bo)[71]? = some ((swAd b p q a hs qs bm qm bo) 66, sk_ce (swAd b p q a hs qs bm qm bo) cA M00 66) := (ap_l (ap_l (A := swX7 cA b p q a hs qs) (ap_l (ap_l (ap_l (ap_l (ap_r (n := 23) (k := 48) lp_4 (ap_r (A := [(p 4, .inr (3, [.ref a, .int 0, .int 0])), (a, .inl (cA 14, 10, .inr (.inr (.inr (.inr (rfI hs 10))))))]) (B := swL cA hs qs 10) (n := 2) (k := 46) rfl (swL_at (j := 4) (t := 6) wx_66 10 (by decide)) : (swX3 cA (p 4) a hs qs)[2 + 46]? = some _))))))))
set_option maxRecDepth 20000 in
theorem wt_67 : (swT cA b p q a hs qs bm qm bo)[72]? = some ((swAd b p q a hs qs bm qm bo) 67, sk_ce (swAd b p q a hs qs bm qm bo) cA M00 67) := (ap_l (ap_l (A := swX7 cA b p q a hs qs) (ap_l (ap_l (ap_l (ap_l (ap_r (n := 23) (k := 49) lp_4 (ap_r (A := [(p 4, .inr (3, [.ref a, .int 0, .int 0])), (a, .inl (cA 14, 10, .inr (.inr (.inr (.inr (rfI hs 10))))))]) (B := swL cA hs qs 10) (n := 2) (k := 47) rfl (swL_at (j := 4) (t := 7) wx_67 10 (by decide)) : (swX3 cA (p 4) a hs qs)[2 + 47]? = some _))))))))
set_option maxRecDepth 20000 in
theorem wt_68 : (swT cA b p q a hs qs bm qm bo)[73]? = some ((swAd b p q a hs qs bm qm bo) 68, sk_ce (swAd b p q a hs qs bm qm bo) cA M00 68) := (ap_l (ap_l (A := swX7 cA b p q a hs qs) (ap_l (ap_l (ap_l (ap_l (ap_r (n := 23) (k := 50) lp_4 (ap_r (A := [(p 4, .inr (3, [.ref a, .int 0, .int 0])), (a, .inl (cA 14, 10, .inr (.inr (.inr (.inr (rfI hs 10))))))]) (B := swL cA hs qs 10) (n := 2) (k := 48) rfl (swL_at (j := 4) (t := 8) wx_68 10 (by decide)) : (swX3 cA (p 4) a hs qs)[2 + 48]? = some _))))))))
set_option maxRecDepth 20000 in
theorem wt_69 : (swT cA b p q a hs qs bm qm bo)[74]? = some ((swAd b p q a hs qs bm qm bo) 69, sk_ce (swAd b p q a hs qs bm qm bo) cA M00 69) := (ap_l (ap_l (A := swX7 cA b p q a hs qs) (ap_l (ap_l (ap_l (ap_l (ap_r (n := 23) (k := 51) lp_4 (ap_r (A := [(p 4, .inr (3, [.ref a, .int 0, .int 0])), (a, .inl (cA 14, 10, .inr (.inr (.inr (.inr (rfI hs 10))))))]) (B := swL cA hs qs 10) (n := 2) (k := 49) rfl (swL_at (j := 4) (t := 9) wx_69 10 (by decide)) : (swX3 cA (p 4) a hs qs)[2 + 49]? = some _))))))))
set_option maxRecDepth 20000 in
theorem wt_70 : (swT cA b p q a hs qs bm qm bo)[75]? = some ((swAd b p q a hs qs bm qm bo) 70, sk_ce (swAd b p q a hs qs bm qm bo) cA M00 70) := (ap_l (ap_l (A := swX7 cA b p q a hs qs) (ap_l (ap_l (ap_l (ap_l (ap_r (n := 23) (k := 52) lp_4 (ap_r (A := [(p 4, .inr (3, [.ref a, .int 0, .int 0])), (a, .inl (cA 14, 10, .inr (.inr (.inr (.inr (rfI hs 10))))))]) (B := swL cA hs qs 10) (n := 2) (k := 50) rfl (swL_at (j := 5) (t := 0) wx_70 10 (by decide)) : (swX3 cA (p 4) a hs qs)[2 + 50]? = some _))))))))
set_option maxRecDepth 20000 in
theorem wt_71 : (swT cA b p q a hs qs bm qm bo)[76]? = some ((swAd b p q a hs qs bm qm bo) 71, sk_ce (swAd b p q a hs qs bm qm bo) cA M00 71) := (ap_l (ap_l (A := swX7 cA b p q a hs qs) (ap_l (ap_l (ap_l (ap_l (ap_r (n := 23) (k := 53) lp_4 (ap_r (A := [(p 4, .inr (3, [.ref a, .int 0, .int 0])), (a, .inl (cA 14, 10, .inr (.inr (.inr (.inr (rfI hs 10))))))]) (B := swL cA hs qs 10) (n := 2) (k := 51) rfl (swL_at (j := 5) (t := 1) wx_71 10 (by decide)) : (swX3 cA (p 4) a hs qs)[2 + 51]? = some _))))))))
set_option maxRecDepth 20000 in
theorem wt_72 : (swT cA b p q a hs qs bm qm bo)[77]? = some ((swAd b p q a hs qs bm qm bo) 72, sk_ce (swAd b p q a hs qs bm qm bo) cA M00 72) := (ap_l (ap_l (A := swX7 cA b p q a hs qs) (ap_l (ap_l (ap_l (ap_l (ap_r (n := 23) (k := 54) lp_4 (ap_r (A := [(p 4, .inr (3, [.ref a, .int 0, .int 0])), (a, .inl (cA 14, 10, .inr (.inr (.inr (.inr (rfI hs 10))))))]) (B := swL cA hs qs 10) (n := 2) (k := 52) rfl (swL_at (j := 5) (t := 2) wx_72 10 (by decide)) : (swX3 cA (p 4) a hs qs)[2 + 52]? = some _))))))))
set_option maxRecDepth 20000 in
theorem wt_73 : (swT cA b p q a hs qs bm qm bo)[78]? = some ((swAd b p q a hs qs bm qm bo) 73, sk_ce (swAd b p q a hs qs bm qm bo) cA M00 73) := (ap_l (ap_l (A := swX7 cA b p q a hs qs) (ap_l (ap_l (ap_l (ap_l (ap_r (n := 23) (k := 55) lp_4 (ap_r (A := [(p 4, .inr (3, [.ref a, .int 0, .int 0])), (a, .inl (cA 14, 10, .inr (.inr (.inr (.inr (rfI hs 10))))))]) (B := swL cA hs qs 10) (n := 2) (k := 53) rfl (swL_at (j := 5) (t := 3) wx_73 10 (by decide)) : (swX3 cA (p 4) a hs qs)[2 + 53]? = some _))))))))
set_option maxRecDepth 20000 in
theorem wt_74 : (swT cA b p q a hs qs bm qm bo)[79]? = some ((swAd b p q a hs qs bm qm bo) 74, sk_ce (swAd b p q a hs qs bm qm bo) cA M00 74) := (ap_l (ap_l (A := swX7 cA b p q a hs qs) (ap_l (ap_l (ap_l (ap_l (ap_r (n := 23) (k := 56) lp_4 (ap_r (A := [(p 4, .inr (3, [.ref a, .int 0, .int 0])), (a, .inl (cA 14, 10, .inr (.inr (.inr (.inr (rfI hs 10))))))]) (B := swL cA hs qs 10) (n := 2) (k := 54) rfl (swL_at (j := 5) (t := 4) wx_74 10 (by decide)) : (swX3 cA (p 4) a hs qs)[2 + 54]? = some _))))))))
set_option maxRecDepth 20000 in
theorem wt_75 : (swT cA b p q a hs qs bm qm bo)[80]? = some ((swAd b p q a hs qs bm qm bo) 75, sk_ce (swAd b p q a hs qs bm qm bo) cA M00 75) := (ap_l (ap_l (A := swX7 cA b p q a hs qs) (ap_l (ap_l (ap_l (ap_l (ap_r (n := 23) (k := 57) lp_4 (ap_r (A := [(p 4, .inr (3, [.ref a, .int 0, .int 0])), (a, .inl (cA 14, 10, .inr (.inr (.inr (.inr (rfI hs 10))))))]) (B := swL cA hs qs 10) (n := 2) (k := 55) rfl (swL_at (j := 5) (t := 5) wx_75 10 (by decide)) : (swX3 cA (p 4) a hs qs)[2 + 55]? = some _))))))))
set_option maxRecDepth 20000 in
theorem wt_76 : (swT cA b p q a hs qs bm qm bo)[81]? = some ((swAd b p q a hs qs bm qm bo) 76, sk_ce (swAd b p q a hs qs bm qm bo) cA M00 76) := (ap_l (ap_l (A := swX7 cA b p q a hs qs) (ap_l (ap_l (ap_l (ap_l (ap_r (n := 23) (k := 58) lp_4 (ap_r (A := [(p 4, .inr (3, [.ref a, .int 0, .int 0])), (a, .inl (cA 14, 10, .inr (.inr (.inr (.inr (rfI hs 10))))))]) (B := swL cA hs qs 10) (n := 2) (k := 56) rfl (swL_at (j := 5) (t := 6) wx_76 10 (by decide)) : (swX3 cA (p 4) a hs qs)[2 + 56]? = some _))))))))
set_option maxRecDepth 20000 in
theorem wt_77 : (swT cA b p q a hs qs bm qm bo)[82]? = some ((swAd b p q a hs qs bm qm bo) 77, sk_ce (swAd b p q a hs qs bm qm bo) cA M00 77) := (ap_l (ap_l (A := swX7 cA b p q a hs qs) (ap_l (ap_l (ap_l (ap_l (ap_r (n := 23) (k := 59) lp_4 (ap_r (A := [(p 4, .inr (3, [.ref a, .int 0, .int 0])), (a, .inl (cA 14, 10, .inr (.inr (.inr (.inr (rfI hs 10))))))]) (B := swL cA hs qs 10) (n := 2) (k := 57) rfl (swL_at (j := 5) (t := 7) wx_77 10 (by decide)) : (swX3 cA (p 4) a hs qs)[2 + 57]? = some _))))))))
set_option maxRecDepth 20000 in
theorem wt_78 : (swT cA b p q a hs qs bm qm bo)[83]? = some ((swAd b p q a hs qs bm qm bo) 78, sk_ce (swAd b p q a hs qs bm qm bo) cA M00 78) := (ap_l (ap_l (A := swX7 cA b p q a hs qs) (ap_l (ap_l (ap_l (ap_l (ap_r (n := 23) (k := 60) lp_4 (ap_r (A := [(p 4, .inr (3, [.ref a, .int 0, .int 0])), (a, .inl (cA 14, 10, .inr (.inr (.inr (.inr (rfI hs 10))))))]) (B := swL cA hs qs 10) (n := 2) (k := 58) rfl (swL_at (j := 5) (t := 8) wx_78 10 (by decide)) : (swX3 cA (p 4) a hs qs)[2 + 58]? = some _))))))))
set_option maxRecDepth 20000 in
theorem wt_79 : (swT cA b p q a hs qs bm qm bo)[84]? = some ((swAd b p q a hs qs bm qm bo) 79, sk_ce (swAd b p q a hs qs bm qm bo) cA M00 79) := (ap_l (ap_l (A := swX7 cA b p q a hs qs) (ap_l (ap_l (ap_l (ap_l (ap_r (n := 23) (k := 61) lp_4 (ap_r (A := [(p 4, .inr (3, [.ref a, .int 0, .int 0])), (a, .inl (cA 14, 10, .inr (.inr (.inr (.inr (rfI hs 10))))))]) (B := swL cA hs qs 10) (n := 2) (k := 59) rfl (swL_at (j := 5) (t := 9) wx_79 10 (by decide)) : (swX3 cA (p 4) a hs qs)[2 + 59]? = some _))))))))
set_option maxRecDepth 20000 in
theorem wt_80 : (swT cA b p q a hs qs bm qm bo)[85]? = some ((swAd b p q a hs qs bm qm bo) 80, sk_ce (swAd b p q a hs qs bm qm bo) cA M00 80) := (ap_l (ap_l (A := swX7 cA b p q a hs qs) (ap_l (ap_l (ap_l (ap_l (ap_r (n := 23) (k := 62) lp_4 (ap_r (A := [(p 4, .inr (3, [.ref a, .int 0, .int 0])), (a, .inl (cA 14, 10, .inr (.inr (.inr (.inr (rfI hs 10))))))]) (B := swL cA hs qs 10) (n := 2) (k := 60) rfl (swL_at (j := 6) (t := 0) wx_80 10 (by decide)) : (swX3 cA (p 4) a hs qs)[2 + 60]? = some _))))))))
set_option maxRecDepth 20000 in
theorem wt_81 : (swT cA b p q a hs qs bm qm bo)[86]? = some ((swAd b p q a hs qs bm qm bo) 81, sk_ce (swAd b p q a hs qs bm qm bo) cA M00 81) := (ap_l (ap_l (A := swX7 cA b p q a hs qs) (ap_l (ap_l (ap_l (ap_l (ap_r (n := 23) (k := 63) lp_4 (ap_r (A := [(p 4, .inr (3, [.ref a, .int 0, .int 0])), (a, .inl (cA 14, 10, .inr (.inr (.inr (.inr (rfI hs 10))))))]) (B := swL cA hs qs 10) (n := 2) (k := 61) rfl (swL_at (j := 6) (t := 1) wx_81 10 (by decide)) : (swX3 cA (p 4) a hs qs)[2 + 61]? = some _))))))))
set_option maxRecDepth 20000 in
theorem wt_82 : (swT cA b p q a hs qs bm qm bo)[87]? = some ((swAd b p q a hs qs bm qm bo) 82, sk_ce (swAd b p q a hs qs bm qm bo) cA M00 82) := (ap_l (ap_l (A := swX7 cA b p q a hs qs) (ap_l (ap_l (ap_l (ap_l (ap_r (n := 23) (k := 64) lp_4 (ap_r (A := [(p 4, .inr (3, [.ref a, .int 0, .int 0])), (a, .inl (cA 14, 10, .inr (.inr (.inr (.inr (rfI hs 10))))))]) (B := swL cA hs qs 10) (n := 2) (k := 62) rfl (swL_at (j := 6) (t := 2) wx_82 10 (by decide)) : (swX3 cA (p 4) a hs qs)[2 + 62]? = some _))))))))
set_option maxRecDepth 20000 in
theorem wt_83 : (swT cA b p q a hs qs bm qm bo)[88]? = some ((swAd b p q a hs qs bm qm bo) 83, sk_ce (swAd b p q a hs qs bm qm bo) cA M00 83) := (ap_l (ap_l (A := swX7 cA b p q a hs qs) (ap_l (ap_l (ap_l (ap_l (ap_r (n := 23) (k := 65) lp_4 (ap_r (A := [(p 4, .inr (3, [.ref a, .int 0, .int 0])), (a, .inl (cA 14, 10, .inr (.inr (.inr (.inr (rfI hs 10))))))]) (B := swL cA hs qs 10) (n := 2) (k := 63) rfl (swL_at (j := 6) (t := 3) wx_83 10 (by decide)) : (swX3 cA (p 4) a hs qs)[2 + 63]? = some _))))))))
set_option maxRecDepth 20000 in
theorem wt_84 : (swT cA b p q a hs qs bm qm bo)[89]? = some ((swAd b p q a hs qs bm qm bo) 84, sk_ce (swAd b p q a hs qs bm qm bo) cA M00 84) := (ap_l (ap_l (A := swX7 cA b p q a hs qs) (ap_l (ap_l (ap_l (ap_l (ap_r (n := 23) (k := 66) lp_4 (ap_r (A := [(p 4, .inr (3, [.ref a, .int 0, .int 0])), (a, .inl (cA 14, 10, .inr (.inr (.inr (.inr (rfI hs 10))))))]) (B := swL cA hs qs 10) (n := 2) (k := 64) rfl (swL_at (j := 6) (t := 4) wx_84 10 (by decide)) : (swX3 cA (p 4) a hs qs)[2 + 64]? = some _))))))))
set_option maxRecDepth 20000 in
theorem wt_85 : (swT cA b p q a hs qs bm qm bo)[90]? = some ((swAd b p q a hs qs bm qm bo) 85, sk_ce (swAd b p q a hs qs bm qm bo) cA M00 85) := (ap_l (ap_l (A := swX7 cA b p q a hs qs) (ap_l (ap_l (ap_l (ap_l (ap_r (n := 23) (k := 67) lp_4 (ap_r (A := [(p 4, .inr (3, [.ref a, .int 0, .int 0])), (a, .inl (cA 14, 10, .inr (.inr (.inr (.inr (rfI hs 10))))))]) (B := swL cA hs qs 10) (n := 2) (k := 65) rfl (swL_at (j := 6) (t := 5) wx_85 10 (by decide)) : (swX3 cA (p 4) a hs qs)[2 + 65]? = some _))))))))
set_option maxRecDepth 20000 in
theorem wt_86 : (swT cA b p q a hs qs bm qm bo)[91]? = some ((swAd b p q a hs qs bm qm bo) 86, sk_ce (swAd b p q a hs qs bm qm bo) cA M00 86) := (ap_l (ap_l (A := swX7 cA b p q a hs qs) (ap_l (ap_l (ap_l (ap_l (ap_r (n := 23) (k := 68) lp_4 (ap_r (A := [(p 4, .inr (3, [.ref a, .int 0, .int 0])), (a, .inl (cA 14, 10, .inr (.inr (.inr (.inr (rfI hs 10))))))]) (B := swL cA hs qs 10) (n := 2) (k := 66) rfl (swL_at (j := 6) (t := 6) wx_86 10 (by decide)) : (swX3 cA (p 4) a hs qs)[2 + 66]? = some _))))))))
set_option maxRecDepth 20000 in
theorem wt_87 : (swT cA b p q a hs qs bm qm bo)[92]? = some ((swAd b p q a hs qs bm qm bo) 87, sk_ce (swAd b p q a hs qs bm qm bo) cA M00 87) := (ap_l (ap_l (A := swX7 cA b p q a hs qs) (ap_l (ap_l (ap_l (ap_l (ap_r (n := 23) (k := 69) lp_4 (ap_r (A := [(p 4, .inr (3, [.ref a, .int 0, .int 0])), (a, .inl (cA 14, 10, .inr (.inr (.inr (.inr (rfI hs 10))))))]) (B := swL cA hs qs 10) (n := 2) (k := 67) rfl (swL_at (j := 6) (t := 7) wx_87 10 (by decide)) : (swX3 cA (p 4) a hs qs)[2 + 67]? = some _))))))))
set_option maxRecDepth 20000 in
theorem wt_88 : (swT cA b p q a hs qs bm qm bo)[93]? = some ((swAd b p q a hs qs bm qm bo) 88, sk_ce (swAd b p q a hs qs bm qm bo) cA M00 88) := (ap_l (ap_l (A := swX7 cA b p q a hs qs) (ap_l (ap_l (ap_l (ap_l (ap_r (n := 23) (k := 70) lp_4 (ap_r (A := [(p 4, .inr (3, [.ref a, .int 0, .int 0])), (a, .inl (cA 14, 10, .inr (.inr (.inr (.inr (rfI hs 10))))))]) (B := swL cA hs qs 10) (n := 2) (k := 68) rfl (swL_at (j := 6) (t := 8) wx_88 10 (by decide)) : (swX3 cA (p 4) a hs qs)[2 + 68]? = some _))))))))
set_option maxRecDepth 20000 in
theorem wt_89 : (swT cA b p q a hs qs bm qm bo)[94]? = some ((swAd b p q a hs qs bm qm bo) 89, sk_ce (swAd b p q a hs qs bm qm bo) cA M00 89) := (ap_l (ap_l (A := swX7 cA b p q a hs qs) (ap_l (ap_l (ap_l (ap_l (ap_r (n := 23) (k := 71) lp_4 (ap_r (A := [(p 4, .inr (3, [.ref a, .int 0, .int 0])), (a, .inl (cA 14, 10, .inr (.inr (.inr (.inr (rfI hs 10))))))]) (B := swL cA hs qs 10) (n := 2) (k := 69) rfl (swL_at (j := 6) (t := 9) wx_89 10 (by decide)) : (swX3 cA (p 4) a hs qs)[2 + 69]? = some _))))))))
set_option maxRecDepth 20000 in
theorem wt_90 : (swT cA b p q a hs qs bm qm bo)[95]? = some ((swAd b p q a hs qs bm qm bo) 90, sk_ce (swAd b p q a hs qs bm qm bo) cA M00 90) := (ap_l (ap_l (A := swX7 cA b p q a hs qs) (ap_l (ap_l (ap_l (ap_l (ap_r (n := 23) (k := 72) lp_4 (ap_r (A := [(p 4, .inr (3, [.ref a, .int 0, .int 0])), (a, .inl (cA 14, 10, .inr (.inr (.inr (.inr (rfI hs 10))))))]) (B := swL cA hs qs 10) (n := 2) (k := 70) rfl (swL_at (j := 7) (t := 0) wx_90 10 (by decide)) : (swX3 cA (p 4) a hs qs)[2 + 70]? = some _))))))))
set_option maxRecDepth 20000 in
theorem wt_91 : (swT cA b p q a hs qs bm qm bo)[96]? = some ((swAd b p q a hs qs bm qm bo) 91, sk_ce (swAd b p q a hs qs bm qm bo) cA M00 91) := (ap_l (ap_l (A := swX7 cA b p q a hs qs) (ap_l (ap_l (ap_l (ap_l (ap_r (n := 23) (k := 73) lp_4 (ap_r (A := [(p 4, .inr (3, [.ref a, .int 0, .int 0])), (a, .inl (cA 14, 10, .inr (.inr (.inr (.inr (rfI hs 10))))))]) (B := swL cA hs qs 10) (n := 2) (k := 71) rfl (swL_at (j := 7) (t := 1) wx_91 10 (by decide)) : (swX3 cA (p 4) a hs qs)[2 + 71]? = some _))))))))
set_option maxRecDepth 20000 in
theorem wt_92 : (swT cA b p q a hs qs bm qm bo)[97]? = some ((swAd b p q a hs qs bm qm bo) 92, sk_ce (swAd b p q a hs qs bm qm bo) cA M00 92) := (ap_l (ap_l (A := swX7 cA b p q a hs qs) (ap_l (ap_l (ap_l (ap_l (ap_r (n := 23) (k := 74) lp_4 (ap_r (A := [(p 4, .inr (3, [.ref a, .int 0, .int 0])), (a, .inl (cA 14, 10, .inr (.inr (.inr (.inr (rfI hs 10))))))]) (B := swL cA hs qs 10) (n := 2) (k := 72) rfl (swL_at (j := 7) (t := 2) wx_92 10 (by decide)) : (swX3 cA (p 4) a hs qs)[2 + 72]? = some _))))))))
set_option maxRecDepth 20000 in
theorem wt_93 : (swT cA b p q a hs qs bm qm bo)[98]? = some ((swAd b p q a hs qs bm qm bo) 93, sk_ce (swAd b p q a hs qs bm qm bo) cA M00 93) := (ap_l (ap_l (A := swX7 cA b p q a hs qs) (ap_l (ap_l (ap_l (ap_l (ap_r (n := 23) (k := 75) lp_4 (ap_r (A := [(p 4, .inr (3, [.ref a, .int 0, .int 0])), (a, .inl (cA 14, 10, .inr (.inr (.inr (.inr (rfI hs 10))))))]) (B := swL cA hs qs 10) (n := 2) (k := 73) rfl (swL_at (j := 7) (t := 3) wx_93 10 (by decide)) : (swX3 cA (p 4) a hs qs)[2 + 73]? = some _))))))))
set_option maxRecDepth 20000 in
theorem wt_94 : (swT cA b p q a hs qs bm qm bo)[99]? = some ((swAd b p q a hs qs bm qm bo) 94, sk_ce (swAd b p q a hs qs bm qm bo) cA M00 94) := (ap_l (ap_l (A := swX7 cA b p q a hs qs) (ap_l (ap_l (ap_l (ap_l (ap_r (n := 23) (k := 76) lp_4 (ap_r (A := [(p 4, .inr (3, [.ref a, .int 0, .int 0])), (a, .inl (cA 14, 10, .inr (.inr (.inr (.inr (rfI hs 10))))))]) (B := swL cA hs qs 10) (n := 2) (k := 74) rfl (swL_at (j := 7) (t := 4) wx_94 10 (by decide)) : (swX3 cA (p 4) a hs qs)[2 + 74]? = some _))))))))
set_option maxRecDepth 20000 in
theorem wt_95 : (swT cA b p q a hs qs bm qm bo)[100]? = some ((swAd b p q a hs qs bm qm bo) 95, sk_ce (swAd b p q a hs qs bm qm bo) cA M00 95) := (ap_l (ap_l (A := swX7 cA b p q a hs qs) (ap_l (ap_l (ap_l (ap_l (ap_r (n := 23) (k := 77) lp_4 (ap_r (A := [(p 4, .inr (3, [.ref a, .int 0, .int 0])), (a, .inl (cA 14, 10, .inr (.inr (.inr (.inr (rfI hs 10))))))]) (B := swL cA hs qs 10) (n := 2) (k := 75) rfl (swL_at (j := 7) (t := 5) wx_95 10 (by decide)) : (swX3 cA (p 4) a hs qs)[2 + 75]? = some _))))))))
set_option maxRecDepth 20000 in
theorem wt_96 : (swT cA b p q a hs qs bm qm bo)[101]? = some ((swAd b p q a hs qs bm qm bo) 96, sk_ce (swAd b p q a hs qs bm qm bo) cA M00 96) := (ap_l (ap_l (A := swX7 cA b p q a hs qs) (ap_l (ap_l (ap_l (ap_l (ap_r (n := 23) (k := 78) lp_4 (ap_r (A := [(p 4, .inr (3, [.ref a, .int 0, .int 0])), (a, .inl (cA 14, 10, .inr (.inr (.inr (.inr (rfI hs 10))))))]) (B := swL cA hs qs 10) (n := 2) (k := 76) rfl (swL_at (j := 7) (t := 6) wx_96 10 (by decide)) : (swX3 cA (p 4) a hs qs)[2 + 76]? = some _))))))))
set_option maxRecDepth 20000 in
theorem wt_97 : (swT cA b p q a hs qs bm qm bo)[102]? = some ((swAd b p q a hs qs bm qm bo) 97, sk_ce (swAd b p q a hs qs bm qm bo) cA M00 97) := (ap_l (ap_l (A := swX7 cA b p q a hs qs) (ap_l (ap_l (ap_l (ap_l (ap_r (n := 23) (k := 79) lp_4 (ap_r (A := [(p 4, .inr (3, [.ref a, .int 0, .int 0])), (a, .inl (cA 14, 10, .inr (.inr (.inr (.inr (rfI hs 10))))))]) (B := swL cA hs qs 10) (n := 2) (k := 77) rfl (swL_at (j := 7) (t := 7) wx_97 10 (by decide)) : (swX3 cA (p 4) a hs qs)[2 + 77]? = some _))))))))
set_option maxRecDepth 20000 in
theorem wt_98 : (swT cA b p q a hs qs bm qm bo)[103]? = some ((swAd b p q a hs qs bm qm bo) 98, sk_ce (swAd b p q a hs qs bm qm bo) cA M00 98) := (ap_l (ap_l (A := swX7 cA b p q a hs qs) (ap_l (ap_l (ap_l (ap_l (ap_r (n := 23) (k := 80) lp_4 (ap_r (A := [(p 4, .inr (3, [.ref a, .int 0, .int 0])), (a, .inl (cA 14, 10, .inr (.inr (.inr (.inr (rfI hs 10))))))]) (B := swL cA hs qs 10) (n := 2) (k := 78) rfl (swL_at (j := 7) (t := 8) wx_98 10 (by decide)) : (swX3 cA (p 4) a hs qs)[2 + 78]? = some _))))))))
set_option maxRecDepth 20000 in
theorem wt_99 : (swT cA b p q a hs qs bm qm bo)[104]? = some ((swAd b p q a hs qs bm qm bo) 99, sk_ce (swAd b p q a hs qs bm qm bo) cA M00 99) := (ap_l (ap_l (A := swX7 cA b p q a hs qs) (ap_l (ap_l (ap_l (ap_l (ap_r (n := 23) (k := 81) lp_4 (ap_r (A := [(p 4, .inr (3, [.ref a, .int 0, .int 0])), (a, .inl (cA 14, 10, .inr (.inr (.inr (.inr (rfI hs 10))))))]) (B := swL cA hs qs 10) (n := 2) (k := 79) rfl (swL_at (j := 7) (t := 9) wx_99 10 (by decide)) : (swX3 cA (p 4) a hs qs)[2 + 79]? = some _))))))))
set_option maxRecDepth 20000 in
theorem wt_100 : (swT cA b p q a hs qs bm qm bo)[105]? = some ((swAd b p q a hs qs bm qm bo) 100, sk_ce (swAd b p q a hs qs bm qm bo) cA M00 100) := (ap_l (ap_l (A := swX7 cA b p q a hs qs) (ap_l (ap_l (ap_l (ap_l (ap_r (n := 23) (k := 82) lp_4 (ap_r (A := [(p 4, .inr (3, [.ref a, .int 0, .int 0])), (a, .inl (cA 14, 10, .inr (.inr (.inr (.inr (rfI hs 10))))))]) (B := swL cA hs qs 10) (n := 2) (k := 80) rfl (swL_at (j := 8) (t := 0) wx_100 10 (by decide)) : (swX3 cA (p 4) a hs qs)[2 + 80]? = some _))))))))
set_option maxRecDepth 20000 in
theorem wt_101 : (swT cA b p q a hs qs bm qm bo)[106]? = some ((swAd b p q a hs qs bm qm bo) 101, sk_ce (swAd b p q a hs qs bm qm bo) cA M00 101) := (ap_l (ap_l (A := swX7 cA b p q a hs qs) (ap_l (ap_l (ap_l (ap_l (ap_r (n := 23) (k := 83) lp_4 (ap_r (A := [(p 4, .inr (3, [.ref a, .int 0, .int 0])), (a, .inl (cA 14, 10, .inr (.inr (.inr (.inr (rfI hs 10))))))]) (B := swL cA hs qs 10) (n := 2) (k := 81) rfl (swL_at (j := 8) (t := 1) wx_101 10 (by decide)) : (swX3 cA (p 4) a hs qs)[2 + 81]? = some _))))))))
set_option maxRecDepth 20000 in
theorem wt_102 : (swT cA b p q a hs qs bm qm bo)[107]? = some ((swAd b p q a hs qs bm qm bo) 102, sk_ce (swAd b p q a hs qs bm qm bo) cA M00 102) := (ap_l (ap_l (A := swX7 cA b p q a hs qs) (ap_l (ap_l (ap_l (ap_l (ap_r (n := 23) (k := 84) lp_4 (ap_r (A := [(p 4, .inr (3, [.ref a, .int 0, .int 0])), (a, .inl (cA 14, 10, .inr (.inr (.inr (.inr (rfI hs 10))))))]) (B := swL cA hs qs 10) (n := 2) (k := 82) rfl (swL_at (j := 8) (t := 2) wx_102 10 (by decide)) : (swX3 cA (p 4) a hs qs)[2 + 82]? = some _))))))))
set_option maxRecDepth 20000 in
theorem wt_103 : (swT cA b p q a hs qs bm qm bo)[108]? = some ((swAd b p q a hs qs bm qm bo) 103, sk_ce (swAd b p q a hs qs bm qm bo) cA M00 103) := (ap_l (ap_l (A := swX7 cA b p q a hs qs) (ap_l (ap_l (ap_l (ap_l (ap_r (n := 23) (k := 85) lp_4 (ap_r (A := [(p 4, .inr (3, [.ref a, .int 0, .int 0])), (a, .inl (cA 14, 10, .inr (.inr (.inr (.inr (rfI hs 10))))))]) (B := swL cA hs qs 10) (n := 2) (k := 83) rfl (swL_at (j := 8) (t := 3) wx_103 10 (by decide)) : (swX3 cA (p 4) a hs qs)[2 + 83]? = some _))))))))
set_option maxRecDepth 20000 in
theorem wt_104 : (swT cA b p q a hs qs bm qm bo)[109]? = some ((swAd b p q a hs qs bm qm bo) 104, sk_ce (swAd b p q a hs qs bm qm bo) cA M00 104) := (ap_l (ap_l (A := swX7 cA b p q a hs qs) (ap_l (ap_l (ap_l (ap_l (ap_r (n := 23) (k := 86) lp_4 (ap_r (A := [(p 4, .inr (3, [.ref a, .int 0, .int 0])), (a, .inl (cA 14, 10, .inr (.inr (.inr (.inr (rfI hs 10))))))]) (B := swL cA hs qs 10) (n := 2) (k := 84) rfl (swL_at (j := 8) (t := 4) wx_104 10 (by decide)) : (swX3 cA (p 4) a hs qs)[2 + 84]? = some _))))))))
set_option maxRecDepth 20000 in
theorem wt_105 : (swT cA b p q a hs qs bm qm bo)[110]? = some ((swAd b p q a hs qs bm qm bo) 105, sk_ce (swAd b p q a hs qs bm qm bo) cA M00 105) := (ap_l (ap_l (A := swX7 cA b p q a hs qs) (ap_l (ap_l (ap_l (ap_l (ap_r (n := 23) (k := 87) lp_4 (ap_r (A := [(p 4, .inr (3, [.ref a, .int 0, .int 0])), (a, .inl (cA 14, 10, .inr (.inr (.inr (.inr (rfI hs 10))))))]) (B := swL cA hs qs 10) (n := 2) (k := 85) rfl (swL_at (j := 8) (t := 5) wx_105 10 (by decide)) : (swX3 cA (p 4) a hs qs)[2 + 85]? = some _))))))))
set_option maxRecDepth 20000 in
theorem wt_106 : (swT cA b p q a hs qs bm qm bo)[111]? = some ((swAd b p q a hs qs bm qm bo) 106, sk_ce (swAd b p q a hs qs bm qm bo) cA M00 106) := (ap_l (ap_l (A := swX7 cA b p q a hs qs) (ap_l (ap_l (ap_l (ap_l (ap_r (n := 23) (k := 88) lp_4 (ap_r (A := [(p 4, .inr (3, [.ref a, .int 0, .int 0])), (a, .inl (cA 14, 10, .inr (.inr (.inr (.inr (rfI hs 10))))))]) (B := swL cA hs qs 10) (n := 2) (k := 86) rfl (swL_at (j := 8) (t := 6) wx_106 10 (by decide)) : (swX3 cA (p 4) a hs qs)[2 + 86]? = some _))))))))
set_option maxRecDepth 20000 in
theorem wt_107 : (swT cA b p q a hs qs bm qm bo)[112]? = some ((swAd b p q a hs qs bm qm bo) 107, sk_ce (swAd b p q a hs qs bm qm bo) cA M00 107) := (ap_l (ap_l (A := swX7 cA b p q a hs qs) (ap_l (ap_l (ap_l (ap_l (ap_r (n := 23) (k := 89) lp_4 (ap_r (A := [(p 4, .inr (3, [.ref a, .int 0, .int 0])), (a, .inl (cA 14, 10, .inr (.inr (.inr (.inr (rfI hs 10))))))]) (B := swL cA hs qs 10) (n := 2) (k := 87) rfl (swL_at (j := 8) (t := 7) wx_107 10 (by decide)) : (swX3 cA (p 4) a hs qs)[2 + 87]? = some _))))))))
set_option maxRecDepth 20000 in
theorem wt_108 : (swT cA b p q a hs qs bm qm bo)[113]? = some ((swAd b p q a hs qs bm qm bo) 108, sk_ce (swAd b p q a hs qs bm qm bo) cA M00 108) := (ap_l (ap_l (A := swX7 cA b p q a hs qs) (ap_l (ap_l (ap_l (ap_l (ap_r (n := 23) (k := 90) lp_4 (ap_r (A := [(p 4, .inr (3, [.ref a, .int 0, .int 0])), (a, .inl (cA 14, 10, .inr (.inr (.inr (.inr (rfI hs 10))))))]) (B := swL cA hs qs 10) (n := 2) (k := 88) rfl (swL_at (j := 8) (t := 8) wx_108 10 (by decide)) : (swX3 cA (p 4) a hs qs)[2 + 88]? = some _))))))))
set_option maxRecDepth 20000 in
theorem wt_109 : (swT cA b p q a hs qs bm qm bo)[114]? = some ((swAd b p q a hs qs bm qm bo) 109, sk_ce (swAd b p q a hs qs bm qm bo) cA M00 109) := (ap_l (ap_l (A := swX7 cA b p q a hs qs) (ap_l (ap_l (ap_l (ap_l (ap_r (n := 23) (k := 91) lp_4 (ap_r (A := [(p 4, .inr (3, [.ref a, .int 0, .int 0])), (a, .inl (cA 14, 10, .inr (.inr (.inr (.inr (rfI hs 10))))))]) (B := swL cA hs qs 10) (n := 2) (k := 89) rfl (swL_at (j := 8) (t := 9) wx_109 10 (by decide)) : (swX3 cA (p 4) a hs qs)[2 + 89]? = some _))))))))
set_option maxRecDepth 20000 in
theorem wt_110 : (swT cA b p q a hs qs bm qm bo)[115]? = some ((swAd b p q a hs qs bm qm bo) 110, sk_ce (swAd b p q a hs qs bm qm bo) cA M00 110) := (ap_l (ap_l (A := swX7 cA b p q a hs qs) (ap_l (ap_l (ap_l (ap_l (ap_r (n := 23) (k := 92) lp_4 (ap_r (A := [(p 4, .inr (3, [.ref a, .int 0, .int 0])), (a, .inl (cA 14, 10, .inr (.inr (.inr (.inr (rfI hs 10))))))]) (B := swL cA hs qs 10) (n := 2) (k := 90) rfl (swL_at (j := 9) (t := 0) wx_110 10 (by decide)) : (swX3 cA (p 4) a hs qs)[2 + 90]? = some _))))))))
set_option maxRecDepth 20000 in
theorem wt_111 : (swT cA b p q a hs qs bm qm bo)[116]? = some ((swAd b p q a hs qs bm qm bo) 111, sk_ce (swAd b p q a hs qs bm qm bo) cA M00 111) := (ap_l (ap_l (A := swX7 cA b p q a hs qs) (ap_l (ap_l (ap_l (ap_l (ap_r (n := 23) (k := 93) lp_4 (ap_r (A := [(p 4, .inr (3, [.ref a, .int 0, .int 0])), (a, .inl (cA 14, 10, .inr (.inr (.inr (.inr (rfI hs 10))))))]) (B := swL cA hs qs 10) (n := 2) (k := 91) rfl (swL_at (j := 9) (t := 1) wx_111 10 (by decide)) : (swX3 cA (p 4) a hs qs)[2 + 91]? = some _))))))))
set_option maxRecDepth 20000 in
theorem wt_112 : (swT cA b p q a hs qs bm qm bo)[117]? = some ((swAd b p q a hs qs bm qm bo) 112, sk_ce (swAd b p q a hs qs bm qm bo) cA M00 112) := (ap_l (ap_l (A := swX7 cA b p q a hs qs) (ap_l (ap_l (ap_l (ap_l (ap_r (n := 23) (k := 94) lp_4 (ap_r (A := [(p 4, .inr (3, [.ref a, .int 0, .int 0])), (a, .inl (cA 14, 10, .inr (.inr (.inr (.inr (rfI hs 10))))))]) (B := swL cA hs qs 10) (n := 2) (k := 92) rfl (swL_at (j := 9) (t := 2) wx_112 10 (by decide)) : (swX3 cA (p 4) a hs qs)[2 + 92]? = some _))))))))
set_option maxRecDepth 20000 in
theorem wt_113 : (swT cA b p q a hs qs bm qm bo)[118]? = some ((swAd b p q a hs qs bm qm bo) 113, sk_ce (swAd b p q a hs qs bm qm bo) cA M00 113) := (ap_l (ap_l (A := swX7 cA b p q a hs qs) (ap_l (ap_l (ap_l (ap_l (ap_r (n := 23) (k := 95) lp_4 (ap_r (A := [(p 4, .inr (3, [.ref a, .int 0, .int 0])), (a, .inl (cA 14, 10, .inr (.inr (.inr (.inr (rfI hs 10))))))]) (B := swL cA hs qs 10) (n := 2) (k := 93) rfl (swL_at (j := 9) (t := 3) wx_113 10 (by decide)) : (swX3 cA (p 4) a hs qs)[2 + 93]? = some _))))))))
set_option maxRecDepth 20000 in
theorem wt_114 : (swT cA b p q a hs qs bm qm bo)[119]? = some ((swAd b p q a hs qs bm qm bo) 114, sk_ce (swAd b p q a hs qs bm qm bo) cA M00 114) := (ap_l (ap_l (A := swX7 cA b p q a hs qs) (ap_l (ap_l (ap_l (ap_l (ap_r (n := 23) (k := 96) lp_4 (ap_r (A := [(p 4, .inr (3, [.ref a, .int 0, .int 0])), (a, .inl (cA 14, 10, .inr (.inr (.inr (.inr (rfI hs 10))))))]) (B := swL cA hs qs 10) (n := 2) (k := 94) rfl (swL_at (j := 9) (t := 4) wx_114 10 (by decide)) : (swX3 cA (p 4) a hs qs)[2 + 94]? = some _))))))))
set_option maxRecDepth 20000 in
theorem wt_115 : (swT cA b p q a hs qs bm qm bo)[120]? = some ((swAd b p q a hs qs bm qm bo) 115, sk_ce (swAd b p q a hs qs bm qm bo) cA M00 115) := (ap_l (ap_l (A := swX7 cA b p q a hs qs) (ap_l (ap_l (ap_l (ap_l (ap_r (n := 23) (k := 97) lp_4 (ap_r (A := [(p 4, .inr (3, [.ref a, .int 0, .int 0])), (a, .inl (cA 14, 10, .inr (.inr (.inr (.inr (rfI hs 10))))))]) (B := swL cA hs qs 10) (n := 2) (k := 95) rfl (swL_at (j := 9) (t := 5) wx_115 10 (by decide)) : (swX3 cA (p 4) a hs qs)[2 + 95]? = some _))))))))
set_option maxRecDepth 20000 in
theorem wt_116 : (swT cA b p q a hs qs bm qm bo)[121]? = some ((swAd b p q a hs qs bm qm bo) 116, sk_ce (swAd b p q a hs qs bm qm bo) cA M00 116) := (ap_l (ap_l (A := swX7 cA b p q a hs qs) (ap_l (ap_l (ap_l (ap_l (ap_r (n := 23) (k := 98) lp_4 (ap_r (A := [(p 4, .inr (3, [.ref a, .int 0, .int 0])), (a, .inl (cA 14, 10, .inr (.inr (.inr (.inr (rfI hs 10))))))]) (B := swL cA hs qs 10) (n := 2) (k := 96) rfl (swL_at (j := 9) (t := 6) wx_116 10 (by decide)) : (swX3 cA (p 4) a hs qs)[2 + 96]? = some _))))))))
set_option maxRecDepth 20000 in
theorem wt_117 : (swT cA b p q a hs qs bm qm bo)[122]? = some ((swAd b p q a hs qs bm qm bo) 117, sk_ce (swAd b p q a hs qs bm qm bo) cA M00 117) := (ap_l (ap_l (A := swX7 cA b p q a hs qs) (ap_l (ap_l (ap_l (ap_l (ap_r (n := 23) (k := 99) lp_4 (ap_r (A := [(p 4, .inr (3, [.ref a, .int 0, .int 0])), (a, .inl (cA 14, 10, .inr (.inr (.inr (.inr (rfI hs 10))))))]) (B := swL cA hs qs 10) (n := 2) (k := 97) rfl (swL_at (j := 9) (t := 7) wx_117 10 (by decide)) : (swX3 cA (p 4) a hs qs)[2 + 97]? = some _))))))))
set_option maxRecDepth 20000 in
theorem wt_118 : (swT cA b p q a hs qs bm qm bo)[123]? = some ((swAd b p q a hs qs bm qm bo) 118, sk_ce (swAd b p q a hs qs bm qm bo) cA M00 118) := (ap_l (ap_l (A := swX7 cA b p q a hs qs) (ap_l (ap_l (ap_l (ap_l (ap_r (n := 23) (k := 100) lp_4 (ap_r (A := [(p 4, .inr (3, [.ref a, .int 0, .int 0])), (a, .inl (cA 14, 10, .inr (.inr (.inr (.inr (rfI hs 10))))))]) (B := swL cA hs qs 10) (n := 2) (k := 98) rfl (swL_at (j := 9) (t := 8) wx_118 10 (by decide)) : (swX3 cA (p 4) a hs qs)[2 + 98]? = some _))))))))
set_option maxRecDepth 20000 in
theorem wt_119 : (swT cA b p q a hs qs bm qm bo)[124]? = some ((swAd b p q a hs qs bm qm bo) 119, sk_ce (swAd b p q a hs qs bm qm bo) cA M00 119) := (ap_l (ap_l (A := swX7 cA b p q a hs qs) (ap_l (ap_l (ap_l (ap_l (ap_r (n := 23) (k := 101) lp_4 (ap_r (A := [(p 4, .inr (3, [.ref a, .int 0, .int 0])), (a, .inl (cA 14, 10, .inr (.inr (.inr (.inr (rfI hs 10))))))]) (B := swL cA hs qs 10) (n := 2) (k := 99) rfl (swL_at (j := 9) (t := 9) wx_119 10 (by decide)) : (swX3 cA (p 4) a hs qs)[2 + 99]? = some _))))))))
set_option maxRecDepth 20000 in
theorem wt_120 : (swT cA b p q a hs qs bm qm bo)[0]? = some ((swAd b p q a hs qs bm qm bo) 120, sk_ce (swAd b p q a hs qs bm qm bo) cA M00 120) := (ap_l (ap_l (A := swX7 cA b p q a hs qs) (ap_l (ap_l (ap_l (ap_l (ap_l (ap_l (ap_l (ap_l wx_120))))))))))
set_option maxRecDepth 20000 in
theorem wt_121 : (swT cA b p q a hs qs bm qm bo)[1]? = some ((swAd b p q a hs qs bm qm bo) 121, sk_ce (swAd b p q a hs qs bm qm bo) cA M00 121) := (ap_l (ap_l (A := swX7 cA b p q a hs qs) (ap_l (ap_l (ap_l (ap_l (ap_l (ap_l (ap_l (ap_r (n := 1) (k := 0) lp_1 wx_121))))))))))
set_option maxRecDepth 20000 in
theorem wt_122 : (swT cA b p q a hs qs bm qm bo)[2]? = some ((swAd b p q a hs qs bm qm bo) 122, sk_ce (swAd b p q a hs qs bm qm bo) cA M00 122) := (ap_l (ap_l (A := swX7 cA b p q a hs qs) (ap_l (ap_l (ap_l (ap_l (ap_l (ap_l (ap_l (ap_r (n := 1) (k := 1) lp_1 wx_122))))))))))
set_option maxRecDepth 20000 in
theorem wt_123 : (swT cA b p q a hs qs bm qm bo)[23]? = some ((swAd b p q a hs qs bm qm bo) 123, sk_ce (swAd b p q a hs qs bm qm bo) cA M00 123) := (ap_l (ap_l (A := swX7 cA b p q a hs qs) (ap_l (ap_l (ap_l (ap_l (ap_r (n := 23) (k := 0) lp_4 wx_123)))))))
set_option maxRecDepth 20000 in
theorem wt_124 : (swT cA b p q a hs qs bm qm bo)[24]? = some ((swAd b p q a hs qs bm qm bo) 124, .inl (cA 14, 10, .inr (.inr (.inr (.inr (rfI hs 10)))))) := (ap_l (ap_l (A := swX7 cA b p q a hs qs) (ap_l (ap_l (ap_l (ap_l (ap_r (n := 23) (k := 1) lp_4 wx_124)))))))
set_option maxRecDepth 20000 in
theorem wt_125 : (swT cA b p q a hs qs bm qm bo)[125]? = some ((swAd b p q a hs qs bm qm bo) 125, sk_ce (swAd b p q a hs qs bm qm bo) cA M00 125) := (ap_l (ap_l (A := swX7 cA b p q a hs qs) (ap_l (ap_l (ap_l (ap_r (n := 125) (k := 0) lp_5 wx_125))))))
set_option maxRecDepth 20000 in
theorem wt_126 : (swT cA b p q a hs qs bm qm bo)[126]? = some ((swAd b p q a hs qs bm qm bo) 126, sk_ce (swAd b p q a hs qs bm qm bo) cA M00 126) := (ap_l (ap_l (A := swX7 cA b p q a hs qs) (ap_l (ap_l (ap_r (n := 126) (k := 0) lp_6 wx_126)))))
set_option maxRecDepth 20000 in
theorem wt_127 : (swT cA b p q a hs qs bm qm bo)[127]? = some ((swAd b p q a hs qs bm qm bo) 127, sk_ce (swAd b p q a hs qs bm qm bo) cA M00 127) := (ap_l (ap_l (A := swX7 cA b p q a hs qs) (ap_l (ap_l (ap_r (n := 126) (k := 1) lp_6 wx_127)))))
set_option maxRecDepth 20000 in
theorem wt_128 : (swT cA b p q a hs qs bm qm bo)[128]? = some ((swAd b p q a hs qs bm qm bo) 128, sk_ce (swAd b p q a hs qs bm qm bo) cA M00 128) := (ap_l (ap_l (A := swX7 cA b p q a hs qs) (ap_l (ap_l (ap_r (n := 126) (k := 2) lp_6 wx_128)))))
set_option maxRecDepth 20000 in
theorem wt_129 : (swT cA b p q a hs qs bm qm bo)[129]? = some ((swAd b p q a hs qs bm qm bo) 129, sk_ce (swAd b p q a hs qs bm qm bo) cA M00 129) := (ap_l (ap_l (A := swX7 cA b p q a hs qs) (ap_l (ap_l (ap_r (n := 126) (k := 3) lp_6 wx_129)))))
set_option maxRecDepth 20000 in
theorem wt_130 : (swT cA b p q a hs qs bm qm bo)[130]? = some ((swAd b p q a hs qs bm qm bo) 130, sk_ce (swAd b p q a hs qs bm qm bo) cA M00 130) := (ap_l (ap_l (A := swX7 cA b p q a hs qs) (ap_l (ap_r (n := 130) (k := 0) lp_7 wx_130))))
set_option maxRecDepth 20000 in
theorem wt_131 : (swT cA b p q a hs qs bm qm bo)[131]? = some ((swAd b p q a hs qs bm qm bo) 131, sk_ce (swAd b p q a hs qs bm qm bo) cA M00 131) := (ap_l (ap_l (A := swX7 cA b p q a hs qs) (ap_l (ap_r (n := 130) (k := 1) lp_7 wx_131))))
set_option maxRecDepth 20000 in
theorem wt_132 : (swT cA b p q a hs qs bm qm bo)[132]? = some ((swAd b p q a hs qs bm qm bo) 132, sk_ce (swAd b p q a hs qs bm qm bo) cA M00 132) := (ap_l (ap_l (A := swX7 cA b p q a hs qs) (ap_l (ap_r (n := 130) (k := 2) lp_7 wx_132))))
set_option maxRecDepth 20000 in
theorem wt_133 : (swT cA b p q a hs qs bm qm bo)[133]? = some ((swAd b p q a hs qs bm qm bo) 133, sk_ce (swAd b p q a hs qs bm qm bo) cA M00 133) := (ap_l (ap_l (A := swX7 cA b p q a hs qs) (ap_l (ap_r (n := 130) (k := 3) lp_7 wx_133))))
set_option maxRecDepth 20000 in
theorem wt_134 : (swT cA b p q a hs qs bm qm bo)[134]? = some ((swAd b p q a hs qs bm qm bo) 134, sk_ce (swAd b p q a hs qs bm qm bo) cA M00 134) := (ap_l (ap_l (A := swX7 cA b p q a hs qs) (ap_l (ap_r (n := 130) (k := 4) lp_7 wx_134))))
set_option maxRecDepth 20000 in
theorem wt_135 : (swT cA b p q a hs qs bm qm bo)[135]? = some ((swAd b p q a hs qs bm qm bo) 135, sk_ce (swAd b p q a hs qs bm qm bo) cA M00 135) := (ap_l (ap_l (A := swX7 cA b p q a hs qs) (ap_l (ap_r (n := 130) (k := 5) lp_7 wx_135))))
set_option maxRecDepth 20000 in
theorem wt_136 : (swT cA b p q a hs qs bm qm bo)[136]? = some ((swAd b p q a hs qs bm qm bo) 136, sk_ce (swAd b p q a hs qs bm qm bo) cA M00 136) := (ap_l (ap_l (A := swX7 cA b p q a hs qs) (ap_l (ap_r (n := 130) (k := 6) lp_7 wx_136))))
set_option maxRecDepth 20000 in
theorem wt_137 : (swT cA b p q a hs qs bm qm bo)[137]? = some ((swAd b p q a hs qs bm qm bo) 137, sk_ce (swAd b p q a hs qs bm qm bo) cA M00 137) := (ap_l (ap_l (A := swX7 cA b p q a hs qs) (ap_l (ap_r (n := 130) (k := 7) lp_7 wx_137))))
set_option maxRecDepth 20000 in
theorem wt_138 : (swT cA b p q a hs qs bm qm bo)[138]? = some ((swAd b p q a hs qs bm qm bo) 138, sk_ce (swAd b p q a hs qs bm qm bo) cA M00 138) := (ap_l (ap_l (A := swX7 cA b p q a hs qs) (ap_r (n := 138) (k := 0) lp_8 wx_138)))
set_option maxRecDepth 20000 in
theorem wt_139 : (swT cA b p q a hs qs bm qm bo)[139]? = some ((swAd b p q a hs qs bm qm bo) 139, sk_ce (swAd b p q a hs qs bm qm bo) cA M00 139) := (ap_l (ap_l (A := swX7 cA b p q a hs qs) (ap_r (n := 138) (k := 1) lp_8 wx_139)))
set_option maxRecDepth 20000 in
theorem wt_140 : (swT cA b p q a hs qs bm qm bo)[140]? = some ((swAd b p q a hs qs bm qm bo) 140, sk_ce (swAd b p q a hs qs bm qm bo) cA M00 140) := (ap_l (ap_r (n := 140) (k := 0) lp_9 wx_140))
set_option maxRecDepth 20000 in
theorem wt_141 : (swT cA b p q a hs qs bm qm bo)[141]? = some ((swAd b p q a hs qs bm qm bo) 141, sk_ce (swAd b p q a hs qs bm qm bo) cA M00 141) := (ap_l (ap_r (n := 140) (k := 1) lp_9 wx_141))
set_option maxRecDepth 20000 in
theorem wt_142 : (swT cA b p q a hs qs bm qm bo)[142]? = some ((swAd b p q a hs qs bm qm bo) 142, sk_ce (swAd b p q a hs qs bm qm bo) cA M00 142) := (ap_l (ap_r (n := 140) (k := 2) lp_9 wx_142))
set_option maxRecDepth 20000 in
theorem wt_143 : (swT cA b p q a hs qs bm qm bo)[143]? = some ((swAd b p q a hs qs bm qm bo) 143, sk_ce (swAd b p q a hs qs bm qm bo) cA M00 143) := (ap_l (ap_r (n := 140) (k := 3) lp_9 wx_143))
set_option maxRecDepth 20000 in
theorem wt_144 : (swT cA b p q a hs qs bm qm bo)[144]? = some ((swAd b p q a hs qs bm qm bo) 144, sk_ce (swAd b p q a hs qs bm qm bo) cA M00 144) := (ap_l (ap_r (n := 140) (k := 4) lp_9 wx_144))
set_option maxRecDepth 20000 in
theorem wt_145 : (swT cA b p q a hs qs bm qm bo)[145]? = some ((swAd b p q a hs qs bm qm bo) 145, sk_ce (swAd b p q a hs qs bm qm bo) cA M00 145) := (ap_l (ap_r (n := 140) (k := 5) lp_9 wx_145))
set_option maxRecDepth 20000 in
theorem wt_146 : (swT cA b p q a hs qs bm qm bo)[146]? = some ((swAd b p q a hs qs bm qm bo) 146, sk_ce (swAd b p q a hs qs bm qm bo) cA M00 146) := (ap_l (ap_r (n := 140) (k := 6) lp_9 wx_146))
set_option maxRecDepth 20000 in
theorem wt_147 : (swT cA b p q a hs qs bm qm bo)[147]? = some ((swAd b p q a hs qs bm qm bo) 147, sk_ce (swAd b p q a hs qs bm qm bo) cA M00 147) := (ap_l (ap_r (n := 140) (k := 7) lp_9 wx_147))
set_option maxRecDepth 20000 in
theorem wt_148 : (swT cA b p q a hs qs bm qm bo)[148]? = some ((swAd b p q a hs qs bm qm bo) 148, sk_ce (swAd b p q a hs qs bm qm bo) cA M00 148) := (ap_l (ap_r (n := 140) (k := 8) lp_9 wx_148))
set_option maxRecDepth 20000 in
theorem wt_149 : (swT cA b p q a hs qs bm qm bo)[149]? = some ((swAd b p q a hs qs bm qm bo) 149, sk_ce (swAd b p q a hs qs bm qm bo) cA M00 149) := (ap_l (ap_r (n := 140) (k := 9) lp_9 wx_149))
set_option maxRecDepth 20000 in
theorem wt_150 : (swT cA b p q a hs qs bm qm bo)[150]? = some ((swAd b p q a hs qs bm qm bo) 150, sk_ce (swAd b p q a hs qs bm qm bo) cA M00 150) := (ap_l (ap_r (n := 140) (k := 10) lp_9 wx_150))
set_option maxRecDepth 20000 in
theorem wt_151 : (swT cA b p q a hs qs bm qm bo)[151]? = some ((swAd b p q a hs qs bm qm bo) 151, sk_ce (swAd b p q a hs qs bm qm bo) cA M00 151) := (ap_l (ap_r (n := 140) (k := 11) lp_9 wx_151))
set_option maxRecDepth 20000 in
theorem wt_152 : (swT cA b p q a hs qs bm qm bo)[152]? = some ((swAd b p q a hs qs bm qm bo) 152, sk_ce (swAd b p q a hs qs bm qm bo) cA M00 152) := (ap_l (ap_r (n := 140) (k := 12) lp_9 wx_152))
set_option maxRecDepth 20000 in
theorem wt_153 : (swT cA b p q a hs qs bm qm bo)[153]? = some ((swAd b p q a hs qs bm qm bo) 153, sk_ce (swAd b p q a hs qs bm qm bo) cA M00 153) := (ap_l (ap_r (n := 140) (k := 13) lp_9 wx_153))
set_option maxRecDepth 20000 in
theorem wt_154 : (swT cA b p q a hs qs bm qm bo)[154]? = some ((swAd b p q a hs qs bm qm bo) 154, sk_ce (swAd b p q a hs qs bm qm bo) cA M00 154) := (ap_l (ap_r (n := 140) (k := 14) lp_9 wx_154))
set_option maxRecDepth 20000 in
theorem wt_155 : (swT cA b p q a hs qs bm qm bo)[155]? = some ((swAd b p q a hs qs bm qm bo) 155, sk_ce (swAd b p q a hs qs bm qm bo) cA M00 155) := (ap_l (ap_r (n := 140) (k := 15) lp_9 wx_155))
set_option maxRecDepth 20000 in
theorem wt_156 : (swT cA b p q a hs qs bm qm bo)[156]? = some ((swAd b p q a hs qs bm qm bo) 156, sk_ce (swAd b p q a hs qs bm qm bo) cA M00 156) := (ap_l (ap_r (n := 140) (k := 16) lp_9 wx_156))
set_option maxRecDepth 20000 in
theorem wt_157 : (swT cA b p q a hs qs bm qm bo)[157]? = some ((swAd b p q a hs qs bm qm bo) 157, sk_ce (swAd b p q a hs qs bm qm bo) cA M00 157) := (ap_l (ap_r (n := 140) (k := 17) lp_9 wx_157))
set_option maxRecDepth 20000 in
theorem wt_158 : (swT cA b p q a hs qs bm qm bo)[158]? = some ((swAd b p q a hs qs bm qm bo) 158, sk_ce (swAd b p q a hs qs bm qm bo) cA M00 158) := (ap_r (n := 158) (k := 0) lp_10 wx_158)
set_option maxRecDepth 20000 in
theorem wt_all (c : Nat) (h : c < 159) (hne : c ≠ 124) : (swT cA b p q a hs qs bm qm bo)[if c < 20 then c + 3 else if c < 120 then c + 5 else if c ≤ 122 then c - 120 else if c ≤ 124 then c - 100 else c]? = some ((swAd b p q a hs qs bm qm bo) c, sk_ce (swAd b p q a hs qs bm qm bo) cA M00 c) := by
  by_cases z0_159 : c < 79
  · skip
    by_cases z0_79 : c < 39
    · skip
      by_cases z0_39 : c < 19
      · skip
        by_cases z0_19 : c < 9
        · skip
          by_cases z0_9 : c < 4
          · skip
            have e : c = 0 ∨ c = 1 ∨ c = 2 ∨ c = 3 := by omega
            rcases e with rfl | rfl | rfl | rfl
            · exact wt_0
            · exact wt_1
            · exact wt_2
            · exact wt_3
          · skip
            by_cases z4_9 : c < 6
            · skip
              have e : c = 4 ∨ c = 5 := by omega
              rcases e with rfl | rfl
              · exact wt_4
              · exact wt_5
            · skip
              have e : c = 6 ∨ c = 7 ∨ c = 8 := by omega
              rcases e with rfl | rfl | rfl
              · exact wt_6
              · exact wt_7
              · exact wt_8
        · skip
          by_cases z9_19 : c < 14
          · skip
            by_cases z9_14 : c < 11
            · skip
              have e : c = 9 ∨ c = 10 := by omega
              rcases e with rfl | rfl
              · exact wt_9
              · exact wt_10
            · skip
              have e : c = 11 ∨ c = 12 ∨ c = 13 := by omega
              rcases e with rfl | rfl | rfl
              · exact wt_11
              · exact wt_12
              · exact wt_13
          · skip
            by_cases z14_19 : c < 16
            · skip
              have e : c = 14 ∨ c = 15 := by omega
              rcases e with rfl | rfl
              · exact wt_14
              · exact wt_15
            · skip
              have e : c = 16 ∨ c = 17 ∨ c = 18 := by omega
              rcases e with rfl | rfl | rfl
              · exact wt_16
              · exact wt_17
              · exact wt_18
      · skip
        by_cases z19_39 : c < 29
        · skip
          by_cases z19_29 : c < 24
          · skip
            by_cases z19_24 : c < 21
            · skip
              have e : c = 19 ∨ c = 20 := by omega
              rcases e with rfl | rfl
              · exact wt_19
              · exact wt_20
            · skip
              have e : c = 21 ∨ c = 22 ∨ c = 23 := by omega
              rcases e with rfl | rfl | rfl
              · exact wt_21
              · exact wt_22
              · exact wt_23
          · skip
            by_cases z24_29 : c < 26
            · skip
              have e : c = 24 ∨ c = 25 := by omega
              rcases e with rfl | rfl
              · exact wt_24
              · exact wt_25
            · skip
              have e : c = 26 ∨ c = 27 ∨ c = 28 := by omega
              rcases e with rfl | rfl | rfl
              · exact wt_26
              · exact wt_27
              · exact wt_28
        · skip
          by_cases z29_39 : c < 34
          · skip
            by_cases z29_34 : c < 31
            · skip
              have e : c = 29 ∨ c = 30 := by omega
              rcases e with rfl | rfl
              · exact wt_29
              · exact wt_30
            · skip
              have e : c = 31 ∨ c = 32 ∨ c = 33 := by omega
              rcases e with rfl | rfl | rfl
              · exact wt_31
              · exact wt_32
              · exact wt_33
          · skip
            by_cases z34_39 : c < 36
            · skip
              have e : c = 34 ∨ c = 35 := by omega
              rcases e with rfl | rfl
              · exact wt_34
              · exact wt_35
            · skip
              have e : c = 36 ∨ c = 37 ∨ c = 38 := by omega
              rcases e with rfl | rfl | rfl
              · exact wt_36
              · exact wt_37
              · exact wt_38
    · skip
      by_cases z39_79 : c < 59
      · skip
        by_cases z39_59 : c < 49
        · skip
          by_cases z39_49 : c < 44
          · skip
            by_cases z39_44 : c < 41
            · skip
              have e : c = 39 ∨ c = 40 := by omega
              rcases e with rfl | rfl
              · exact wt_39
              · exact wt_40
            · skip
              have e : c = 41 ∨ c = 42 ∨ c = 43 := by omega
              rcases e with rfl | rfl | rfl
              · exact wt_41
              · exact wt_42
              · exact wt_43
          · skip
            by_cases z44_49 : c < 46
            · skip
              have e : c = 44 ∨ c = 45 := by omega
              rcases e with rfl | rfl
              · exact wt_44
              · exact wt_45
            · skip
              have e : c = 46 ∨ c = 47 ∨ c = 48 := by omega
              rcases e with rfl | rfl | rfl
              · exact wt_46
              · exact wt_47
              · exact wt_48
        · skip
          by_cases z49_59 : c < 54
          · skip
            by_cases z49_54 : c < 51
            · skip
              have e : c = 49 ∨ c = 50 := by omega
              rcases e with rfl | rfl
              · exact wt_49
              · exact wt_50
            · skip
              have e : c = 51 ∨ c = 52 ∨ c = 53 := by omega
              rcases e with rfl | rfl | rfl
              · exact wt_51
              · exact wt_52
              · exact wt_53
          · skip
            by_cases z54_59 : c < 56
            · skip
              have e : c = 54 ∨ c = 55 := by omega
              rcases e with rfl | rfl
              · exact wt_54
              · exact wt_55
            · skip
              have e : c = 56 ∨ c = 57 ∨ c = 58 := by omega
              rcases e with rfl | rfl | rfl
              · exact wt_56
              · exact wt_57
              · exact wt_58
      · skip
        by_cases z59_79 : c < 69
        · skip
          by_cases z59_69 : c < 64
          · skip
            by_cases z59_64 : c < 61
            · skip
              have e : c = 59 ∨ c = 60 := by omega
              rcases e with rfl | rfl
              · exact wt_59
              · exact wt_60
            · skip
              have e : c = 61 ∨ c = 62 ∨ c = 63 := by omega
              rcases e with rfl | rfl | rfl
              · exact wt_61
              · exact wt_62
              · exact wt_63
          · skip
            by_cases z64_69 : c < 66
            · skip
              have e : c = 64 ∨ c = 65 := by omega
              rcases e with rfl | rfl
              · exact wt_64
              · exact wt_65
            · skip
              have e : c = 66 ∨ c = 67 ∨ c = 68 := by omega
              rcases e with rfl | rfl | rfl
              · exact wt_66
              · exact wt_67
              · exact wt_68
        · skip
          by_cases z69_79 : c < 74
          · skip
            by_cases z69_74 : c < 71
            · skip
              have e : c = 69 ∨ c = 70 := by omega
              rcases e with rfl | rfl
              · exact wt_69
              · exact wt_70
            · skip
              have e : c = 71 ∨ c = 72 ∨ c = 73 := by omega
              rcases e with rfl | rfl | rfl
              · exact wt_71
              · exact wt_72
              · exact wt_73
          · skip
            by_cases z74_79 : c < 76
            · skip
              have e : c = 74 ∨ c = 75 := by omega
              rcases e with rfl | rfl
              · exact wt_74
              · exact wt_75
            · skip
              have e : c = 76 ∨ c = 77 ∨ c = 78 := by omega
              rcases e with rfl | rfl | rfl
              · exact wt_76
              · exact wt_77
              · exact wt_78
  · skip
    by_cases z79_159 : c < 119
    · skip
      by_cases z79_119 : c < 99
      · skip
        by_cases z79_99 : c < 89
        · skip
          by_cases z79_89 : c < 84
          · skip
            by_cases z79_84 : c < 81
            · skip
              have e : c = 79 ∨ c = 80 := by omega
              rcases e with rfl | rfl
              · exact wt_79
              · exact wt_80
            · skip
              have e : c = 81 ∨ c = 82 ∨ c = 83 := by omega
              rcases e with rfl | rfl | rfl
              · exact wt_81
              · exact wt_82
              · exact wt_83
          · skip
            by_cases z84_89 : c < 86
            · skip
              have e : c = 84 ∨ c = 85 := by omega
              rcases e with rfl | rfl
              · exact wt_84
              · exact wt_85
            · skip
              have e : c = 86 ∨ c = 87 ∨ c = 88 := by omega
              rcases e with rfl | rfl | rfl
              · exact wt_86
              · exact wt_87
              · exact wt_88
        · skip
          by_cases z89_99 : c < 94
          · skip
            by_cases z89_94 : c < 91
            · skip
              have e : c = 89 ∨ c = 90 := by omega
              rcases e with rfl | rfl
              · exact wt_89
              · exact wt_90
            · skip
              have e : c = 91 ∨ c = 92 ∨ c = 93 := by omega
              rcases e with rfl | rfl | rfl
              · exact wt_91
              · exact wt_92
              · exact wt_93
          · skip
            by_cases z94_99 : c < 96
            · skip
              have e : c = 94 ∨ c = 95 := by omega
              rcases e with rfl | rfl
              · exact wt_94
              · exact wt_95
            · skip
              have e : c = 96 ∨ c = 97 ∨ c = 98 := by omega
              rcases e with rfl | rfl | rfl
              · exact wt_96
              · exact wt_97
              · exact wt_98
      · skip
        by_cases z99_119 : c < 109
        · skip
          by_cases z99_109 : c < 104
          · skip
            by_cases z99_104 : c < 101
            · skip
              have e : c = 99 ∨ c = 100 := by omega
              rcases e with rfl | rfl
              · exact wt_99
              · exact wt_100
            · skip
              have e : c = 101 ∨ c = 102 ∨ c = 103 := by omega
              rcases e with rfl | rfl | rfl
              · exact wt_101
              · exact wt_102
              · exact wt_103
          · skip
            by_cases z104_109 : c < 106
            · skip
              have e : c = 104 ∨ c = 105 := by omega
              rcases e with rfl | rfl
              · exact wt_104
              · exact wt_105
            · skip
              have e : c = 106 ∨ c = 107 ∨ c = 108 := by omega
              rcases e with rfl | rfl | rfl
              · exact wt_106
              · exact wt_107
              · exact wt_108
        · skip
          by_cases z109_119 : c < 114
          · skip
            by_cases z109_114 : c < 111
            · skip
              have e : c = 109 ∨ c = 110 := by omega
              rcases e with rfl | rfl
              · exact wt_109
              · exact wt_110
            · skip
              have e : c = 111 ∨ c = 112 ∨ c = 113 := by omega
              rcases e with rfl | rfl | rfl
              · exact wt_111
              · exact wt_112
              · exact wt_113
          · skip
            by_cases z114_119 : c < 116
            · skip
              have e : c = 114 ∨ c = 115 := by omega
              rcases e with rfl | rfl
              · exact wt_114
              · exact wt_115
            · skip
              have e : c = 116 ∨ c = 117 ∨ c = 118 := by omega
              rcases e with rfl | rfl | rfl
              · exact wt_116
              · exact wt_117
              · exact wt_118
    · skip
      by_cases z119_159 : c < 139
      · skip
        by_cases z119_139 : c < 129
        · skip
          by_cases z119_129 : c < 124
          · skip
            by_cases z119_124 : c < 121
            · skip
              have e : c = 119 ∨ c = 120 := by omega
              rcases e with rfl | rfl
              · exact wt_119
              · exact wt_120
            · skip
              have e : c = 121 ∨ c = 122 ∨ c = 123 := by omega
              rcases e with rfl | rfl | rfl
              · exact wt_121
              · exact wt_122
              · exact wt_123
          · skip
            by_cases z124_129 : c < 126
            · skip
              have e : c = 124 ∨ c = 125 := by omega
              rcases e with rfl | rfl
              · exact absurd rfl hne
              · exact wt_125
            · skip
              have e : c = 126 ∨ c = 127 ∨ c = 128 := by omega
              rcases e with rfl | rfl | rfl
              · exact wt_126
              · exact wt_127
              · exact wt_128
        · skip
          by_cases z129_139 : c < 134
          · skip
            by_cases z129_134 : c < 131
            · skip
              have e : c = 129 ∨ c = 130 := by omega
              rcases e with rfl | rfl
              · exact wt_129
              · exact wt_130
            · skip
              have e : c = 131 ∨ c = 132 ∨ c = 133 := by omega
              rcases e with rfl | rfl | rfl
              · exact wt_131
              · exact wt_132
              · exact wt_133
          · skip
            by_cases z134_139 : c < 136
            · skip
              have e : c = 134 ∨ c = 135 := by omega
              rcases e with rfl | rfl
              · exact wt_134
              · exact wt_135
            · skip
              have e : c = 136 ∨ c = 137 ∨ c = 138 := by omega
              rcases e with rfl | rfl | rfl
              · exact wt_136
              · exact wt_137
              · exact wt_138
      · skip
        by_cases z139_159 : c < 149
        · skip
          by_cases z139_149 : c < 144
          · skip
            by_cases z139_144 : c < 141
            · skip
              have e : c = 139 ∨ c = 140 := by omega
              rcases e with rfl | rfl
              · exact wt_139
              · exact wt_140
            · skip
              have e : c = 141 ∨ c = 142 ∨ c = 143 := by omega
              rcases e with rfl | rfl | rfl
              · exact wt_141
              · exact wt_142
              · exact wt_143
          · skip
            by_cases z144_149 : c < 146
            · skip
              have e : c = 144 ∨ c = 145 := by omega
              rcases e with rfl | rfl
              · exact wt_144
              · exact wt_145
            · skip
              have e : c = 146 ∨ c = 147 ∨ c = 148 := by omega
              rcases e with rfl | rfl | rfl
              · exact wt_146
              · exact wt_147
              · exact wt_148
        · skip
          by_cases z149_159 : c < 154
          · skip
            by_cases z149_154 : c < 151
            · skip
              have e : c = 149 ∨ c = 150 := by omega
              rcases e with rfl | rfl
              · exact wt_149
              · exact wt_150
            · skip
              have e : c = 151 ∨ c = 152 ∨ c = 153 := by omega
              rcases e with rfl | rfl | rfl
              · exact wt_151
              · exact wt_152
              · exact wt_153
          · skip
            by_cases z154_159 : c < 156
            · skip
              have e : c = 154 ∨ c = 155 := by omega
              rcases e with rfl | rfl
              · exact wt_154
              · exact wt_155
            · skip
              have e : c = 156 ∨ c = 157 ∨ c = 158 := by omega
              rcases e with rfl | rfl | rfl
              · exact wt_156
              · exact wt_157
              · exact wt_158
end SK57
