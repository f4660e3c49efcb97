/-! constructors: words -/
theorem dv_X0 : ∀ j, j < 6 → defaultValue (tyX0 j) = vp_V [.null, .null, .int 0, .int 0, .int 0, .int 0] j := by
  intro j hj
  have : j = 0 ∨ j = 1 ∨ j = 2 ∨ j = 3 ∨ j = 4 ∨ j = 5 := by omega
  rcases this with rfl | rfl | rfl | rfl | rfl | rfl <;> rfl
theorem oi_X0 : [Cond.methodLink RX0 3 Lib.objectInit, .instanceMethod Lib.objectInit, .code Lib.objectInit ⟨#[0xb1]⟩ 1 none, .instanceMethod Lib.objectInit].all sk_wok = true := sk_al4 (sk_okP 299 (by decide +kernel) (by decide +kernel)) (sk_okP 135 (by decide +kernel) (by decide +kernel)) (sk_okP 136 (by decide +kernel) (by decide +kernel)) (sk_okP 135 (by decide +kernel) (by decide +kernel))
theorem cw_X0_init : sk_wok (sk_cw mX0_init) = true := sk_okQ (sk_t1 (List.mem_of_getElem? (i := 196) rfl)) rfl
theorem np_X0_init : sk_np mX0_init 2 := ⟨by decide +kernel, by decide +kernel, by decide +kernel⟩
theorem dv_X1 : ∀ j, j < 6 → defaultValue (tyX1 j) = vp_V [.null, .null, .null, .null, .int 0, .int 0] j := by
  intro j hj
  have : j = 0 ∨ j = 1 ∨ j = 2 ∨ j = 3 ∨ j = 4 ∨ j = 5 := by omega
  rcases this with rfl | rfl | rfl | rfl | rfl | rfl <;> rfl
theorem oi_X1 : [Cond.methodLink RX1 3 Lib.objectInit, .instanceMethod Lib.objectInit, .code Lib.objectInit ⟨#[0xb1]⟩ 1 none, .instanceMethod Lib.objectInit].all sk_wok = true := sk_al4 (sk_okP 324 (by decide +kernel) (by decide +kernel)) (sk_okP 135 (by decide +kernel) (by decide +kernel)) (sk_okP 136 (by decide +kernel) (by decide +kernel)) (sk_okP 135 (by decide +kernel) (by decide +kernel))
theorem cw_X1_init : sk_wok (sk_cw mX1_init) = true := sk_okQ (sk_t1 (List.mem_of_getElem? (i := 221) rfl)) rfl
theorem np_X1_init : sk_np mX1_init 1 := ⟨by decide +kernel, by decide +kernel, by decide +kernel⟩
theorem dv_X2 : ∀ j, j < 4 → defaultValue (tyX2 j) = vp_V [.null, .int 0, .int 0, .int 0] j := by
  intro j hj
  have : j = 0 ∨ j = 1 ∨ j = 2 ∨ j = 3 := by omega
  rcases this with rfl | rfl | rfl | rfl <;> rfl
theorem oi_X2 : [Cond.methodLink RX2 3 Lib.objectInit, .instanceMethod Lib.objectInit, .code Lib.objectInit ⟨#[0xb1]⟩ 1 none, .instanceMethod Lib.objectInit].all sk_wok = true := sk_al4 (sk_okP 411 (by decide +kernel) (by decide +kernel)) (sk_okP 135 (by decide +kernel) (by decide +kernel)) (sk_okP 136 (by decide +kernel) (by decide +kernel)) (sk_okP 135 (by decide +kernel) (by decide +kernel))
theorem cw_X2_init : sk_wok (sk_cw mX2_init) = true := sk_okQ (sk_t2 (List.mem_of_getElem? (i := 68) rfl)) rfl
theorem np_X2_init : sk_np mX2_init 0 := ⟨by decide +kernel, by decide +kernel, by decide +kernel⟩
theorem dv_X3 : ∀ j, j < 3 → defaultValue (tyX3 j) = vp_V [.null, .int 0, .int 0] j := by
  intro j hj
  have : j = 0 ∨ j = 1 ∨ j = 2 := by omega
  rcases this with rfl | rfl | rfl <;> rfl
theorem oi_X3 : [Cond.methodLink RX3 1 Lib.objectInit, .instanceMethod Lib.objectInit, .code Lib.objectInit ⟨#[0xb1]⟩ 1 none, .instanceMethod Lib.objectInit].all sk_wok = true := sk_al4 (sk_okP 279 (by decide +kernel) (by decide +kernel)) (sk_okP 135 (by decide +kernel) (by decide +kernel)) (sk_okP 136 (by decide +kernel) (by decide +kernel)) (sk_okP 135 (by decide +kernel) (by decide +kernel))
theorem cw_X3_init : sk_wok (sk_cw mX3_init) = true := sk_okQ (sk_t1 (List.mem_of_getElem? (i := 176) rfl)) rfl
theorem np_X3_init : sk_np mX3_init 0 := ⟨by decide +kernel, by decide +kernel, by decide +kernel⟩
theorem dv_X4 : ∀ j, j < 16 → defaultValue (tyX4 j) = vp_V [.null, .null, .null, .null, .null, .null, .null, .null, .int 0, .int 0, .int 0, .int 0, .int 0, .int 0, .int 0, .int 0] j := by
  intro j hj
  have : j = 0 ∨ j = 1 ∨ j = 2 ∨ j = 3 ∨ j = 4 ∨ j = 5 ∨ j = 6 ∨ j = 7 ∨ j = 8 ∨ j = 9 ∨ j = 10 ∨ j = 11 ∨ j = 12 ∨ j = 13 ∨ j = 14 ∨ j = 15 := by omega
  rcases this with rfl | rfl | rfl | rfl | rfl | rfl | rfl | rfl | rfl | rfl | rfl | rfl | rfl | rfl | rfl | rfl <;> rfl
theorem oi_X4 : [Cond.methodLink RX4 3 Lib.objectInit, .instanceMethod Lib.objectInit, .code Lib.objectInit ⟨#[0xb1]⟩ 1 none, .instanceMethod Lib.objectInit].all sk_wok = true := sk_al4 (sk_okP 351 (by decide +kernel) (by decide +kernel)) (sk_okP 135 (by decide +kernel) (by decide +kernel)) (sk_okP 136 (by decide +kernel) (by decide +kernel)) (sk_okP 135 (by decide +kernel) (by decide +kernel))
theorem cw_X4_init : sk_wok (sk_cw mX4_init) = true := sk_okQ (sk_t2 (List.mem_of_getElem? (i := 8) rfl)) rfl
theorem np_X4_init : sk_np mX4_init 1 := ⟨by decide +kernel, by decide +kernel, by decide +kernel⟩
theorem dv_X5 : ∀ j, j < 21 → defaultValue (tyX5 j) = vp_V [.int 0, .int 0, .int 0, .int 0, .int 0, .int 0, .int 0, .int 0, .int 0, .int 0, .int 0, .int 0, .null, .null, .null, .null, .null, .null, .null, .null, .null] j := by
  intro j hj
  have : j = 0 ∨ j = 1 ∨ j = 2 ∨ j = 3 ∨ j = 4 ∨ j = 5 ∨ j = 6 ∨ j = 7 ∨ j = 8 ∨ j = 9 ∨ j = 10 ∨ j = 11 ∨ j = 12 ∨ j = 13 ∨ j = 14 ∨ j = 15 ∨ j = 16 ∨ j = 17 ∨ j = 18 ∨ j = 19 ∨ j = 20 := by omega
  rcases this with rfl | rfl | rfl | rfl | rfl | rfl | rfl | rfl | rfl | rfl | rfl | rfl | rfl | rfl | rfl | rfl | rfl | rfl | rfl | rfl | rfl <;> rfl
theorem oi_X5 : [Cond.methodLink RX5 5 Lib.objectInit, .instanceMethod Lib.objectInit, .code Lib.objectInit ⟨#[0xb1]⟩ 1 none, .instanceMethod Lib.objectInit].all sk_wok = true := sk_al4 (sk_okP 174 (by decide +kernel) (by decide +kernel)) (sk_okP 135 (by decide +kernel) (by decide +kernel)) (sk_okP 136 (by decide +kernel) (by decide +kernel)) (sk_okP 135 (by decide +kernel) (by decide +kernel))
theorem cw_X5_init : sk_wok (sk_cw mX5_init) = true := sk_okQ (sk_t1 (List.mem_of_getElem? (i := 71) rfl)) rfl
theorem np_X5_init : sk_np mX5_init 0 := ⟨by decide +kernel, by decide +kernel, by decide +kernel⟩
theorem dv_X6 : ∀ j, j < 6 → defaultValue (tyX6 j) = vp_V [.null, .int 0, .int 0, .int 0, .int 0, .int 0] j := by
  intro j hj
  have : j = 0 ∨ j = 1 ∨ j = 2 ∨ j = 3 ∨ j = 4 ∨ j = 5 := by omega
  rcases this with rfl | rfl | rfl | rfl | rfl | rfl <;> rfl
theorem oi_X6 : [Cond.methodLink RX6 3 Lib.objectInit, .instanceMethod Lib.objectInit, .code Lib.objectInit ⟨#[0xb1]⟩ 1 none, .instanceMethod Lib.objectInit].all sk_wok = true := sk_al4 (sk_okP 142 (by decide +kernel) (by decide +kernel)) (sk_okP 135 (by decide +kernel) (by decide +kernel)) (sk_okP 136 (by decide +kernel) (by decide +kernel)) (sk_okP 135 (by decide +kernel) (by decide +kernel))
theorem cw_X6_init : sk_wok (sk_cw mX6_init) = true := sk_okQ (sk_t1 (List.mem_of_getElem? (i := 39) rfl)) rfl
theorem np_X6_init : sk_np mX6_init 0 := ⟨by decide +kernel, by decide +kernel, by decide +kernel⟩
theorem dv_X7 : ∀ j, j < 9 → defaultValue (tyX7 j) = vp_V [.null, .null, .null, .null, .null, .null, .null, .null, .int 0] j := by
  intro j hj
  have : j = 0 ∨ j = 1 ∨ j = 2 ∨ j = 3 ∨ j = 4 ∨ j = 5 ∨ j = 6 ∨ j = 7 ∨ j = 8 := by omega
  rcases this with rfl | rfl | rfl | rfl | rfl | rfl | rfl | rfl | rfl <;> rfl
theorem oi_X7 : [Cond.methodLink RX7 1 Lib.objectInit, .instanceMethod Lib.objectInit, .code Lib.objectInit ⟨#[0xb1]⟩ 1 none, .instanceMethod Lib.objectInit].all sk_wok = true := sk_al4 (sk_okP 134 (by decide +kernel) (by decide +kernel)) (sk_okP 135 (by decide +kernel) (by decide +kernel)) (sk_okP 136 (by decide +kernel) (by decide +kernel)) (sk_okP 135 (by decide +kernel) (by decide +kernel))
theorem cw_X7_init : sk_wok (sk_cw mX7_init) = true := sk_okQ (sk_t1 (List.mem_of_getElem? (i := 31) rfl)) rfl
theorem np_X7_init : sk_np mX7_init 0 := ⟨by decide +kernel, by decide +kernel, by decide +kernel⟩
theorem dv_X8 : ∀ j, j < 27 → defaultValue (tyX8 j) = vp_V [.int 0, .null, .null, .null, .null, .null, .null, .null, .null, .null, .null, .int 0, .int 0, .null, .int 0, .int 0, .int 0, .int 0, .int 0, .int 0, .null, .int 0, .null, .null, .null, .null, .null] j := by
  intro j hj
  have : j = 0 ∨ j = 1 ∨ j = 2 ∨ j = 3 ∨ j = 4 ∨ j = 5 ∨ j = 6 ∨ j = 7 ∨ j = 8 ∨ j = 9 ∨ j = 10 ∨ j = 11 ∨ j = 12 ∨ j = 13 ∨ j = 14 ∨ j = 15 ∨ j = 16 ∨ j = 17 ∨ j = 18 ∨ j = 19 ∨ j = 20 ∨ j = 21 ∨ j = 22 ∨ j = 23 ∨ j = 24 ∨ j = 25 ∨ j = 26 := by omega
  rcases this with rfl | rfl | rfl | rfl | rfl | rfl | rfl | rfl | rfl | rfl | rfl | rfl | rfl | rfl | rfl | rfl | rfl | rfl | rfl | rfl | rfl | rfl | rfl | rfl | rfl | rfl | rfl <;> rfl
theorem oi_X8 : [Cond.methodLink RX8 7 Lib.objectInit, .instanceMethod Lib.objectInit, .code Lib.objectInit ⟨#[0xb1]⟩ 1 none, .instanceMethod Lib.objectInit].all sk_wok = true := sk_al4 (sk_okP 1377 (by decide +kernel) (by decide +kernel)) (sk_okP 135 (by decide +kernel) (by decide +kernel)) (sk_okP 136 (by decide +kernel) (by decide +kernel)) (sk_okP 135 (by decide +kernel) (by decide +kernel))
theorem cw_X8_init : sk_wok (sk_cw mX8_init) = true := sk_okQ (sk_t6 (List.mem_of_getElem? (i := 74) rfl)) rfl
theorem np_X8_init : sk_np mX8_init 0 := ⟨by decide +kernel, by decide +kernel, by decide +kernel⟩
theorem ac_int : sk_wok (.arrayClass .int) = true := sk_okP 168 (by decide +kernel) (by decide +kernel)
theorem ac_long : sk_wok (.arrayClass .long) = true := sk_okP 273 (by decide +kernel) (by decide +kernel)
theorem ac_boolean : sk_wok (.arrayClass .boolean) = true := sk_okP 405 (by decide +kernel) (by decide +kernel)
theorem ac_byte : sk_wok (.arrayClass .byte) = true := sk_okP 802 (by decide +kernel) (by decide +kernel)
theorem nw_X3_9 : [Cond.classLink RX3 9 RX5, .instantiable RX5 21, .initialized RX5, .initialized RX5].all sk_wok = true := sk_al4 (sk_okP 280 (by decide +kernel) (by decide +kernel)) (sk_okP 170 (by decide +kernel) (by decide +kernel)) (sk_okP 105 (by decide +kernel) (by decide +kernel)) (sk_okP 105 (by decide +kernel) (by decide +kernel))
theorem wi_X3_15 : [Cond.methodLink RX3 15 yX5_init, .instanceMethod yX5_init, .initialized yX5_init.cls, .initialized yX5_init.cls].all sk_wok = true := sk_al4 (sk_okP 282 (by decide +kernel) (by decide +kernel)) (sk_okP 172 (by decide +kernel) (by decide +kernel)) (sk_okP 105 (by decide +kernel) (by decide +kernel)) (sk_okP 105 (by decide +kernel) (by decide +kernel))
theorem cl_X3_9 : sk_wok (.classLink RX3 9 "SafeKnown$State") = true := sk_okP 280 (by decide +kernel) (by decide +kernel)
theorem nw_X7_7 : [Cond.classLink RX7 7 RX6, .instantiable RX6 6, .initialized RX6, .initialized RX6].all sk_wok = true := sk_al4 (sk_okP 137 (by decide +kernel) (by decide +kernel)) (sk_okP 138 (by decide +kernel) (by decide +kernel)) (sk_okP 104 (by decide +kernel) (by decide +kernel)) (sk_okP 104 (by decide +kernel) (by decide +kernel))
theorem nw_X7_16 : [Cond.classLink RX7 16 RX5, .instantiable RX5 21, .initialized RX5, .initialized RX5].all sk_wok = true := sk_al4 (sk_okP 169 (by decide +kernel) (by decide +kernel)) (sk_okP 170 (by decide +kernel) (by decide +kernel)) (sk_okP 105 (by decide +kernel) (by decide +kernel)) (sk_okP 105 (by decide +kernel) (by decide +kernel))
theorem nw_X7_26 : [Cond.classLink RX7 26 RX3, .instantiable RX3 3, .initialized RX3, .initialized RX3].all sk_wok = true := sk_al4 (sk_okP 274 (by decide +kernel) (by decide +kernel)) (sk_okP 275 (by decide +kernel) (by decide +kernel)) (sk_okP 106 (by decide +kernel) (by decide +kernel)) (sk_okP 106 (by decide +kernel) (by decide +kernel))
theorem nw_X7_33 : [Cond.classLink RX7 33 RX0, .instantiable RX0 6, .initialized RX0, .initialized RX0].all sk_wok = true := sk_al4 (sk_okP 294 (by decide +kernel) (by decide +kernel)) (sk_okP 295 (by decide +kernel) (by decide +kernel)) (sk_okP 107 (by decide +kernel) (by decide +kernel)) (sk_okP 107 (by decide +kernel) (by decide +kernel))
theorem nw_X7_42 : [Cond.classLink RX7 42 RX1, .instantiable RX1 6, .initialized RX1, .initialized RX1].all sk_wok = true := sk_al4 (sk_okP 319 (by decide +kernel) (by decide +kernel)) (sk_okP 320 (by decide +kernel) (by decide +kernel)) (sk_okP 108 (by decide +kernel) (by decide +kernel)) (sk_okP 108 (by decide +kernel) (by decide +kernel))
theorem nw_X7_51 : [Cond.classLink RX7 51 RX4, .instantiable RX4 16, .initialized RX4, .initialized RX4].all sk_wok = true := sk_al4 (sk_okP 346 (by decide +kernel) (by decide +kernel)) (sk_okP 347 (by decide +kernel) (by decide +kernel)) (sk_okP 109 (by decide +kernel) (by decide +kernel)) (sk_okP 109 (by decide +kernel) (by decide +kernel))
theorem nw_X7_60 : [Cond.classLink RX7 60 RX2, .instantiable RX2 4, .initialized RX2, .initialized RX2].all sk_wok = true := sk_al4 (sk_okP 406 (by decide +kernel) (by decide +kernel)) (sk_okP 407 (by decide +kernel) (by decide +kernel)) (sk_okP 110 (by decide +kernel) (by decide +kernel)) (sk_okP 110 (by decide +kernel) (by decide +kernel))
theorem wi_X7_9 : [Cond.methodLink RX7 9 yX6_init, .instanceMethod yX6_init, .initialized yX6_init.cls, .initialized yX6_init.cls].all sk_wok = true := sk_al4 (sk_okP 139 (by decide +kernel) (by decide +kernel)) (sk_okP 140 (by decide +kernel) (by decide +kernel)) (sk_okP 104 (by decide +kernel) (by decide +kernel)) (sk_okP 104 (by decide +kernel) (by decide +kernel))
theorem wi_X7_18 : [Cond.methodLink RX7 18 yX5_init, .instanceMethod yX5_init, .initialized yX5_init.cls, .initialized yX5_init.cls].all sk_wok = true := sk_al4 (sk_okP 171 (by decide +kernel) (by decide +kernel)) (sk_okP 172 (by decide +kernel) (by decide +kernel)) (sk_okP 105 (by decide +kernel) (by decide +kernel)) (sk_okP 105 (by decide +kernel) (by decide +kernel))
theorem wi_X7_28 : [Cond.methodLink RX7 28 yX3_init, .instanceMethod yX3_init, .initialized yX3_init.cls, .initialized yX3_init.cls].all sk_wok = true := sk_al4 (sk_okP 276 (by decide +kernel) (by decide +kernel)) (sk_okP 277 (by decide +kernel) (by decide +kernel)) (sk_okP 106 (by decide +kernel) (by decide +kernel)) (sk_okP 106 (by decide +kernel) (by decide +kernel))
theorem wi_X7_35 : [Cond.methodLink RX7 35 yX0_init, .instanceMethod yX0_init, .initialized yX0_init.cls, .initialized yX0_init.cls].all sk_wok = true := sk_al4 (sk_okP 296 (by decide +kernel) (by decide +kernel)) (sk_okP 297 (by decide +kernel) (by decide +kernel)) (sk_okP 107 (by decide +kernel) (by decide +kernel)) (sk_okP 107 (by decide +kernel) (by decide +kernel))
theorem wi_X7_44 : [Cond.methodLink RX7 44 yX1_init, .instanceMethod yX1_init, .initialized yX1_init.cls, .initialized yX1_init.cls].all sk_wok = true := sk_al4 (sk_okP 321 (by decide +kernel) (by decide +kernel)) (sk_okP 322 (by decide +kernel) (by decide +kernel)) (sk_okP 108 (by decide +kernel) (by decide +kernel)) (sk_okP 108 (by decide +kernel) (by decide +kernel))
theorem wi_X7_53 : [Cond.methodLink RX7 53 yX4_init, .instanceMethod yX4_init, .initialized yX4_init.cls, .initialized yX4_init.cls].all sk_wok = true := sk_al4 (sk_okP 348 (by decide +kernel) (by decide +kernel)) (sk_okP 349 (by decide +kernel) (by decide +kernel)) (sk_okP 109 (by decide +kernel) (by decide +kernel)) (sk_okP 109 (by decide +kernel) (by decide +kernel))
theorem wi_X7_62 : [Cond.methodLink RX7 62 yX2_init, .instanceMethod yX2_init, .initialized yX2_init.cls, .initialized yX2_init.cls].all sk_wok = true := sk_al4 (sk_okP 408 (by decide +kernel) (by decide +kernel)) (sk_okP 409 (by decide +kernel) (by decide +kernel)) (sk_okP 110 (by decide +kernel) (by decide +kernel)) (sk_okP 110 (by decide +kernel) (by decide +kernel))
