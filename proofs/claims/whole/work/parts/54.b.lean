/-! the law's cases 0 to 15 -/
theorem lwc_0 {G : sk_G} {b L : Nat} {ys : Nat → Int32} {M : sk_M} {i : Int32} {cells slots : Nat} (h : Inv M) (hv : lwv i L) (hc : cells + 8 ≤ 601024) (hs : slots + 48 ≤ 7293033) (kk : ∀ M0, Inv M0 → TJ G mL_law_ room_1 (lw_E G b L ys) (cells + 8) (slots + 48) 2945 [some (.ref b), some (.ref (G.2.2.1 120)), some (.ref (G.2.2.1 140)), some (.ref (G.2.2.1 158)), some (.int i), none, none] [] M0) : TJ G mL_law_ room_1 (lw_E G b L ys) cells slots 244 [some (.ref b), some (.ref (G.2.2.1 120)), some (.ref (G.2.2.1 140)), some (.ref (G.2.2.1 158)), some (.int i), none, none] [] M := by
  obtain ⟨A1, hA1⟩ : ∃ z, z = ys (i + 1).toNatClampNeg := ⟨_, rfl⟩
  obtain ⟨A2, hA2⟩ : ∃ z, z = ys (i + 2).toNatClampNeg := ⟨_, rfl⟩
  obtain ⟨A3, hA3⟩ : ∃ z, z = ys (i + 3).toNatClampNeg := ⟨_, rfl⟩
  obtain ⟨A4, hA4⟩ : ∃ z, z = ys (i + 4).toNatClampNeg := ⟨_, rfl⟩
  obtain ⟨A5, hA5⟩ : ∃ z, z = ys (i + 5).toNatClampNeg := ⟨_, rfl⟩
  refine T.ald_1 (q := 245) dL_law__244 rfl ?_
  refine T.ald_0 (q := 246) dL_law__245 rfl ?_
  refine T.ild_4 (q := 248) dL_law__246 rfl ?_
  refine T.iconst (q := 249) (1) dL_law__248 rfl (by decide) ?_
  refine T.iadd (q := 250) dL_law__249 rfl ?_
  refine T.sld hv.2.1 hA1 dL_law__250 (q := 251) rfl ?_
  refine T.ald_0 (q := 252) dL_law__251 rfl ?_
  refine T.ild_4 (q := 254) dL_law__252 rfl ?_
  refine T.iconst (q := 255) (2) dL_law__254 rfl (by decide) ?_
  refine T.iadd (q := 256) dL_law__255 rfl ?_
  refine T.sld hv.2.2.1 hA2 dL_law__256 (q := 257) rfl ?_
  refine T.ald_0 (q := 258) dL_law__257 rfl ?_
  refine T.ild_4 (q := 260) dL_law__258 rfl ?_
  refine T.iconst (q := 261) (3) dL_law__260 rfl (by decide) ?_
  refine T.iadd (q := 262) dL_law__261 rfl ?_
  refine T.sld hv.2.2.2.1 hA3 dL_law__262 (q := 263) rfl ?_
  refine T.ald_0 (q := 264) dL_law__263 rfl ?_
  refine T.ild_4 (q := 266) dL_law__264 rfl ?_
  refine T.iconst (q := 267) (4) dL_law__266 rfl (by decide) ?_
  refine T.iadd (q := 268) dL_law__267 rfl ?_
  refine T.sld hv.2.2.2.2.1 hA4 dL_law__268 (q := 269) rfl ?_
  refine T.ald_0 (q := 270) dL_law__269 rfl ?_
  refine T.ild_4 (q := 272) dL_law__270 rfl ?_
  refine T.iconst (q := 273) (5) dL_law__272 rfl (by decide) ?_
  refine T.iadd (q := 274) dL_law__273 rfl ?_
  refine T.sld hv.2.2.2.2.2 hA5 dL_law__274 (q := 275) rfl ?_
  refine T.cV (As := [.int A1, .int A2, .int A3, .int A4, .int A5]) (c := 120) (ci := 7) (C := RX7) (T := TX7) (N := 9) (t_X7_feed (Q := fun r M1 => w_X8_feed A1 A2 A3 A4 A5 M1 (fun b9 M2 => r = b9 ∧ Inv M2)) (st_feed h A1 A2 A3 A4 A5).go) w_L_133 cw_X7_feed np_X7_feed rfl (by decide) rfl (by decide) rfl (Nat.le_of_ble_eq_true rfl) (Nat.le_of_ble_eq_true rfl) (rm_c (by omega)) (rm_s (by omega)) rfl (Nat.le_of_ble_eq_true rfl) dL_law__275 (q := 278) rfl ?_
  rintro _ M9 ⟨r, rfl, h9⟩
  refine T.ald_2 (q := 279) dL_law__278 rfl ?_
  refine T.ald_0 (q := 280) dL_law__279 rfl ?_
  refine T.ild_4 (q := 282) dL_law__280 rfl ?_
  refine T.iconst (q := 283) (1) dL_law__282 rfl (by decide) ?_
  refine T.iadd (q := 284) dL_law__283 rfl ?_
  refine T.sld hv.2.1 hA1 dL_law__284 (q := 285) rfl ?_
  refine T.ald_0 (q := 286) dL_law__285 rfl ?_
  refine T.ild_4 (q := 288) dL_law__286 rfl ?_
  refine T.iconst (q := 289) (2) dL_law__288 rfl (by decide) ?_
  refine T.iadd (q := 290) dL_law__289 rfl ?_
  refine T.sld hv.2.2.1 hA2 dL_law__290 (q := 291) rfl ?_
  refine T.ald_0 (q := 292) dL_law__291 rfl ?_
  refine T.ild_4 (q := 294) dL_law__292 rfl ?_
  refine T.iconst (q := 295) (3) dL_law__294 rfl (by decide) ?_
  refine T.iadd (q := 296) dL_law__295 rfl ?_
  refine T.sld hv.2.2.2.1 hA3 dL_law__296 (q := 297) rfl ?_
  refine T.ald_0 (q := 298) dL_law__297 rfl ?_
  refine T.ild_4 (q := 300) dL_law__298 rfl ?_
  refine T.iconst (q := 301) (4) dL_law__300 rfl (by decide) ?_
  refine T.iadd (q := 302) dL_law__301 rfl ?_
  refine T.sld hv.2.2.2.2.1 hA4 dL_law__302 (q := 303) rfl ?_
  refine T.ald_0 (q := 304) dL_law__303 rfl ?_
  refine T.ild_4 (q := 306) dL_law__304 rfl ?_
  refine T.iconst (q := 307) (5) dL_law__306 rfl (by decide) ?_
  refine T.iadd (q := 308) dL_law__307 rfl ?_
  refine T.sld hv.2.2.2.2.2 hA5 dL_law__308 (q := 309) rfl ?_
  refine T.cV (As := [.int A1, .int A2, .int A3, .int A4, .int A5]) (c := 140) (ci := 8) (C := RX8) (T := TX8) (N := 27) (t_X8_feed h9) w_L_137 cw_X8_feed np_X8_feed rfl (by decide) rfl (by decide) rfl (Nat.le_of_ble_eq_true rfl) (Nat.le_of_ble_eq_true rfl) (rm_c (by omega)) (rm_s (by omega)) rfl (Nat.le_of_ble_eq_true rfl) dL_law__309 (q := 312) rfl ?_
  rintro _ M2 ⟨b9, rfl, e0, hI⟩
  refine T.ic_eq (tgt := 2945) (q := 315) dL_law__312 (by decide) rfl (fun _ => ?_) (fun h8 => absurd e0 h8)
  exact TJ.wide (by omega) (by omega) (kk _ hI)
theorem lwc_1 {G : sk_G} {b L : Nat} {ys : Nat → Int32} {M : sk_M} {i : Int32} {cells slots : Nat} (h : Inv M) (hv : lwv i L) (hc : cells + 8 ≤ 601024) (hs : slots + 48 ≤ 7293033) (kk : ∀ M0, Inv M0 → TJ G mL_law_ room_1 (lw_E G b L ys) (cells + 8) (slots + 48) 2945 [some (.ref b), some (.ref (G.2.2.1 120)), some (.ref (G.2.2.1 140)), some (.ref (G.2.2.1 158)), some (.int i), none, none] [] M0) : TJ G mL_law_ room_1 (lw_E G b L ys) cells slots 317 [some (.ref b), some (.ref (G.2.2.1 120)), some (.ref (G.2.2.1 140)), some (.ref (G.2.2.1 158)), some (.int i), none, none] [] M := by
  obtain ⟨A1, hA1⟩ : ∃ z, z = ys (i + 1).toNatClampNeg := ⟨_, rfl⟩
  obtain ⟨A2, hA2⟩ : ∃ z, z = ys (i + 2).toNatClampNeg := ⟨_, rfl⟩
  obtain ⟨A3, hA3⟩ : ∃ z, z = ys (i + 3).toNatClampNeg := ⟨_, rfl⟩
  obtain ⟨A4, hA4⟩ : ∃ z, z = ys (i + 4).toNatClampNeg := ⟨_, rfl⟩
  obtain ⟨A5, hA5⟩ : ∃ z, z = ys (i + 5).toNatClampNeg := ⟨_, rfl⟩
  refine T.ald_1 (q := 318) dL_law__317 rfl ?_
  refine T.ald_0 (q := 319) dL_law__318 rfl ?_
  refine T.ild_4 (q := 321) dL_law__319 rfl ?_
  refine T.iconst (q := 322) (1) dL_law__321 rfl (by decide) ?_
  refine T.iadd (q := 323) dL_law__322 rfl ?_
  refine T.sld hv.2.1 hA1 dL_law__323 (q := 324) rfl ?_
  refine T.cV (As := [.int A1]) (c := 120) (ci := 7) (C := RX7) (T := TX7) (N := 9) (t_X7_end (Q := fun r M1 => w_X8_end A1 M1 (fun b9 M2 => r = b9 ∧ Inv M2)) (st_end h A1).go) w_L_138 cw_X7_end np_X7_end rfl (by decide) rfl (by decide) rfl (Nat.le_of_ble_eq_true rfl) (Nat.le_of_ble_eq_true rfl) (rm_c (by omega)) (rm_s (by omega)) rfl (Nat.le_of_ble_eq_true rfl) dL_law__324 (q := 327) rfl ?_
  rintro _ M9 ⟨r, rfl, h9⟩
  refine T.ald_2 (q := 328) dL_law__327 rfl ?_
  refine T.ald_0 (q := 329) dL_law__328 rfl ?_
  refine T.ild_4 (q := 331) dL_law__329 rfl ?_
  refine T.iconst (q := 332) (1) dL_law__331 rfl (by decide) ?_
  refine T.iadd (q := 333) dL_law__332 rfl ?_
  refine T.sld hv.2.1 hA1 dL_law__333 (q := 334) rfl ?_
  refine T.cV (As := [.int A1]) (c := 140) (ci := 8) (C := RX8) (T := TX8) (N := 27) (t_X8_end h9) w_L_142 cw_X8_end np_X8_end rfl (by decide) rfl (by decide) rfl (Nat.le_of_ble_eq_true rfl) (Nat.le_of_ble_eq_true rfl) (rm_c (by omega)) (rm_s (by omega)) rfl (Nat.le_of_ble_eq_true rfl) dL_law__334 (q := 337) rfl ?_
  rintro _ M2 ⟨b9, rfl, e0, hI⟩
  refine T.ic_eq (tgt := 2945) (q := 340) dL_law__337 (by decide) rfl (fun _ => ?_) (fun h8 => absurd e0 h8)
  exact TJ.wide (by omega) (by omega) (kk _ hI)
theorem lwc_2 {G : sk_G} {b L : Nat} {ys : Nat → Int32} {M : sk_M} {i : Int32} {cells slots : Nat} (h : Inv M) (hv : lwv i L) (hc : cells + 8 ≤ 601024) (hs : slots + 48 ≤ 7293033) (kk : ∀ M0, Inv M0 → TJ G mL_law_ room_1 (lw_E G b L ys) (cells + 8) (slots + 48) 2945 [some (.ref b), some (.ref (G.2.2.1 120)), some (.ref (G.2.2.1 140)), some (.ref (G.2.2.1 158)), some (.int i), none, none] [] M0) : TJ G mL_law_ room_1 (lw_E G b L ys) cells slots 342 [some (.ref b), some (.ref (G.2.2.1 120)), some (.ref (G.2.2.1 140)), some (.ref (G.2.2.1 158)), some (.int i), none, none] [] M := by
  obtain ⟨A1, hA1⟩ : ∃ z, z = ys (i + 1).toNatClampNeg := ⟨_, rfl⟩
  obtain ⟨A2, hA2⟩ : ∃ z, z = ys (i + 2).toNatClampNeg := ⟨_, rfl⟩
  obtain ⟨A3, hA3⟩ : ∃ z, z = ys (i + 3).toNatClampNeg := ⟨_, rfl⟩
  obtain ⟨A4, hA4⟩ : ∃ z, z = ys (i + 4).toNatClampNeg := ⟨_, rfl⟩
  obtain ⟨A5, hA5⟩ : ∃ z, z = ys (i + 5).toNatClampNeg := ⟨_, rfl⟩
  refine T.ald_1 (q := 343) dL_law__342 rfl ?_
  refine T.ald_3 (q := 344) dL_law__343 rfl ?_
  refine T.cSH (As := [.ref (G.2.2.1 120), .ref (G.2.2.1 158)]) (rest := []) (t_L_bank (Q0 := fun M1 => w_X8_bank M1 (fun b9 M2 => M2.1 140 0 = 0 ∧ M2.2 158 0 = b9.toInt64 ∧ Inv M2)) (QX := fun j M1 => w_X8_bank M1 (fun _ M2 => M2.1 140 0 = nI (j + 1) ∧ Inv M2)) (st_bank h ).go) w_L_143 cw_L_bank np_L_bank (Nat.le_of_ble_eq_true rfl) (Nat.le_of_ble_eq_true rfl) (rm_c (by omega)) (rm_s (by omega)) rfl (Nat.le_of_ble_eq_true rfl) dL_law__344 (q := 347) rfl ?_
  rintro _ M9 ⟨k, rfl, h9⟩
  rcases h9 with ⟨rfl, h9⟩ | ⟨j, rfl, hj, h9⟩
  · skip
    refine T.ist_5 (q := 349) dL_law__347 rfl (by decide) sk_ok_i ?_
    refine T.ald_2 (q := 350) dL_law__349 rfl ?_
    refine T.cV (As := []) (c := 140) (ci := 8) (C := RX8) (T := TX8) (N := 27) (t_X8_bank h9) w_L_148 cw_X8_bank np_X8_bank rfl (by decide) rfl (by decide) rfl (Nat.le_of_ble_eq_true rfl) (Nat.le_of_ble_eq_true rfl) (rm_c (by omega)) (rm_s (by omega)) rfl (Nat.le_of_ble_eq_true rfl) dL_law__350 (q := 353) rfl ?_
    rintro _ M2 ⟨b9, rfl, e0, e1, hI⟩
    refine T.ist_6 (q := 355) dL_law__353 rfl (by decide) sk_ok_i ?_
    refine T.ald_2 (q := 356) dL_law__355 rfl ?_
    refine T.cV (As := []) (c := 140) (ci := 8) (C := RX8) (T := TX8) (N := 27) (t_X8_thrown (P := fun r9 => r9 = M2.1 140 0) rfl) w_L_149 cw_X8_thrown np_X8_thrown rfl (by decide) rfl (by decide) rfl (Nat.le_of_ble_eq_true rfl) (Nat.le_of_ble_eq_true rfl) (rm_c (by omega)) (rm_s (by omega)) rfl (Nat.le_of_ble_eq_true rfl) dL_law__356 (q := 359) rfl ?_
    rintro _ M3 ⟨r3, rfl, rfl, e9⟩
    obtain rfl := e9.symm
    refine T.ild_5 (q := 361) dL_law__359 rfl ?_
    refine T.ic_eq (tgt := 366) (q := 364) dL_law__361 (by decide) rfl (fun _ => ?_) (fun h8 => absurd e0 h8)
    refine T.ild_5 (q := 368) dL_law__366 rfl ?_
    refine T.if_ne (tgt := 383) (q := 371) dL_law__368 (by decide) rfl (fun h8 => absurd rfl h8) (fun _ => ?_)
    refine T.ald_3 (q := 372) dL_law__371 rfl ?_
    refine T.iconst (q := 373) (0) dL_law__372 rfl (by decide) ?_
    refine T.laldk (n := 1) rfl rfl (by decide) dL_law__373 (q := 374) rfl (k9 := 0) (by decide) ?_
    refine T.ild_6 (q := 376) dL_law__374 rfl ?_
    refine T.i2l (q := 377) dL_law__376 rfl ?_
    refine T.lcmp (q := 378) dL_law__377 rfl ?_
    refine T.if_eq (tgt := 383) (q := 381) dL_law__378 (by decide) rfl (fun _ => ?_) (fun h8 => absurd (lgc e1) h8)
    refine T.goto (tgt := 2945) dL_law__383 (by decide) ?_
    exact T.drop_5 (T.drop_6 (TJ.wide (by omega) (by omega) (kk _ hI)))
  · skip
    refine T.ist_5 (q := 349) dL_law__347 rfl (by decide) sk_ok_i ?_
    refine T.ald_2 (q := 350) dL_law__349 rfl ?_
    refine T.cV (As := []) (c := 140) (ci := 8) (C := RX8) (T := TX8) (N := 27) (t_X8_bank h9) w_L_148 cw_X8_bank np_X8_bank rfl (by decide) rfl (by decide) rfl (Nat.le_of_ble_eq_true rfl) (Nat.le_of_ble_eq_true rfl) (rm_c (by omega)) (rm_s (by omega)) rfl (Nat.le_of_ble_eq_true rfl) dL_law__350 (q := 353) rfl ?_
    rintro _ M2 ⟨b9, rfl, e0, hI⟩
    refine T.ist_6 (q := 355) dL_law__353 rfl (by decide) sk_ok_i ?_
    refine T.ald_2 (q := 356) dL_law__355 rfl ?_
    refine T.cV (As := []) (c := 140) (ci := 8) (C := RX8) (T := TX8) (N := 27) (t_X8_thrown (P := fun r9 => r9 = M2.1 140 0) rfl) w_L_149 cw_X8_thrown np_X8_thrown rfl (by decide) rfl (by decide) rfl (Nat.le_of_ble_eq_true rfl) (Nat.le_of_ble_eq_true rfl) (rm_c (by omega)) (rm_s (by omega)) rfl (Nat.le_of_ble_eq_true rfl) dL_law__356 (q := 359) rfl ?_
    rintro _ M3 ⟨r3, rfl, rfl, e9⟩
    obtain rfl := e9.symm
    refine T.ild_5 (q := 361) dL_law__359 rfl ?_
    refine T.ic_eq (tgt := 366) (q := 364) dL_law__361 (by decide) rfl (fun _ => ?_) (fun h8 => absurd e0 h8)
    refine T.ild_5 (q := 368) dL_law__366 rfl ?_
    refine T.if_ne (tgt := 383) (q := 371) dL_law__368 (by decide) rfl (fun _ => ?_) (fun h8 => absurd h8 (lnz hj))
    refine T.goto (tgt := 2945) dL_law__383 (by decide) ?_
    exact T.drop_5 (T.drop_6 (TJ.wide (by omega) (by omega) (kk _ hI)))
theorem lwc_3 {G : sk_G} {b L : Nat} {ys : Nat → Int32} {M : sk_M} {i : Int32} {cells slots : Nat} (h : Inv M) (hv : lwv i L) (hc : cells + 8 ≤ 601024) (hs : slots + 48 ≤ 7293033) (kk : ∀ M0, Inv M0 → TJ G mL_law_ room_1 (lw_E G b L ys) (cells + 8) (slots + 48) 2945 [some (.ref b), some (.ref (G.2.2.1 120)), some (.ref (G.2.2.1 140)), some (.ref (G.2.2.1 158)), some (.int i), none, none] [] M0) : TJ G mL_law_ room_1 (lw_E G b L ys) cells slots 386 [some (.ref b), some (.ref (G.2.2.1 120)), some (.ref (G.2.2.1 140)), some (.ref (G.2.2.1 158)), some (.int i), none, none] [] M := by
  obtain ⟨A1, hA1⟩ : ∃ z, z = ys (i + 1).toNatClampNeg := ⟨_, rfl⟩
  obtain ⟨A2, hA2⟩ : ∃ z, z = ys (i + 2).toNatClampNeg := ⟨_, rfl⟩
  obtain ⟨A3, hA3⟩ : ∃ z, z = ys (i + 3).toNatClampNeg := ⟨_, rfl⟩
  obtain ⟨A4, hA4⟩ : ∃ z, z = ys (i + 4).toNatClampNeg := ⟨_, rfl⟩
  obtain ⟨A5, hA5⟩ : ∃ z, z = ys (i + 5).toNatClampNeg := ⟨_, rfl⟩
  refine T.ald_1 (q := 387) dL_law__386 rfl ?_
  refine T.ald_3 (q := 388) dL_law__387 rfl ?_
  refine T.cSH (As := [.ref (G.2.2.1 120), .ref (G.2.2.1 158)]) (rest := []) (t_L_law (Q0 := fun M1 => w_X8_law M1 (fun b9 M2 => M2.1 140 0 = 0 ∧ M2.2 158 0 = b9.toInt64 ∧ Inv M2)) (QX := fun j M1 => w_X8_law M1 (fun _ M2 => M2.1 140 0 = nI (j + 1) ∧ Inv M2)) (st_law h ).go) w_L_152 cw_L_law np_L_law (Nat.le_of_ble_eq_true rfl) (Nat.le_of_ble_eq_true rfl) (rm_c (by omega)) (rm_s (by omega)) rfl (Nat.le_of_ble_eq_true rfl) dL_law__388 (q := 391) rfl ?_
  rintro _ M9 ⟨k, rfl, h9⟩
  rcases h9 with ⟨rfl, h9⟩ | ⟨j, rfl, hj, h9⟩
  · skip
    refine T.ist_5 (q := 393) dL_law__391 rfl (by decide) sk_ok_i ?_
    refine T.ald_2 (q := 394) dL_law__393 rfl ?_
    refine T.cV (As := []) (c := 140) (ci := 8) (C := RX8) (T := TX8) (N := 27) (t_X8_law h9) w_L_154 cw_X8_law np_X8_law rfl (by decide) rfl (by decide) rfl (Nat.le_of_ble_eq_true rfl) (Nat.le_of_ble_eq_true rfl) (rm_c (by omega)) (rm_s (by omega)) rfl (Nat.le_of_ble_eq_true rfl) dL_law__394 (q := 397) rfl ?_
    rintro _ M2 ⟨b9, rfl, e0, e1, hI⟩
    refine T.ist_6 (q := 399) dL_law__397 rfl (by decide) sk_ok_i ?_
    refine T.ald_2 (q := 400) dL_law__399 rfl ?_
    refine T.cV (As := []) (c := 140) (ci := 8) (C := RX8) (T := TX8) (N := 27) (t_X8_thrown (P := fun r9 => r9 = M2.1 140 0) rfl) w_L_149 cw_X8_thrown np_X8_thrown rfl (by decide) rfl (by decide) rfl (Nat.le_of_ble_eq_true rfl) (Nat.le_of_ble_eq_true rfl) (rm_c (by omega)) (rm_s (by omega)) rfl (Nat.le_of_ble_eq_true rfl) dL_law__400 (q := 403) rfl ?_
    rintro _ M3 ⟨r3, rfl, rfl, e9⟩
    obtain rfl := e9.symm
    refine T.ild_5 (q := 405) dL_law__403 rfl ?_
    refine T.ic_eq (tgt := 410) (q := 408) dL_law__405 (by decide) rfl (fun _ => ?_) (fun h8 => absurd e0 h8)
    refine T.ild_5 (q := 412) dL_law__410 rfl ?_
    refine T.if_ne (tgt := 427) (q := 415) dL_law__412 (by decide) rfl (fun h8 => absurd rfl h8) (fun _ => ?_)
    refine T.ald_3 (q := 416) dL_law__415 rfl ?_
    refine T.iconst (q := 417) (0) dL_law__416 rfl (by decide) ?_
    refine T.laldk (n := 1) rfl rfl (by decide) dL_law__417 (q := 418) rfl (k9 := 0) (by decide) ?_
    refine T.ild_6 (q := 420) dL_law__418 rfl ?_
    refine T.i2l (q := 421) dL_law__420 rfl ?_
    refine T.lcmp (q := 422) dL_law__421 rfl ?_
    refine T.if_eq (tgt := 427) (q := 425) dL_law__422 (by decide) rfl (fun _ => ?_) (fun h8 => absurd (lgc e1) h8)
    refine T.goto (tgt := 2945) dL_law__427 (by decide) ?_
    exact T.drop_5 (T.drop_6 (TJ.wide (by omega) (by omega) (kk _ hI)))
  · skip
    refine T.ist_5 (q := 393) dL_law__391 rfl (by decide) sk_ok_i ?_
    refine T.ald_2 (q := 394) dL_law__393 rfl ?_
    refine T.cV (As := []) (c := 140) (ci := 8) (C := RX8) (T := TX8) (N := 27) (t_X8_law h9) w_L_154 cw_X8_law np_X8_law rfl (by decide) rfl (by decide) rfl (Nat.le_of_ble_eq_true rfl) (Nat.le_of_ble_eq_true rfl) (rm_c (by omega)) (rm_s (by omega)) rfl (Nat.le_of_ble_eq_true rfl) dL_law__394 (q := 397) rfl ?_
    rintro _ M2 ⟨b9, rfl, e0, hI⟩
    refine T.ist_6 (q := 399) dL_law__397 rfl (by decide) sk_ok_i ?_
    refine T.ald_2 (q := 400) dL_law__399 rfl ?_
    refine T.cV (As := []) (c := 140) (ci := 8) (C := RX8) (T := TX8) (N := 27) (t_X8_thrown (P := fun r9 => r9 = M2.1 140 0) rfl) w_L_149 cw_X8_thrown np_X8_thrown rfl (by decide) rfl (by decide) rfl (Nat.le_of_ble_eq_true rfl) (Nat.le_of_ble_eq_true rfl) (rm_c (by omega)) (rm_s (by omega)) rfl (Nat.le_of_ble_eq_true rfl) dL_law__400 (q := 403) rfl ?_
    rintro _ M3 ⟨r3, rfl, rfl, e9⟩
    obtain rfl := e9.symm
    refine T.ild_5 (q := 405) dL_law__403 rfl ?_
    refine T.ic_eq (tgt := 410) (q := 408) dL_law__405 (by decide) rfl (fun _ => ?_) (fun h8 => absurd e0 h8)
    refine T.ild_5 (q := 412) dL_law__410 rfl ?_
    refine T.if_ne (tgt := 427) (q := 415) dL_law__412 (by decide) rfl (fun _ => ?_) (fun h8 => absurd h8 (lnz hj))
    refine T.goto (tgt := 2945) dL_law__427 (by decide) ?_
    exact T.drop_5 (T.drop_6 (TJ.wide (by omega) (by omega) (kk _ hI)))
theorem lwc_4 {G : sk_G} {b L : Nat} {ys : Nat → Int32} {M : sk_M} {i : Int32} {cells slots : Nat} (h : Inv M) (hv : lwv i L) (hc : cells + 8 ≤ 601024) (hs : slots + 48 ≤ 7293033) (kk : ∀ M0, Inv M0 → TJ G mL_law_ room_1 (lw_E G b L ys) (cells + 8) (slots + 48) 2945 [some (.ref b), some (.ref (G.2.2.1 120)), some (.ref (G.2.2.1 140)), some (.ref (G.2.2.1 158)), some (.int i), none, none] [] M0) : TJ G mL_law_ room_1 (lw_E G b L ys) cells slots 430 [some (.ref b), some (.ref (G.2.2.1 120)), some (.ref (G.2.2.1 140)), some (.ref (G.2.2.1 158)), some (.int i), none, none] [] M := by
  obtain ⟨A1, hA1⟩ : ∃ z, z = ys (i + 1).toNatClampNeg := ⟨_, rfl⟩
  obtain ⟨A2, hA2⟩ : ∃ z, z = ys (i + 2).toNatClampNeg := ⟨_, rfl⟩
  obtain ⟨A3, hA3⟩ : ∃ z, z = ys (i + 3).toNatClampNeg := ⟨_, rfl⟩
  obtain ⟨A4, hA4⟩ : ∃ z, z = ys (i + 4).toNatClampNeg := ⟨_, rfl⟩
  obtain ⟨A5, hA5⟩ : ∃ z, z = ys (i + 5).toNatClampNeg := ⟨_, rfl⟩
  refine T.ald_1 (q := 431) dL_law__430 rfl ?_
  refine T.cV (As := []) (c := 120) (ci := 7) (C := RX7) (T := TX7) (N := 9) (t_X7_fault (P := fun r9 => r9 = f_X7_fault M) rfl) w_L_155 cw_X7_fault np_X7_fault rfl (by decide) rfl (by decide) rfl (Nat.le_of_ble_eq_true rfl) (Nat.le_of_ble_eq_true rfl) (rm_c (by omega)) (rm_s (by omega)) rfl (Nat.le_of_ble_eq_true rfl) dL_law__431 (q := 434) rfl ?_
  rintro _ M9 ⟨r, rfl, rfl, e9⟩
  obtain rfl := e9.symm
  have h9 := (st_fault h).go
  refine T.ald_2 (q := 435) dL_law__434 rfl ?_
  refine T.cV (As := []) (c := 140) (ci := 8) (C := RX8) (T := TX8) (N := 27) (t_X8_fault h9) w_L_158 cw_X8_fault np_X8_fault rfl (by decide) rfl (by decide) rfl (Nat.le_of_ble_eq_true rfl) (Nat.le_of_ble_eq_true rfl) (rm_c (by omega)) (rm_s (by omega)) rfl (Nat.le_of_ble_eq_true rfl) dL_law__435 (q := 438) rfl ?_
  rintro _ M2 ⟨b9, rfl, e0, hI⟩
  refine T.ic_eq (tgt := 2945) (q := 441) dL_law__438 (by decide) rfl (fun _ => ?_) (fun h8 => absurd e0 h8)
  exact TJ.wide (by omega) (by omega) (kk _ hI)
theorem lwc_5 {G : sk_G} {b L : Nat} {ys : Nat → Int32} {M : sk_M} {i : Int32} {cells slots : Nat} (h : Inv M) (hv : lwv i L) (hc : cells + 8 ≤ 601024) (hs : slots + 48 ≤ 7293033) (kk : ∀ M0, Inv M0 → TJ G mL_law_ room_1 (lw_E G b L ys) (cells + 8) (slots + 48) 2945 [some (.ref b), some (.ref (G.2.2.1 120)), some (.ref (G.2.2.1 140)), some (.ref (G.2.2.1 158)), some (.int i), none, none] [] M0) : TJ G mL_law_ room_1 (lw_E G b L ys) cells slots 443 [some (.ref b), some (.ref (G.2.2.1 120)), some (.ref (G.2.2.1 140)), some (.ref (G.2.2.1 158)), some (.int i), none, none] [] M := by
  obtain ⟨A1, hA1⟩ : ∃ z, z = ys (i + 1).toNatClampNeg := ⟨_, rfl⟩
  obtain ⟨A2, hA2⟩ : ∃ z, z = ys (i + 2).toNatClampNeg := ⟨_, rfl⟩
  obtain ⟨A3, hA3⟩ : ∃ z, z = ys (i + 3).toNatClampNeg := ⟨_, rfl⟩
  obtain ⟨A4, hA4⟩ : ∃ z, z = ys (i + 4).toNatClampNeg := ⟨_, rfl⟩
  obtain ⟨A5, hA5⟩ : ∃ z, z = ys (i + 5).toNatClampNeg := ⟨_, rfl⟩
  refine T.ald_1 (q := 444) dL_law__443 rfl ?_
  refine T.ald_0 (q := 445) dL_law__444 rfl ?_
  refine T.ild_4 (q := 447) dL_law__445 rfl ?_
  refine T.iconst (q := 448) (1) dL_law__447 rfl (by decide) ?_
  refine T.iadd (q := 449) dL_law__448 rfl ?_
  refine T.sld hv.2.1 hA1 dL_law__449 (q := 450) rfl ?_
  refine T.ald_0 (q := 451) dL_law__450 rfl ?_
  refine T.ild_4 (q := 453) dL_law__451 rfl ?_
  refine T.iconst (q := 454) (2) dL_law__453 rfl (by decide) ?_
  refine T.iadd (q := 455) dL_law__454 rfl ?_
  refine T.sld hv.2.2.1 hA2 dL_law__455 (q := 456) rfl ?_
  refine T.ald_3 (q := 457) dL_law__456 rfl ?_
  refine T.cSH (As := [.ref (G.2.2.1 120), .int A1, .int A2, .ref (G.2.2.1 158)]) (rest := []) (t_L_vault (Q0 := fun M1 => w_X8_vault A1 A2 M1 (fun b9 M2 => M2.1 140 0 = 0 ∧ M2.2 158 0 = b9.toInt64 ∧ Inv M2)) (QX := fun j M1 => w_X8_vault A1 A2 M1 (fun _ M2 => M2.1 140 0 = nI (j + 1) ∧ Inv M2)) (st_vault h A1 A2).go) w_L_159 cw_L_vault np_L_vault (Nat.le_of_ble_eq_true rfl) (Nat.le_of_ble_eq_true rfl) (rm_c (by omega)) (rm_s (by omega)) rfl (Nat.le_of_ble_eq_true rfl) dL_law__457 (q := 460) rfl ?_
  rintro _ M9 ⟨k, rfl, h9⟩
  rcases h9 with ⟨rfl, h9⟩ | ⟨j, rfl, hj, h9⟩
  · skip
    refine T.ist_5 (q := 462) dL_law__460 rfl (by decide) sk_ok_i ?_
    refine T.ald_2 (q := 463) dL_law__462 rfl ?_
    refine T.ald_0 (q := 464) dL_law__463 rfl ?_
    refine T.ild_4 (q := 466) dL_law__464 rfl ?_
    refine T.iconst (q := 467) (1) dL_law__466 rfl (by decide) ?_
    refine T.iadd (q := 468) dL_law__467 rfl ?_
    refine T.sld hv.2.1 hA1 dL_law__468 (q := 469) rfl ?_
    refine T.ald_0 (q := 470) dL_law__469 rfl ?_
    refine T.ild_4 (q := 472) dL_law__470 rfl ?_
    refine T.iconst (q := 473) (2) dL_law__472 rfl (by decide) ?_
    refine T.iadd (q := 474) dL_law__473 rfl ?_
    refine T.sld hv.2.2.1 hA2 dL_law__474 (q := 475) rfl ?_
    refine T.cV (As := [.int A1, .int A2]) (c := 140) (ci := 8) (C := RX8) (T := TX8) (N := 27) (t_X8_vault h9) w_L_162 cw_X8_vault np_X8_vault rfl (by decide) rfl (by decide) rfl (Nat.le_of_ble_eq_true rfl) (Nat.le_of_ble_eq_true rfl) (rm_c (by omega)) (rm_s (by omega)) rfl (Nat.le_of_ble_eq_true rfl) dL_law__475 (q := 478) rfl ?_
    rintro _ M2 ⟨b9, rfl, e0, e1, hI⟩
    refine T.ist_6 (q := 480) dL_law__478 rfl (by decide) sk_ok_i ?_
    refine T.ald_2 (q := 481) dL_law__480 rfl ?_
    refine T.cV (As := []) (c := 140) (ci := 8) (C := RX8) (T := TX8) (N := 27) (t_X8_thrown (P := fun r9 => r9 = M2.1 140 0) rfl) w_L_149 cw_X8_thrown np_X8_thrown rfl (by decide) rfl (by decide) rfl (Nat.le_of_ble_eq_true rfl) (Nat.le_of_ble_eq_true rfl) (rm_c (by omega)) (rm_s (by omega)) rfl (Nat.le_of_ble_eq_true rfl) dL_law__481 (q := 484) rfl ?_
    rintro _ M3 ⟨r3, rfl, rfl, e9⟩
    obtain rfl := e9.symm
    refine T.ild_5 (q := 486) dL_law__484 rfl ?_
    refine T.ic_eq (tgt := 491) (q := 489) dL_law__486 (by decide) rfl (fun _ => ?_) (fun h8 => absurd e0 h8)
    refine T.ild_5 (q := 493) dL_law__491 rfl ?_
    refine T.if_ne (tgt := 508) (q := 496) dL_law__493 (by decide) rfl (fun h8 => absurd rfl h8) (fun _ => ?_)
    refine T.ald_3 (q := 497) dL_law__496 rfl ?_
    refine T.iconst (q := 498) (0) dL_law__497 rfl (by decide) ?_
    refine T.laldk (n := 1) rfl rfl (by decide) dL_law__498 (q := 499) rfl (k9 := 0) (by decide) ?_
    refine T.ild_6 (q := 501) dL_law__499 rfl ?_
    refine T.i2l (q := 502) dL_law__501 rfl ?_
    refine T.lcmp (q := 503) dL_law__502 rfl ?_
    refine T.if_eq (tgt := 508) (q := 506) dL_law__503 (by decide) rfl (fun _ => ?_) (fun h8 => absurd (lgc e1) h8)
    refine T.goto (tgt := 2945) dL_law__508 (by decide) ?_
    exact T.drop_5 (T.drop_6 (TJ.wide (by omega) (by omega) (kk _ hI)))
  · skip
    refine T.ist_5 (q := 462) dL_law__460 rfl (by decide) sk_ok_i ?_
    refine T.ald_2 (q := 463) dL_law__462 rfl ?_
    refine T.ald_0 (q := 464) dL_law__463 rfl ?_
    refine T.ild_4 (q := 466) dL_law__464 rfl ?_
    refine T.iconst (q := 467) (1) dL_law__466 rfl (by decide) ?_
    refine T.iadd (q := 468) dL_law__467 rfl ?_
    refine T.sld hv.2.1 hA1 dL_law__468 (q := 469) rfl ?_
    refine T.ald_0 (q := 470) dL_law__469 rfl ?_
    refine T.ild_4 (q := 472) dL_law__470 rfl ?_
    refine T.iconst (q := 473) (2) dL_law__472 rfl (by decide) ?_
    refine T.iadd (q := 474) dL_law__473 rfl ?_
    refine T.sld hv.2.2.1 hA2 dL_law__474 (q := 475) rfl ?_
    refine T.cV (As := [.int A1, .int A2]) (c := 140) (ci := 8) (C := RX8) (T := TX8) (N := 27) (t_X8_vault h9) w_L_162 cw_X8_vault np_X8_vault rfl (by decide) rfl (by decide) rfl (Nat.le_of_ble_eq_true rfl) (Nat.le_of_ble_eq_true rfl) (rm_c (by omega)) (rm_s (by omega)) rfl (Nat.le_of_ble_eq_true rfl) dL_law__475 (q := 478) rfl ?_
    rintro _ M2 ⟨b9, rfl, e0, hI⟩
    refine T.ist_6 (q := 480) dL_law__478 rfl (by decide) sk_ok_i ?_
    refine T.ald_2 (q := 481) dL_law__480 rfl ?_
    refine T.cV (As := []) (c := 140) (ci := 8) (C := RX8) (T := TX8) (N := 27) (t_X8_thrown (P := fun r9 => r9 = M2.1 140 0) rfl) w_L_149 cw_X8_thrown np_X8_thrown rfl (by decide) rfl (by decide) rfl (Nat.le_of_ble_eq_true rfl) (Nat.le_of_ble_eq_true rfl) (rm_c (by omega)) (rm_s (by omega)) rfl (Nat.le_of_ble_eq_true rfl) dL_law__481 (q := 484) rfl ?_
    rintro _ M3 ⟨r3, rfl, rfl, e9⟩
    obtain rfl := e9.symm
    refine T.ild_5 (q := 486) dL_law__484 rfl ?_
    refine T.ic_eq (tgt := 491) (q := 489) dL_law__486 (by decide) rfl (fun _ => ?_) (fun h8 => absurd e0 h8)
    refine T.ild_5 (q := 493) dL_law__491 rfl ?_
    refine T.if_ne (tgt := 508) (q := 496) dL_law__493 (by decide) rfl (fun _ => ?_) (fun h8 => absurd h8 (lnz hj))
    refine T.goto (tgt := 2945) dL_law__508 (by decide) ?_
    exact T.drop_5 (T.drop_6 (TJ.wide (by omega) (by omega) (kk _ hI)))
theorem lwc_6 {G : sk_G} {b L : Nat} {ys : Nat → Int32} {M : sk_M} {i : Int32} {cells slots : Nat} (h : Inv M) (hv : lwv i L) (hc : cells + 8 ≤ 601024) (hs : slots + 48 ≤ 7293033) (kk : ∀ M0, Inv M0 → TJ G mL_law_ room_1 (lw_E G b L ys) (cells + 8) (slots + 48) 2945 [some (.ref b), some (.ref (G.2.2.1 120)), some (.ref (G.2.2.1 140)), some (.ref (G.2.2.1 158)), some (.int i), none, none] [] M0) : TJ G mL_law_ room_1 (lw_E G b L ys) cells slots 511 [some (.ref b), some (.ref (G.2.2.1 120)), some (.ref (G.2.2.1 140)), some (.ref (G.2.2.1 158)), some (.int i), none, none] [] M := by
  obtain ⟨A1, hA1⟩ : ∃ z, z = ys (i + 1).toNatClampNeg := ⟨_, rfl⟩
  obtain ⟨A2, hA2⟩ : ∃ z, z = ys (i + 2).toNatClampNeg := ⟨_, rfl⟩
  obtain ⟨A3, hA3⟩ : ∃ z, z = ys (i + 3).toNatClampNeg := ⟨_, rfl⟩
  obtain ⟨A4, hA4⟩ : ∃ z, z = ys (i + 4).toNatClampNeg := ⟨_, rfl⟩
  obtain ⟨A5, hA5⟩ : ∃ z, z = ys (i + 5).toNatClampNeg := ⟨_, rfl⟩
  refine T.ald_1 (q := 512) dL_law__511 rfl ?_
  refine T.ald_0 (q := 513) dL_law__512 rfl ?_
  refine T.ild_4 (q := 515) dL_law__513 rfl ?_
  refine T.iconst (q := 516) (1) dL_law__515 rfl (by decide) ?_
  refine T.iadd (q := 517) dL_law__516 rfl ?_
  refine T.sld hv.2.1 hA1 dL_law__517 (q := 518) rfl ?_
  refine T.ald_0 (q := 519) dL_law__518 rfl ?_
  refine T.ild_4 (q := 521) dL_law__519 rfl ?_
  refine T.iconst (q := 522) (2) dL_law__521 rfl (by decide) ?_
  refine T.iadd (q := 523) dL_law__522 rfl ?_
  refine T.sld hv.2.2.1 hA2 dL_law__523 (q := 524) rfl ?_
  refine T.ald_3 (q := 525) dL_law__524 rfl ?_
  refine T.cSH (As := [.ref (G.2.2.1 120), .int A1, .int A2, .ref (G.2.2.1 158)]) (rest := []) (t_L_left (Q0 := fun M1 => w_X8_left A1 A2 M1 (fun b9 M2 => M2.1 140 0 = 0 ∧ M2.2 158 0 = b9.toInt64 ∧ Inv M2)) (QX := fun j M1 => w_X8_left A1 A2 M1 (fun _ M2 => M2.1 140 0 = nI (j + 1) ∧ Inv M2)) (st_left h A1 A2).go) w_L_163 cw_L_left np_L_left (Nat.le_of_ble_eq_true rfl) (Nat.le_of_ble_eq_true rfl) (rm_c (by omega)) (rm_s (by omega)) rfl (Nat.le_of_ble_eq_true rfl) dL_law__525 (q := 528) rfl ?_
  rintro _ M9 ⟨k, rfl, h9⟩
  rcases h9 with ⟨rfl, h9⟩ | ⟨j, rfl, hj, h9⟩
  · skip
    refine T.ist_5 (q := 530) dL_law__528 rfl (by decide) sk_ok_i ?_
    refine T.ald_2 (q := 531) dL_law__530 rfl ?_
    refine T.ald_0 (q := 532) dL_law__531 rfl ?_
    refine T.ild_4 (q := 534) dL_law__532 rfl ?_
    refine T.iconst (q := 535) (1) dL_law__534 rfl (by decide) ?_
    refine T.iadd (q := 536) dL_law__535 rfl ?_
    refine T.sld hv.2.1 hA1 dL_law__536 (q := 537) rfl ?_
    refine T.ald_0 (q := 538) dL_law__537 rfl ?_
    refine T.ild_4 (q := 540) dL_law__538 rfl ?_
    refine T.iconst (q := 541) (2) dL_law__540 rfl (by decide) ?_
    refine T.iadd (q := 542) dL_law__541 rfl ?_
    refine T.sld hv.2.2.1 hA2 dL_law__542 (q := 543) rfl ?_
    refine T.cV (As := [.int A1, .int A2]) (c := 140) (ci := 8) (C := RX8) (T := TX8) (N := 27) (t_X8_left h9) w_L_165 cw_X8_left np_X8_left rfl (by decide) rfl (by decide) rfl (Nat.le_of_ble_eq_true rfl) (Nat.le_of_ble_eq_true rfl) (rm_c (by omega)) (rm_s (by omega)) rfl (Nat.le_of_ble_eq_true rfl) dL_law__543 (q := 546) rfl ?_
    rintro _ M2 ⟨b9, rfl, e0, e1, hI⟩
    refine T.ist_6 (q := 548) dL_law__546 rfl (by decide) sk_ok_i ?_
    refine T.ald_2 (q := 549) dL_law__548 rfl ?_
    refine T.cV (As := []) (c := 140) (ci := 8) (C := RX8) (T := TX8) (N := 27) (t_X8_thrown (P := fun r9 => r9 = M2.1 140 0) rfl) w_L_149 cw_X8_thrown np_X8_thrown rfl (by decide) rfl (by decide) rfl (Nat.le_of_ble_eq_true rfl) (Nat.le_of_ble_eq_true rfl) (rm_c (by omega)) (rm_s (by omega)) rfl (Nat.le_of_ble_eq_true rfl) dL_law__549 (q := 552) rfl ?_
    rintro _ M3 ⟨r3, rfl, rfl, e9⟩
    obtain rfl := e9.symm
    refine T.ild_5 (q := 554) dL_law__552 rfl ?_
    refine T.ic_eq (tgt := 559) (q := 557) dL_law__554 (by decide) rfl (fun _ => ?_) (fun h8 => absurd e0 h8)
    refine T.ild_5 (q := 561) dL_law__559 rfl ?_
    refine T.if_ne (tgt := 576) (q := 564) dL_law__561 (by decide) rfl (fun h8 => absurd rfl h8) (fun _ => ?_)
    refine T.ald_3 (q := 565) dL_law__564 rfl ?_
    refine T.iconst (q := 566) (0) dL_law__565 rfl (by decide) ?_
    refine T.laldk (n := 1) rfl rfl (by decide) dL_law__566 (q := 567) rfl (k9 := 0) (by decide) ?_
    refine T.ild_6 (q := 569) dL_law__567 rfl ?_
    refine T.i2l (q := 570) dL_law__569 rfl ?_
    refine T.lcmp (q := 571) dL_law__570 rfl ?_
    refine T.if_eq (tgt := 576) (q := 574) dL_law__571 (by decide) rfl (fun _ => ?_) (fun h8 => absurd (lgc e1) h8)
    refine T.goto (tgt := 2945) dL_law__576 (by decide) ?_
    exact T.drop_5 (T.drop_6 (TJ.wide (by omega) (by omega) (kk _ hI)))
  · skip
    refine T.ist_5 (q := 530) dL_law__528 rfl (by decide) sk_ok_i ?_
    refine T.ald_2 (q := 531) dL_law__530 rfl ?_
    refine T.ald_0 (q := 532) dL_law__531 rfl ?_
    refine T.ild_4 (q := 534) dL_law__532 rfl ?_
    refine T.iconst (q := 535) (1) dL_law__534 rfl (by decide) ?_
    refine T.iadd (q := 536) dL_law__535 rfl ?_
    refine T.sld hv.2.1 hA1 dL_law__536 (q := 537) rfl ?_
    refine T.ald_0 (q := 538) dL_law__537 rfl ?_
    refine T.ild_4 (q := 540) dL_law__538 rfl ?_
    refine T.iconst (q := 541) (2) dL_law__540 rfl (by decide) ?_
    refine T.iadd (q := 542) dL_law__541 rfl ?_
    refine T.sld hv.2.2.1 hA2 dL_law__542 (q := 543) rfl ?_
    refine T.cV (As := [.int A1, .int A2]) (c := 140) (ci := 8) (C := RX8) (T := TX8) (N := 27) (t_X8_left h9) w_L_165 cw_X8_left np_X8_left rfl (by decide) rfl (by decide) rfl (Nat.le_of_ble_eq_true rfl) (Nat.le_of_ble_eq_true rfl) (rm_c (by omega)) (rm_s (by omega)) rfl (Nat.le_of_ble_eq_true rfl) dL_law__543 (q := 546) rfl ?_
    rintro _ M2 ⟨b9, rfl, e0, hI⟩
    refine T.ist_6 (q := 548) dL_law__546 rfl (by decide) sk_ok_i ?_
    refine T.ald_2 (q := 549) dL_law__548 rfl ?_
    refine T.cV (As := []) (c := 140) (ci := 8) (C := RX8) (T := TX8) (N := 27) (t_X8_thrown (P := fun r9 => r9 = M2.1 140 0) rfl) w_L_149 cw_X8_thrown np_X8_thrown rfl (by decide) rfl (by decide) rfl (Nat.le_of_ble_eq_true rfl) (Nat.le_of_ble_eq_true rfl) (rm_c (by omega)) (rm_s (by omega)) rfl (Nat.le_of_ble_eq_true rfl) dL_law__549 (q := 552) rfl ?_
    rintro _ M3 ⟨r3, rfl, rfl, e9⟩
    obtain rfl := e9.symm
    refine T.ild_5 (q := 554) dL_law__552 rfl ?_
    refine T.ic_eq (tgt := 559) (q := 557) dL_law__554 (by decide) rfl (fun _ => ?_) (fun h8 => absurd e0 h8)
    refine T.ild_5 (q := 561) dL_law__559 rfl ?_
    refine T.if_ne (tgt := 576) (q := 564) dL_law__561 (by decide) rfl (fun _ => ?_) (fun h8 => absurd h8 (lnz hj))
    refine T.goto (tgt := 2945) dL_law__576 (by decide) ?_
    exact T.drop_5 (T.drop_6 (TJ.wide (by omega) (by omega) (kk _ hI)))
theorem lwc_7 {G : sk_G} {b L : Nat} {ys : Nat → Int32} {M : sk_M} {i : Int32} {cells slots : Nat} (h : Inv M) (hv : lwv i L) (hc : cells + 8 ≤ 601024) (hs : slots + 48 ≤ 7293033) (kk : ∀ M0, Inv M0 → TJ G mL_law_ room_1 (lw_E G b L ys) (cells + 8) (slots + 48) 2945 [some (.ref b), some (.ref (G.2.2.1 120)), some (.ref (G.2.2.1 140)), some (.ref (G.2.2.1 158)), some (.int i), none, none] [] M0) : TJ G mL_law_ room_1 (lw_E G b L ys) cells slots 579 [some (.ref b), some (.ref (G.2.2.1 120)), some (.ref (G.2.2.1 140)), some (.ref (G.2.2.1 158)), some (.int i), none, none] [] M := by
  obtain ⟨A1, hA1⟩ : ∃ z, z = ys (i + 1).toNatClampNeg := ⟨_, rfl⟩
  obtain ⟨A2, hA2⟩ : ∃ z, z = ys (i + 2).toNatClampNeg := ⟨_, rfl⟩
  obtain ⟨A3, hA3⟩ : ∃ z, z = ys (i + 3).toNatClampNeg := ⟨_, rfl⟩
  obtain ⟨A4, hA4⟩ : ∃ z, z = ys (i + 4).toNatClampNeg := ⟨_, rfl⟩
  obtain ⟨A5, hA5⟩ : ∃ z, z = ys (i + 5).toNatClampNeg := ⟨_, rfl⟩
  refine T.ald_1 (q := 580) dL_law__579 rfl ?_
  refine T.ald_0 (q := 581) dL_law__580 rfl ?_
  refine T.ild_4 (q := 583) dL_law__581 rfl ?_
  refine T.iconst (q := 584) (1) dL_law__583 rfl (by decide) ?_
  refine T.iadd (q := 585) dL_law__584 rfl ?_
  refine T.sld hv.2.1 hA1 dL_law__585 (q := 586) rfl ?_
  refine T.ald_0 (q := 587) dL_law__586 rfl ?_
  refine T.ild_4 (q := 589) dL_law__587 rfl ?_
  refine T.iconst (q := 590) (2) dL_law__589 rfl (by decide) ?_
  refine T.iadd (q := 591) dL_law__590 rfl ?_
  refine T.sld hv.2.2.1 hA2 dL_law__591 (q := 592) rfl ?_
  refine T.ald_0 (q := 593) dL_law__592 rfl ?_
  refine T.ild_4 (q := 595) dL_law__593 rfl ?_
  refine T.iconst (q := 596) (3) dL_law__595 rfl (by decide) ?_
  refine T.iadd (q := 597) dL_law__596 rfl ?_
  refine T.sld hv.2.2.2.1 hA3 dL_law__597 (q := 598) rfl ?_
  refine T.ald_3 (q := 599) dL_law__598 rfl ?_
  refine T.cSH (As := [.ref (G.2.2.1 120), .int A1, .int A2, .int A3, .ref (G.2.2.1 158)]) (rest := []) (t_L_code (Q0 := fun M1 => w_X8_code A1 A2 A3 M1 (fun b9 M2 => M2.1 140 0 = 0 ∧ M2.2 158 0 = b9.toInt64 ∧ Inv M2)) (QX := fun j M1 => w_X8_code A1 A2 A3 M1 (fun _ M2 => M2.1 140 0 = nI (j + 1) ∧ Inv M2)) (st_code h A1 A2 A3).go) w_L_166 cw_L_code np_L_code (Nat.le_of_ble_eq_true rfl) (Nat.le_of_ble_eq_true rfl) (rm_c (by omega)) (rm_s (by omega)) rfl (Nat.le_of_ble_eq_true rfl) dL_law__599 (q := 602) rfl ?_
  rintro _ M9 ⟨k, rfl, h9⟩
  rcases h9 with ⟨rfl, h9⟩ | ⟨j, rfl, hj, h9⟩
  · skip
    refine T.ist_5 (q := 604) dL_law__602 rfl (by decide) sk_ok_i ?_
    refine T.ald_2 (q := 605) dL_law__604 rfl ?_
    refine T.ald_0 (q := 606) dL_law__605 rfl ?_
    refine T.ild_4 (q := 608) dL_law__606 rfl ?_
    refine T.iconst (q := 609) (1) dL_law__608 rfl (by decide) ?_
    refine T.iadd (q := 610) dL_law__609 rfl ?_
    refine T.sld hv.2.1 hA1 dL_law__610 (q := 611) rfl ?_
    refine T.ald_0 (q := 612) dL_law__611 rfl ?_
    refine T.ild_4 (q := 614) dL_law__612 rfl ?_
    refine T.iconst (q := 615) (2) dL_law__614 rfl (by decide) ?_
    refine T.iadd (q := 616) dL_law__615 rfl ?_
    refine T.sld hv.2.2.1 hA2 dL_law__616 (q := 617) rfl ?_
    refine T.ald_0 (q := 618) dL_law__617 rfl ?_
    refine T.ild_4 (q := 620) dL_law__618 rfl ?_
    refine T.iconst (q := 621) (3) dL_law__620 rfl (by decide) ?_
    refine T.iadd (q := 622) dL_law__621 rfl ?_
    refine T.sld hv.2.2.2.1 hA3 dL_law__622 (q := 623) rfl ?_
    refine T.cV (As := [.int A1, .int A2, .int A3]) (c := 140) (ci := 8) (C := RX8) (T := TX8) (N := 27) (t_X8_code h9) w_L_169 cw_X8_code np_X8_code rfl (by decide) rfl (by decide) rfl (Nat.le_of_ble_eq_true rfl) (Nat.le_of_ble_eq_true rfl) (rm_c (by omega)) (rm_s (by omega)) rfl (Nat.le_of_ble_eq_true rfl) dL_law__623 (q := 626) rfl ?_
    rintro _ M2 ⟨b9, rfl, e0, e1, hI⟩
    refine T.ist_6 (q := 628) dL_law__626 rfl (by decide) sk_ok_i ?_
    refine T.ald_2 (q := 629) dL_law__628 rfl ?_
    refine T.cV (As := []) (c := 140) (ci := 8) (C := RX8) (T := TX8) (N := 27) (t_X8_thrown (P := fun r9 => r9 = M2.1 140 0) rfl) w_L_149 cw_X8_thrown np_X8_thrown rfl (by decide) rfl (by decide) rfl (Nat.le_of_ble_eq_true rfl) (Nat.le_of_ble_eq_true rfl) (rm_c (by omega)) (rm_s (by omega)) rfl (Nat.le_of_ble_eq_true rfl) dL_law__629 (q := 632) rfl ?_
    rintro _ M3 ⟨r3, rfl, rfl, e9⟩
    obtain rfl := e9.symm
    refine T.ild_5 (q := 634) dL_law__632 rfl ?_
    refine T.ic_eq (tgt := 639) (q := 637) dL_law__634 (by decide) rfl (fun _ => ?_) (fun h8 => absurd e0 h8)
    refine T.ild_5 (q := 641) dL_law__639 rfl ?_
    refine T.if_ne (tgt := 656) (q := 644) dL_law__641 (by decide) rfl (fun h8 => absurd rfl h8) (fun _ => ?_)
    refine T.ald_3 (q := 645) dL_law__644 rfl ?_
    refine T.iconst (q := 646) (0) dL_law__645 rfl (by decide) ?_
    refine T.laldk (n := 1) rfl rfl (by decide) dL_law__646 (q := 647) rfl (k9 := 0) (by decide) ?_
    refine T.ild_6 (q := 649) dL_law__647 rfl ?_
    refine T.i2l (q := 650) dL_law__649 rfl ?_
    refine T.lcmp (q := 651) dL_law__650 rfl ?_
    refine T.if_eq (tgt := 656) (q := 654) dL_law__651 (by decide) rfl (fun _ => ?_) (fun h8 => absurd (lgc e1) h8)
    refine T.goto (tgt := 2945) dL_law__656 (by decide) ?_
    exact T.drop_5 (T.drop_6 (TJ.wide (by omega) (by omega) (kk _ hI)))
  · skip
    refine T.ist_5 (q := 604) dL_law__602 rfl (by decide) sk_ok_i ?_
    refine T.ald_2 (q := 605) dL_law__604 rfl ?_
    refine T.ald_0 (q := 606) dL_law__605 rfl ?_
    refine T.ild_4 (q := 608) dL_law__606 rfl ?_
    refine T.iconst (q := 609) (1) dL_law__608 rfl (by decide) ?_
    refine T.iadd (q := 610) dL_law__609 rfl ?_
    refine T.sld hv.2.1 hA1 dL_law__610 (q := 611) rfl ?_
    refine T.ald_0 (q := 612) dL_law__611 rfl ?_
    refine T.ild_4 (q := 614) dL_law__612 rfl ?_
    refine T.iconst (q := 615) (2) dL_law__614 rfl (by decide) ?_
    refine T.iadd (q := 616) dL_law__615 rfl ?_
    refine T.sld hv.2.2.1 hA2 dL_law__616 (q := 617) rfl ?_
    refine T.ald_0 (q := 618) dL_law__617 rfl ?_
    refine T.ild_4 (q := 620) dL_law__618 rfl ?_
    refine T.iconst (q := 621) (3) dL_law__620 rfl (by decide) ?_
    refine T.iadd (q := 622) dL_law__621 rfl ?_
    refine T.sld hv.2.2.2.1 hA3 dL_law__622 (q := 623) rfl ?_
    refine T.cV (As := [.int A1, .int A2, .int A3]) (c := 140) (ci := 8) (C := RX8) (T := TX8) (N := 27) (t_X8_code h9) w_L_169 cw_X8_code np_X8_code rfl (by decide) rfl (by decide) rfl (Nat.le_of_ble_eq_true rfl) (Nat.le_of_ble_eq_true rfl) (rm_c (by omega)) (rm_s (by omega)) rfl (Nat.le_of_ble_eq_true rfl) dL_law__623 (q := 626) rfl ?_
    rintro _ M2 ⟨b9, rfl, e0, hI⟩
    refine T.ist_6 (q := 628) dL_law__626 rfl (by decide) sk_ok_i ?_
    refine T.ald_2 (q := 629) dL_law__628 rfl ?_
    refine T.cV (As := []) (c := 140) (ci := 8) (C := RX8) (T := TX8) (N := 27) (t_X8_thrown (P := fun r9 => r9 = M2.1 140 0) rfl) w_L_149 cw_X8_thrown np_X8_thrown rfl (by decide) rfl (by decide) rfl (Nat.le_of_ble_eq_true rfl) (Nat.le_of_ble_eq_true rfl) (rm_c (by omega)) (rm_s (by omega)) rfl (Nat.le_of_ble_eq_true rfl) dL_law__629 (q := 632) rfl ?_
    rintro _ M3 ⟨r3, rfl, rfl, e9⟩
    obtain rfl := e9.symm
    refine T.ild_5 (q := 634) dL_law__632 rfl ?_
    refine T.ic_eq (tgt := 639) (q := 637) dL_law__634 (by decide) rfl (fun _ => ?_) (fun h8 => absurd e0 h8)
    refine T.ild_5 (q := 641) dL_law__639 rfl ?_
    refine T.if_ne (tgt := 656) (q := 644) dL_law__641 (by decide) rfl (fun _ => ?_) (fun h8 => absurd h8 (lnz hj))
    refine T.goto (tgt := 2945) dL_law__656 (by decide) ?_
    exact T.drop_5 (T.drop_6 (TJ.wide (by omega) (by omega) (kk _ hI)))
theorem lwc_8 {G : sk_G} {b L : Nat} {ys : Nat → Int32} {M : sk_M} {i : Int32} {cells slots : Nat} (h : Inv M) (hv : lwv i L) (hc : cells + 8 ≤ 601024) (hs : slots + 48 ≤ 7293033) (kk : ∀ M0, Inv M0 → TJ G mL_law_ room_1 (lw_E G b L ys) (cells + 8) (slots + 48) 2945 [some (.ref b), some (.ref (G.2.2.1 120)), some (.ref (G.2.2.1 140)), some (.ref (G.2.2.1 158)), some (.int i), none, none] [] M0) : TJ G mL_law_ room_1 (lw_E G b L ys) cells slots 659 [some (.ref b), some (.ref (G.2.2.1 120)), some (.ref (G.2.2.1 140)), some (.ref (G.2.2.1 158)), some (.int i), none, none] [] M := by
  obtain ⟨A1, hA1⟩ : ∃ z, z = ys (i + 1).toNatClampNeg := ⟨_, rfl⟩
  obtain ⟨A2, hA2⟩ : ∃ z, z = ys (i + 2).toNatClampNeg := ⟨_, rfl⟩
  obtain ⟨A3, hA3⟩ : ∃ z, z = ys (i + 3).toNatClampNeg := ⟨_, rfl⟩
  obtain ⟨A4, hA4⟩ : ∃ z, z = ys (i + 4).toNatClampNeg := ⟨_, rfl⟩
  obtain ⟨A5, hA5⟩ : ∃ z, z = ys (i + 5).toNatClampNeg := ⟨_, rfl⟩
  refine T.ald_1 (q := 660) dL_law__659 rfl ?_
  refine T.ald_0 (q := 661) dL_law__660 rfl ?_
  refine T.ild_4 (q := 663) dL_law__661 rfl ?_
  refine T.iconst (q := 664) (1) dL_law__663 rfl (by decide) ?_
  refine T.iadd (q := 665) dL_law__664 rfl ?_
  refine T.sld hv.2.1 hA1 dL_law__665 (q := 666) rfl ?_
  refine T.ald_0 (q := 667) dL_law__666 rfl ?_
  refine T.ild_4 (q := 669) dL_law__667 rfl ?_
  refine T.iconst (q := 670) (2) dL_law__669 rfl (by decide) ?_
  refine T.iadd (q := 671) dL_law__670 rfl ?_
  refine T.sld hv.2.2.1 hA2 dL_law__671 (q := 672) rfl ?_
  refine T.ald_0 (q := 673) dL_law__672 rfl ?_
  refine T.ild_4 (q := 675) dL_law__673 rfl ?_
  refine T.iconst (q := 676) (3) dL_law__675 rfl (by decide) ?_
  refine T.iadd (q := 677) dL_law__676 rfl ?_
  refine T.sld hv.2.2.2.1 hA3 dL_law__677 (q := 678) rfl ?_
  refine T.ald_0 (q := 679) dL_law__678 rfl ?_
  refine T.ild_4 (q := 681) dL_law__679 rfl ?_
  refine T.iconst (q := 682) (4) dL_law__681 rfl (by decide) ?_
  refine T.iadd (q := 683) dL_law__682 rfl ?_
  refine T.sld hv.2.2.2.2.1 hA4 dL_law__683 (q := 684) rfl ?_
  refine T.if_eq (tgt := 691) (q := 687) dL_law__684 (by decide) rfl (fun z684 => ?_) (fun z684 => ?_)
  · skip
    refine T.iconst (q := 692) (0) dL_law__691 rfl (by decide) ?_
    refine T.ald_3 (q := 693) dL_law__692 rfl ?_
    refine T.cSH (As := [.ref (G.2.2.1 120), .int A1, .int A2, .int A3, .int (0 : Int32), .ref (G.2.2.1 158)]) (rest := []) (t_L_wheel (Q0 := fun M1 => w_X8_wheel A1 A2 A3 (0 : Int32) M1 (fun b9 M2 => M2.1 140 0 = 0 ∧ M2.2 158 0 = b9.toInt64 ∧ Inv M2)) (QX := fun j M1 => w_X8_wheel A1 A2 A3 (0 : Int32) M1 (fun _ M2 => M2.1 140 0 = nI (j + 1) ∧ Inv M2)) (st_wheel h A1 A2 A3 (0 : Int32)).go) w_L_170 cw_L_wheel np_L_wheel (Nat.le_of_ble_eq_true rfl) (Nat.le_of_ble_eq_true rfl) (rm_c (by omega)) (rm_s (by omega)) rfl (Nat.le_of_ble_eq_true rfl) dL_law__693 (q := 696) rfl ?_
    rintro _ M9 ⟨k, rfl, h9⟩
    rcases h9 with ⟨rfl, h9⟩ | ⟨j, rfl, hj, h9⟩
    · skip
      refine T.ist_5 (q := 698) dL_law__696 rfl (by decide) sk_ok_i ?_
      refine T.ald_2 (q := 699) dL_law__698 rfl ?_
      refine T.ald_0 (q := 700) dL_law__699 rfl ?_
      refine T.ild_4 (q := 702) dL_law__700 rfl ?_
      refine T.iconst (q := 703) (1) dL_law__702 rfl (by decide) ?_
      refine T.iadd (q := 704) dL_law__703 rfl ?_
      refine T.sld hv.2.1 hA1 dL_law__704 (q := 705) rfl ?_
      refine T.ald_0 (q := 706) dL_law__705 rfl ?_
      refine T.ild_4 (q := 708) dL_law__706 rfl ?_
      refine T.iconst (q := 709) (2) dL_law__708 rfl (by decide) ?_
      refine T.iadd (q := 710) dL_law__709 rfl ?_
      refine T.sld hv.2.2.1 hA2 dL_law__710 (q := 711) rfl ?_
      refine T.ald_0 (q := 712) dL_law__711 rfl ?_
      refine T.ild_4 (q := 714) dL_law__712 rfl ?_
      refine T.iconst (q := 715) (3) dL_law__714 rfl (by decide) ?_
      refine T.iadd (q := 716) dL_law__715 rfl ?_
      refine T.sld hv.2.2.2.1 hA3 dL_law__716 (q := 717) rfl ?_
      refine T.ald_0 (q := 718) dL_law__717 rfl ?_
      refine T.ild_4 (q := 720) dL_law__718 rfl ?_
      refine T.iconst (q := 721) (4) dL_law__720 rfl (by decide) ?_
      refine T.iadd (q := 722) dL_law__721 rfl ?_
      refine T.sld hv.2.2.2.2.1 hA4 dL_law__722 (q := 723) rfl ?_
      refine T.if_eq (tgt := 730) (q := 726) dL_law__723 (by decide) rfl (fun _ => ?_) (fun h8 => absurd z684 h8)
      refine T.iconst (q := 731) (0) dL_law__730 rfl (by decide) ?_
      refine T.cV (As := [.int A1, .int A2, .int A3, .int (0 : Int32)]) (c := 140) (ci := 8) (C := RX8) (T := TX8) (N := 27) (t_X8_wheel h9) w_L_173 cw_X8_wheel np_X8_wheel rfl (by decide) rfl (by decide) rfl (Nat.le_of_ble_eq_true rfl) (Nat.le_of_ble_eq_true rfl) (rm_c (by omega)) (rm_s (by omega)) rfl (Nat.le_of_ble_eq_true rfl) dL_law__731 (q := 734) rfl ?_
      rintro _ M2 ⟨b9, rfl, e0, e1, hI⟩
      refine T.ist_6 (q := 736) dL_law__734 rfl (by decide) sk_ok_i ?_
      refine T.ald_2 (q := 737) dL_law__736 rfl ?_
      refine T.cV (As := []) (c := 140) (ci := 8) (C := RX8) (T := TX8) (N := 27) (t_X8_thrown (P := fun r9 => r9 = M2.1 140 0) rfl) w_L_149 cw_X8_thrown np_X8_thrown rfl (by decide) rfl (by decide) rfl (Nat.le_of_ble_eq_true rfl) (Nat.le_of_ble_eq_true rfl) (rm_c (by omega)) (rm_s (by omega)) rfl (Nat.le_of_ble_eq_true rfl) dL_law__737 (q := 740) rfl ?_
      rintro _ M3 ⟨r3, rfl, rfl, e9⟩
      obtain rfl := e9.symm
      refine T.ild_5 (q := 742) dL_law__740 rfl ?_
      refine T.ic_eq (tgt := 747) (q := 745) dL_law__742 (by decide) rfl (fun _ => ?_) (fun h8 => absurd e0 h8)
      refine T.ild_5 (q := 749) dL_law__747 rfl ?_
      refine T.if_ne (tgt := 764) (q := 752) dL_law__749 (by decide) rfl (fun h8 => absurd rfl h8) (fun _ => ?_)
      refine T.ald_3 (q := 753) dL_law__752 rfl ?_
      refine T.iconst (q := 754) (0) dL_law__753 rfl (by decide) ?_
      refine T.laldk (n := 1) rfl rfl (by decide) dL_law__754 (q := 755) rfl (k9 := 0) (by decide) ?_
      refine T.ild_6 (q := 757) dL_law__755 rfl ?_
      refine T.i2l (q := 758) dL_law__757 rfl ?_
      refine T.lcmp (q := 759) dL_law__758 rfl ?_
      refine T.if_eq (tgt := 764) (q := 762) dL_law__759 (by decide) rfl (fun _ => ?_) (fun h8 => absurd (lgc e1) h8)
      refine T.goto (tgt := 2945) dL_law__764 (by decide) ?_
      exact T.drop_5 (T.drop_6 (TJ.wide (by omega) (by omega) (kk _ hI)))
    · skip
      refine T.ist_5 (q := 698) dL_law__696 rfl (by decide) sk_ok_i ?_
      refine T.ald_2 (q := 699) dL_law__698 rfl ?_
      refine T.ald_0 (q := 700) dL_law__699 rfl ?_
      refine T.ild_4 (q := 702) dL_law__700 rfl ?_
      refine T.iconst (q := 703) (1) dL_law__702 rfl (by decide) ?_
      refine T.iadd (q := 704) dL_law__703 rfl ?_
      refine T.sld hv.2.1 hA1 dL_law__704 (q := 705) rfl ?_
      refine T.ald_0 (q := 706) dL_law__705 rfl ?_
      refine T.ild_4 (q := 708) dL_law__706 rfl ?_
      refine T.iconst (q := 709) (2) dL_law__708 rfl (by decide) ?_
      refine T.iadd (q := 710) dL_law__709 rfl ?_
      refine T.sld hv.2.2.1 hA2 dL_law__710 (q := 711) rfl ?_
      refine T.ald_0 (q := 712) dL_law__711 rfl ?_
      refine T.ild_4 (q := 714) dL_law__712 rfl ?_
      refine T.iconst (q := 715) (3) dL_law__714 rfl (by decide) ?_
      refine T.iadd (q := 716) dL_law__715 rfl ?_
      refine T.sld hv.2.2.2.1 hA3 dL_law__716 (q := 717) rfl ?_
      refine T.ald_0 (q := 718) dL_law__717 rfl ?_
      refine T.ild_4 (q := 720) dL_law__718 rfl ?_
      refine T.iconst (q := 721) (4) dL_law__720 rfl (by decide) ?_
      refine T.iadd (q := 722) dL_law__721 rfl ?_
      refine T.sld hv.2.2.2.2.1 hA4 dL_law__722 (q := 723) rfl ?_
      refine T.if_eq (tgt := 730) (q := 726) dL_law__723 (by decide) rfl (fun _ => ?_) (fun h8 => absurd z684 h8)
      refine T.iconst (q := 731) (0) dL_law__730 rfl (by decide) ?_
      refine T.cV (As := [.int A1, .int A2, .int A3, .int (0 : Int32)]) (c := 140) (ci := 8) (C := RX8) (T := TX8) (N := 27) (t_X8_wheel h9) w_L_173 cw_X8_wheel np_X8_wheel rfl (by decide) rfl (by decide) rfl (Nat.le_of_ble_eq_true rfl) (Nat.le_of_ble_eq_true rfl) (rm_c (by omega)) (rm_s (by omega)) rfl (Nat.le_of_ble_eq_true rfl) dL_law__731 (q := 734) rfl ?_
      rintro _ M2 ⟨b9, rfl, e0, hI⟩
      refine T.ist_6 (q := 736) dL_law__734 rfl (by decide) sk_ok_i ?_
      refine T.ald_2 (q := 737) dL_law__736 rfl ?_
      refine T.cV (As := []) (c := 140) (ci := 8) (C := RX8) (T := TX8) (N := 27) (t_X8_thrown (P := fun r9 => r9 = M2.1 140 0) rfl) w_L_149 cw_X8_thrown np_X8_thrown rfl (by decide) rfl (by decide) rfl (Nat.le_of_ble_eq_true rfl) (Nat.le_of_ble_eq_true rfl) (rm_c (by omega)) (rm_s (by omega)) rfl (Nat.le_of_ble_eq_true rfl) dL_law__737 (q := 740) rfl ?_
      rintro _ M3 ⟨r3, rfl, rfl, e9⟩
      obtain rfl := e9.symm
      refine T.ild_5 (q := 742) dL_law__740 rfl ?_
      refine T.ic_eq (tgt := 747) (q := 745) dL_law__742 (by decide) rfl (fun _ => ?_) (fun h8 => absurd e0 h8)
      refine T.ild_5 (q := 749) dL_law__747 rfl ?_
      refine T.if_ne (tgt := 764) (q := 752) dL_law__749 (by decide) rfl (fun _ => ?_) (fun h8 => absurd h8 (lnz hj))
      refine T.goto (tgt := 2945) dL_law__764 (by decide) ?_
      exact T.drop_5 (T.drop_6 (TJ.wide (by omega) (by omega) (kk _ hI)))
  · skip
    refine T.iconst (q := 688) (1) dL_law__687 rfl (by decide) ?_
    refine T.goto (tgt := 692) dL_law__688 (by decide) ?_
    refine T.ald_3 (q := 693) dL_law__692 rfl ?_
    refine T.cSH (As := [.ref (G.2.2.1 120), .int A1, .int A2, .int A3, .int (1 : Int32), .ref (G.2.2.1 158)]) (rest := []) (t_L_wheel (Q0 := fun M1 => w_X8_wheel A1 A2 A3 (1 : Int32) M1 (fun b9 M2 => M2.1 140 0 = 0 ∧ M2.2 158 0 = b9.toInt64 ∧ Inv M2)) (QX := fun j M1 => w_X8_wheel A1 A2 A3 (1 : Int32) M1 (fun _ M2 => M2.1 140 0 = nI (j + 1) ∧ Inv M2)) (st_wheel h A1 A2 A3 (1 : Int32)).go) w_L_170 cw_L_wheel np_L_wheel (Nat.le_of_ble_eq_true rfl) (Nat.le_of_ble_eq_true rfl) (rm_c (by omega)) (rm_s (by omega)) rfl (Nat.le_of_ble_eq_true rfl) dL_law__693 (q := 696) rfl ?_
    rintro _ M9 ⟨k, rfl, h9⟩
    rcases h9 with ⟨rfl, h9⟩ | ⟨j, rfl, hj, h9⟩
    · skip
      refine T.ist_5 (q := 698) dL_law__696 rfl (by decide) sk_ok_i ?_
      refine T.ald_2 (q := 699) dL_law__698 rfl ?_
      refine T.ald_0 (q := 700) dL_law__699 rfl ?_
      refine T.ild_4 (q := 702) dL_law__700 rfl ?_
      refine T.iconst (q := 703) (1) dL_law__702 rfl (by decide) ?_
      refine T.iadd (q := 704) dL_law__703 rfl ?_
      refine T.sld hv.2.1 hA1 dL_law__704 (q := 705) rfl ?_
      refine T.ald_0 (q := 706) dL_law__705 rfl ?_
      refine T.ild_4 (q := 708) dL_law__706 rfl ?_
      refine T.iconst (q := 709) (2) dL_law__708 rfl (by decide) ?_
      refine T.iadd (q := 710) dL_law__709 rfl ?_
      refine T.sld hv.2.2.1 hA2 dL_law__710 (q := 711) rfl ?_
      refine T.ald_0 (q := 712) dL_law__711 rfl ?_
      refine T.ild_4 (q := 714) dL_law__712 rfl ?_
      refine T.iconst (q := 715) (3) dL_law__714 rfl (by decide) ?_
      refine T.iadd (q := 716) dL_law__715 rfl ?_
      refine T.sld hv.2.2.2.1 hA3 dL_law__716 (q := 717) rfl ?_
      refine T.ald_0 (q := 718) dL_law__717 rfl ?_
      refine T.ild_4 (q := 720) dL_law__718 rfl ?_
      refine T.iconst (q := 721) (4) dL_law__720 rfl (by decide) ?_
      refine T.iadd (q := 722) dL_law__721 rfl ?_
      refine T.sld hv.2.2.2.2.1 hA4 dL_law__722 (q := 723) rfl ?_
      refine T.if_eq (tgt := 730) (q := 726) dL_law__723 (by decide) rfl (fun h8 => absurd h8 z684) (fun _ => ?_)
      refine T.iconst (q := 727) (1) dL_law__726 rfl (by decide) ?_
      refine T.goto (tgt := 731) dL_law__727 (by decide) ?_
      refine T.cV (As := [.int A1, .int A2, .int A3, .int (1 : Int32)]) (c := 140) (ci := 8) (C := RX8) (T := TX8) (N := 27) (t_X8_wheel h9) w_L_173 cw_X8_wheel np_X8_wheel rfl (by decide) rfl (by decide) rfl (Nat.le_of_ble_eq_true rfl) (Nat.le_of_ble_eq_true rfl) (rm_c (by omega)) (rm_s (by omega)) rfl (Nat.le_of_ble_eq_true rfl) dL_law__731 (q := 734) rfl ?_
      rintro _ M2 ⟨b9, rfl, e0, e1, hI⟩
      refine T.ist_6 (q := 736) dL_law__734 rfl (by decide) sk_ok_i ?_
      refine T.ald_2 (q := 737) dL_law__736 rfl ?_
      refine T.cV (As := []) (c := 140) (ci := 8) (C := RX8) (T := TX8) (N := 27) (t_X8_thrown (P := fun r9 => r9 = M2.1 140 0) rfl) w_L_149 cw_X8_thrown np_X8_thrown rfl (by decide) rfl (by decide) rfl (Nat.le_of_ble_eq_true rfl) (Nat.le_of_ble_eq_true rfl) (rm_c (by omega)) (rm_s (by omega)) rfl (Nat.le_of_ble_eq_true rfl) dL_law__737 (q := 740) rfl ?_
      rintro _ M3 ⟨r3, rfl, rfl, e9⟩
      obtain rfl := e9.symm
      refine T.ild_5 (q := 742) dL_law__740 rfl ?_
      refine T.ic_eq (tgt := 747) (q := 745) dL_law__742 (by decide) rfl (fun _ => ?_) (fun h8 => absurd e0 h8)
      refine T.ild_5 (q := 749) dL_law__747 rfl ?_
      refine T.if_ne (tgt := 764) (q := 752) dL_law__749 (by decide) rfl (fun h8 => absurd rfl h8) (fun _ => ?_)
      refine T.ald_3 (q := 753) dL_law__752 rfl ?_
      refine T.iconst (q := 754) (0) dL_law__753 rfl (by decide) ?_
      refine T.laldk (n := 1) rfl rfl (by decide) dL_law__754 (q := 755) rfl (k9 := 0) (by decide) ?_
      refine T.ild_6 (q := 757) dL_law__755 rfl ?_
      refine T.i2l (q := 758) dL_law__757 rfl ?_
      refine T.lcmp (q := 759) dL_law__758 rfl ?_
      refine T.if_eq (tgt := 764) (q := 762) dL_law__759 (by decide) rfl (fun _ => ?_) (fun h8 => absurd (lgc e1) h8)
      refine T.goto (tgt := 2945) dL_law__764 (by decide) ?_
      exact T.drop_5 (T.drop_6 (TJ.wide (by omega) (by omega) (kk _ hI)))
    · skip
      refine T.ist_5 (q := 698) dL_law__696 rfl (by decide) sk_ok_i ?_
      refine T.ald_2 (q := 699) dL_law__698 rfl ?_
      refine T.ald_0 (q := 700) dL_law__699 rfl ?_
      refine T.ild_4 (q := 702) dL_law__700 rfl ?_
      refine T.iconst (q := 703) (1) dL_law__702 rfl (by decide) ?_
      refine T.iadd (q := 704) dL_law__703 rfl ?_
      refine T.sld hv.2.1 hA1 dL_law__704 (q := 705) rfl ?_
      refine T.ald_0 (q := 706) dL_law__705 rfl ?_
      refine T.ild_4 (q := 708) dL_law__706 rfl ?_
      refine T.iconst (q := 709) (2) dL_law__708 rfl (by decide) ?_
      refine T.iadd (q := 710) dL_law__709 rfl ?_
      refine T.sld hv.2.2.1 hA2 dL_law__710 (q := 711) rfl ?_
      refine T.ald_0 (q := 712) dL_law__711 rfl ?_
      refine T.ild_4 (q := 714) dL_law__712 rfl ?_
      refine T.iconst (q := 715) (3) dL_law__714 rfl (by decide) ?_
      refine T.iadd (q := 716) dL_law__715 rfl ?_
      refine T.sld hv.2.2.2.1 hA3 dL_law__716 (q := 717) rfl ?_
      refine T.ald_0 (q := 718) dL_law__717 rfl ?_
      refine T.ild_4 (q := 720) dL_law__718 rfl ?_
      refine T.iconst (q := 721) (4) dL_law__720 rfl (by decide) ?_
      refine T.iadd (q := 722) dL_law__721 rfl ?_
      refine T.sld hv.2.2.2.2.1 hA4 dL_law__722 (q := 723) rfl ?_
      refine T.if_eq (tgt := 730) (q := 726) dL_law__723 (by decide) rfl (fun h8 => absurd h8 z684) (fun _ => ?_)
      refine T.iconst (q := 727) (1) dL_law__726 rfl (by decide) ?_
      refine T.goto (tgt := 731) dL_law__727 (by decide) ?_
      refine T.cV (As := [.int A1, .int A2, .int A3, .int (1 : Int32)]) (c := 140) (ci := 8) (C := RX8) (T := TX8) (N := 27) (t_X8_wheel h9) w_L_173 cw_X8_wheel np_X8_wheel rfl (by decide) rfl (by decide) rfl (Nat.le_of_ble_eq_true rfl) (Nat.le_of_ble_eq_true rfl) (rm_c (by omega)) (rm_s (by omega)) rfl (Nat.le_of_ble_eq_true rfl) dL_law__731 (q := 734) rfl ?_
      rintro _ M2 ⟨b9, rfl, e0, hI⟩
      refine T.ist_6 (q := 736) dL_law__734 rfl (by decide) sk_ok_i ?_
      refine T.ald_2 (q := 737) dL_law__736 rfl ?_
      refine T.cV (As := []) (c := 140) (ci := 8) (C := RX8) (T := TX8) (N := 27) (t_X8_thrown (P := fun r9 => r9 = M2.1 140 0) rfl) w_L_149 cw_X8_thrown np_X8_thrown rfl (by decide) rfl (by decide) rfl (Nat.le_of_ble_eq_true rfl) (Nat.le_of_ble_eq_true rfl) (rm_c (by omega)) (rm_s (by omega)) rfl (Nat.le_of_ble_eq_true rfl) dL_law__737 (q := 740) rfl ?_
      rintro _ M3 ⟨r3, rfl, rfl, e9⟩
      obtain rfl := e9.symm
      refine T.ild_5 (q := 742) dL_law__740 rfl ?_
      refine T.ic_eq (tgt := 747) (q := 745) dL_law__742 (by decide) rfl (fun _ => ?_) (fun h8 => absurd e0 h8)
      refine T.ild_5 (q := 749) dL_law__747 rfl ?_
      refine T.if_ne (tgt := 764) (q := 752) dL_law__749 (by decide) rfl (fun _ => ?_) (fun h8 => absurd h8 (lnz hj))
      refine T.goto (tgt := 2945) dL_law__764 (by decide) ?_
      exact T.drop_5 (T.drop_6 (TJ.wide (by omega) (by omega) (kk _ hI)))
theorem lwc_9 {G : sk_G} {b L : Nat} {ys : Nat → Int32} {M : sk_M} {i : Int32} {cells slots : Nat} (h : Inv M) (hv : lwv i L) (hc : cells + 8 ≤ 601024) (hs : slots + 48 ≤ 7293033) (kk : ∀ M0, Inv M0 → TJ G mL_law_ room_1 (lw_E G b L ys) (cells + 8) (slots + 48) 2945 [some (.ref b), some (.ref (G.2.2.1 120)), some (.ref (G.2.2.1 140)), some (.ref (G.2.2.1 158)), some (.int i), none, none] [] M0) : TJ G mL_law_ room_1 (lw_E G b L ys) cells slots 767 [some (.ref b), some (.ref (G.2.2.1 120)), some (.ref (G.2.2.1 140)), some (.ref (G.2.2.1 158)), some (.int i), none, none] [] M := by
  obtain ⟨A1, hA1⟩ : ∃ z, z = ys (i + 1).toNatClampNeg := ⟨_, rfl⟩
  obtain ⟨A2, hA2⟩ : ∃ z, z = ys (i + 2).toNatClampNeg := ⟨_, rfl⟩
  obtain ⟨A3, hA3⟩ : ∃ z, z = ys (i + 3).toNatClampNeg := ⟨_, rfl⟩
  obtain ⟨A4, hA4⟩ : ∃ z, z = ys (i + 4).toNatClampNeg := ⟨_, rfl⟩
  obtain ⟨A5, hA5⟩ : ∃ z, z = ys (i + 5).toNatClampNeg := ⟨_, rfl⟩
  refine T.ald_1 (q := 768) dL_law__767 rfl ?_
  refine T.ald_0 (q := 769) dL_law__768 rfl ?_
  refine T.ild_4 (q := 771) dL_law__769 rfl ?_
  refine T.iconst (q := 772) (1) dL_law__771 rfl (by decide) ?_
  refine T.iadd (q := 773) dL_law__772 rfl ?_
  refine T.sld hv.2.1 hA1 dL_law__773 (q := 774) rfl ?_
  refine T.ald_0 (q := 775) dL_law__774 rfl ?_
  refine T.ild_4 (q := 777) dL_law__775 rfl ?_
  refine T.iconst (q := 778) (2) dL_law__777 rfl (by decide) ?_
  refine T.iadd (q := 779) dL_law__778 rfl ?_
  refine T.sld hv.2.2.1 hA2 dL_law__779 (q := 780) rfl ?_
  refine T.ald_0 (q := 781) dL_law__780 rfl ?_
  refine T.ild_4 (q := 783) dL_law__781 rfl ?_
  refine T.iconst (q := 784) (3) dL_law__783 rfl (by decide) ?_
  refine T.iadd (q := 785) dL_law__784 rfl ?_
  refine T.sld hv.2.2.2.1 hA3 dL_law__785 (q := 786) rfl ?_
  refine T.ald_3 (q := 787) dL_law__786 rfl ?_
  refine T.cSH (As := [.ref (G.2.2.1 120), .int A1, .int A2, .int A3, .ref (G.2.2.1 158)]) (rest := []) (t_L_click (Q0 := fun M1 => w_X8_click A1 A2 A3 M1 (fun b9 M2 => M2.1 140 0 = 0 ∧ M2.2 158 0 = b9.toInt64 ∧ Inv M2)) (QX := fun j M1 => w_X8_click A1 A2 A3 M1 (fun _ M2 => M2.1 140 0 = nI (j + 1) ∧ Inv M2)) (st_click h A1 A2 A3).go) w_L_174 cw_L_click np_L_click (Nat.le_of_ble_eq_true rfl) (Nat.le_of_ble_eq_true rfl) (rm_c (by omega)) (rm_s (by omega)) rfl (Nat.le_of_ble_eq_true rfl) dL_law__787 (q := 790) rfl ?_
  rintro _ M9 ⟨k, rfl, h9⟩
  rcases h9 with ⟨rfl, h9⟩ | ⟨j, rfl, hj, h9⟩
  · skip
    refine T.ist_5 (q := 792) dL_law__790 rfl (by decide) sk_ok_i ?_
    refine T.ald_2 (q := 793) dL_law__792 rfl ?_
    refine T.ald_0 (q := 794) dL_law__793 rfl ?_
    refine T.ild_4 (q := 796) dL_law__794 rfl ?_
    refine T.iconst (q := 797) (1) dL_law__796 rfl (by decide) ?_
    refine T.iadd (q := 798) dL_law__797 rfl ?_
    refine T.sld hv.2.1 hA1 dL_law__798 (q := 799) rfl ?_
    refine T.ald_0 (q := 800) dL_law__799 rfl ?_
    refine T.ild_4 (q := 802) dL_law__800 rfl ?_
    refine T.iconst (q := 803) (2) dL_law__802 rfl (by decide) ?_
    refine T.iadd (q := 804) dL_law__803 rfl ?_
    refine T.sld hv.2.2.1 hA2 dL_law__804 (q := 805) rfl ?_
    refine T.ald_0 (q := 806) dL_law__805 rfl ?_
    refine T.ild_4 (q := 808) dL_law__806 rfl ?_
    refine T.iconst (q := 809) (3) dL_law__808 rfl (by decide) ?_
    refine T.iadd (q := 810) dL_law__809 rfl ?_
    refine T.sld hv.2.2.2.1 hA3 dL_law__810 (q := 811) rfl ?_
    refine T.cV (As := [.int A1, .int A2, .int A3]) (c := 140) (ci := 8) (C := RX8) (T := TX8) (N := 27) (t_X8_click h9) w_L_176 cw_X8_click np_X8_click rfl (by decide) rfl (by decide) rfl (Nat.le_of_ble_eq_true rfl) (Nat.le_of_ble_eq_true rfl) (rm_c (by omega)) (rm_s (by omega)) rfl (Nat.le_of_ble_eq_true rfl) dL_law__811 (q := 814) rfl ?_
    rintro _ M2 ⟨b9, rfl, e0, e1, hI⟩
    refine T.ist_6 (q := 816) dL_law__814 rfl (by decide) sk_ok_i ?_
    refine T.ald_2 (q := 817) dL_law__816 rfl ?_
    refine T.cV (As := []) (c := 140) (ci := 8) (C := RX8) (T := TX8) (N := 27) (t_X8_thrown (P := fun r9 => r9 = M2.1 140 0) rfl) w_L_149 cw_X8_thrown np_X8_thrown rfl (by decide) rfl (by decide) rfl (Nat.le_of_ble_eq_true rfl) (Nat.le_of_ble_eq_true rfl) (rm_c (by omega)) (rm_s (by omega)) rfl (Nat.le_of_ble_eq_true rfl) dL_law__817 (q := 820) rfl ?_
    rintro _ M3 ⟨r3, rfl, rfl, e9⟩
    obtain rfl := e9.symm
    refine T.ild_5 (q := 822) dL_law__820 rfl ?_
    refine T.ic_eq (tgt := 827) (q := 825) dL_law__822 (by decide) rfl (fun _ => ?_) (fun h8 => absurd e0 h8)
    refine T.ild_5 (q := 829) dL_law__827 rfl ?_
    refine T.if_ne (tgt := 844) (q := 832) dL_law__829 (by decide) rfl (fun h8 => absurd rfl h8) (fun _ => ?_)
    refine T.ald_3 (q := 833) dL_law__832 rfl ?_
    refine T.iconst (q := 834) (0) dL_law__833 rfl (by decide) ?_
    refine T.laldk (n := 1) rfl rfl (by decide) dL_law__834 (q := 835) rfl (k9 := 0) (by decide) ?_
    refine T.ild_6 (q := 837) dL_law__835 rfl ?_
    refine T.i2l (q := 838) dL_law__837 rfl ?_
    refine T.lcmp (q := 839) dL_law__838 rfl ?_
    refine T.if_eq (tgt := 844) (q := 842) dL_law__839 (by decide) rfl (fun _ => ?_) (fun h8 => absurd (lgc e1) h8)
    refine T.goto (tgt := 2945) dL_law__844 (by decide) ?_
    exact T.drop_5 (T.drop_6 (TJ.wide (by omega) (by omega) (kk _ hI)))
  · skip
    refine T.ist_5 (q := 792) dL_law__790 rfl (by decide) sk_ok_i ?_
    refine T.ald_2 (q := 793) dL_law__792 rfl ?_
    refine T.ald_0 (q := 794) dL_law__793 rfl ?_
    refine T.ild_4 (q := 796) dL_law__794 rfl ?_
    refine T.iconst (q := 797) (1) dL_law__796 rfl (by decide) ?_
    refine T.iadd (q := 798) dL_law__797 rfl ?_
    refine T.sld hv.2.1 hA1 dL_law__798 (q := 799) rfl ?_
    refine T.ald_0 (q := 800) dL_law__799 rfl ?_
    refine T.ild_4 (q := 802) dL_law__800 rfl ?_
    refine T.iconst (q := 803) (2) dL_law__802 rfl (by decide) ?_
    refine T.iadd (q := 804) dL_law__803 rfl ?_
    refine T.sld hv.2.2.1 hA2 dL_law__804 (q := 805) rfl ?_
    refine T.ald_0 (q := 806) dL_law__805 rfl ?_
    refine T.ild_4 (q := 808) dL_law__806 rfl ?_
    refine T.iconst (q := 809) (3) dL_law__808 rfl (by decide) ?_
    refine T.iadd (q := 810) dL_law__809 rfl ?_
    refine T.sld hv.2.2.2.1 hA3 dL_law__810 (q := 811) rfl ?_
    refine T.cV (As := [.int A1, .int A2, .int A3]) (c := 140) (ci := 8) (C := RX8) (T := TX8) (N := 27) (t_X8_click h9) w_L_176 cw_X8_click np_X8_click rfl (by decide) rfl (by decide) rfl (Nat.le_of_ble_eq_true rfl) (Nat.le_of_ble_eq_true rfl) (rm_c (by omega)) (rm_s (by omega)) rfl (Nat.le_of_ble_eq_true rfl) dL_law__811 (q := 814) rfl ?_
    rintro _ M2 ⟨b9, rfl, e0, hI⟩
    refine T.ist_6 (q := 816) dL_law__814 rfl (by decide) sk_ok_i ?_
    refine T.ald_2 (q := 817) dL_law__816 rfl ?_
    refine T.cV (As := []) (c := 140) (ci := 8) (C := RX8) (T := TX8) (N := 27) (t_X8_thrown (P := fun r9 => r9 = M2.1 140 0) rfl) w_L_149 cw_X8_thrown np_X8_thrown rfl (by decide) rfl (by decide) rfl (Nat.le_of_ble_eq_true rfl) (Nat.le_of_ble_eq_true rfl) (rm_c (by omega)) (rm_s (by omega)) rfl (Nat.le_of_ble_eq_true rfl) dL_law__817 (q := 820) rfl ?_
    rintro _ M3 ⟨r3, rfl, rfl, e9⟩
    obtain rfl := e9.symm
    refine T.ild_5 (q := 822) dL_law__820 rfl ?_
    refine T.ic_eq (tgt := 827) (q := 825) dL_law__822 (by decide) rfl (fun _ => ?_) (fun h8 => absurd e0 h8)
    refine T.ild_5 (q := 829) dL_law__827 rfl ?_
    refine T.if_ne (tgt := 844) (q := 832) dL_law__829 (by decide) rfl (fun _ => ?_) (fun h8 => absurd h8 (lnz hj))
    refine T.goto (tgt := 2945) dL_law__844 (by decide) ?_
    exact T.drop_5 (T.drop_6 (TJ.wide (by omega) (by omega) (kk _ hI)))
theorem lwc_10 {G : sk_G} {b L : Nat} {ys : Nat → Int32} {M : sk_M} {i : Int32} {cells slots : Nat} (h : Inv M) (hv : lwv i L) (hc : cells + 8 ≤ 601024) (hs : slots + 48 ≤ 7293033) (kk : ∀ M0, Inv M0 → TJ G mL_law_ room_1 (lw_E G b L ys) (cells + 8) (slots + 48) 2945 [some (.ref b), some (.ref (G.2.2.1 120)), some (.ref (G.2.2.1 140)), some (.ref (G.2.2.1 158)), some (.int i), none, none] [] M0) : TJ G mL_law_ room_1 (lw_E G b L ys) cells slots 847 [some (.ref b), some (.ref (G.2.2.1 120)), some (.ref (G.2.2.1 140)), some (.ref (G.2.2.1 158)), some (.int i), none, none] [] M := by
  obtain ⟨A1, hA1⟩ : ∃ z, z = ys (i + 1).toNatClampNeg := ⟨_, rfl⟩
  obtain ⟨A2, hA2⟩ : ∃ z, z = ys (i + 2).toNatClampNeg := ⟨_, rfl⟩
  obtain ⟨A3, hA3⟩ : ∃ z, z = ys (i + 3).toNatClampNeg := ⟨_, rfl⟩
  obtain ⟨A4, hA4⟩ : ∃ z, z = ys (i + 4).toNatClampNeg := ⟨_, rfl⟩
  obtain ⟨A5, hA5⟩ : ∃ z, z = ys (i + 5).toNatClampNeg := ⟨_, rfl⟩
  refine T.ald_1 (q := 848) dL_law__847 rfl ?_
  refine T.ald_0 (q := 849) dL_law__848 rfl ?_
  refine T.ild_4 (q := 851) dL_law__849 rfl ?_
  refine T.iconst (q := 852) (1) dL_law__851 rfl (by decide) ?_
  refine T.iadd (q := 853) dL_law__852 rfl ?_
  refine T.sld hv.2.1 hA1 dL_law__853 (q := 854) rfl ?_
  refine T.ald_0 (q := 855) dL_law__854 rfl ?_
  refine T.ild_4 (q := 857) dL_law__855 rfl ?_
  refine T.iconst (q := 858) (2) dL_law__857 rfl (by decide) ?_
  refine T.iadd (q := 859) dL_law__858 rfl ?_
  refine T.sld hv.2.2.1 hA2 dL_law__859 (q := 860) rfl ?_
  refine T.ald_3 (q := 861) dL_law__860 rfl ?_
  refine T.cSH (As := [.ref (G.2.2.1 120), .int A1, .int A2, .ref (G.2.2.1 158)]) (rest := []) (t_L_sound (Q0 := fun M1 => w_X8_sound A1 A2 M1 (fun b9 M2 => M2.1 140 0 = 0 ∧ M2.2 158 0 = b9.toInt64 ∧ Inv M2)) (QX := fun j M1 => w_X8_sound A1 A2 M1 (fun _ M2 => M2.1 140 0 = nI (j + 1) ∧ Inv M2)) (st_sound h A1 A2).go) w_L_177 cw_L_sound np_L_sound (Nat.le_of_ble_eq_true rfl) (Nat.le_of_ble_eq_true rfl) (rm_c (by omega)) (rm_s (by omega)) rfl (Nat.le_of_ble_eq_true rfl) dL_law__861 (q := 864) rfl ?_
  rintro _ M9 ⟨k, rfl, h9⟩
  rcases h9 with ⟨rfl, h9⟩ | ⟨j, rfl, hj, h9⟩
  · skip
    refine T.ist_5 (q := 866) dL_law__864 rfl (by decide) sk_ok_i ?_
    refine T.ald_2 (q := 867) dL_law__866 rfl ?_
    refine T.ald_0 (q := 868) dL_law__867 rfl ?_
    refine T.ild_4 (q := 870) dL_law__868 rfl ?_
    refine T.iconst (q := 871) (1) dL_law__870 rfl (by decide) ?_
    refine T.iadd (q := 872) dL_law__871 rfl ?_
    refine T.sld hv.2.1 hA1 dL_law__872 (q := 873) rfl ?_
    refine T.ald_0 (q := 874) dL_law__873 rfl ?_
    refine T.ild_4 (q := 876) dL_law__874 rfl ?_
    refine T.iconst (q := 877) (2) dL_law__876 rfl (by decide) ?_
    refine T.iadd (q := 878) dL_law__877 rfl ?_
    refine T.sld hv.2.2.1 hA2 dL_law__878 (q := 879) rfl ?_
    refine T.cV (As := [.int A1, .int A2]) (c := 140) (ci := 8) (C := RX8) (T := TX8) (N := 27) (t_X8_sound h9) w_L_179 cw_X8_sound np_X8_sound rfl (by decide) rfl (by decide) rfl (Nat.le_of_ble_eq_true rfl) (Nat.le_of_ble_eq_true rfl) (rm_c (by omega)) (rm_s (by omega)) rfl (Nat.le_of_ble_eq_true rfl) dL_law__879 (q := 882) rfl ?_
    rintro _ M2 ⟨b9, rfl, e0, e1, hI⟩
    refine T.ist_6 (q := 884) dL_law__882 rfl (by decide) sk_ok_i ?_
    refine T.ald_2 (q := 885) dL_law__884 rfl ?_
    refine T.cV (As := []) (c := 140) (ci := 8) (C := RX8) (T := TX8) (N := 27) (t_X8_thrown (P := fun r9 => r9 = M2.1 140 0) rfl) w_L_149 cw_X8_thrown np_X8_thrown rfl (by decide) rfl (by decide) rfl (Nat.le_of_ble_eq_true rfl) (Nat.le_of_ble_eq_true rfl) (rm_c (by omega)) (rm_s (by omega)) rfl (Nat.le_of_ble_eq_true rfl) dL_law__885 (q := 888) rfl ?_
    rintro _ M3 ⟨r3, rfl, rfl, e9⟩
    obtain rfl := e9.symm
    refine T.ild_5 (q := 890) dL_law__888 rfl ?_
    refine T.ic_eq (tgt := 895) (q := 893) dL_law__890 (by decide) rfl (fun _ => ?_) (fun h8 => absurd e0 h8)
    refine T.ild_5 (q := 897) dL_law__895 rfl ?_
    refine T.if_ne (tgt := 912) (q := 900) dL_law__897 (by decide) rfl (fun h8 => absurd rfl h8) (fun _ => ?_)
    refine T.ald_3 (q := 901) dL_law__900 rfl ?_
    refine T.iconst (q := 902) (0) dL_law__901 rfl (by decide) ?_
    refine T.laldk (n := 1) rfl rfl (by decide) dL_law__902 (q := 903) rfl (k9 := 0) (by decide) ?_
    refine T.ild_6 (q := 905) dL_law__903 rfl ?_
    refine T.i2l (q := 906) dL_law__905 rfl ?_
    refine T.lcmp (q := 907) dL_law__906 rfl ?_
    refine T.if_eq (tgt := 912) (q := 910) dL_law__907 (by decide) rfl (fun _ => ?_) (fun h8 => absurd (lgc e1) h8)
    refine T.goto (tgt := 2945) dL_law__912 (by decide) ?_
    exact T.drop_5 (T.drop_6 (TJ.wide (by omega) (by omega) (kk _ hI)))
  · skip
    refine T.ist_5 (q := 866) dL_law__864 rfl (by decide) sk_ok_i ?_
    refine T.ald_2 (q := 867) dL_law__866 rfl ?_
    refine T.ald_0 (q := 868) dL_law__867 rfl ?_
    refine T.ild_4 (q := 870) dL_law__868 rfl ?_
    refine T.iconst (q := 871) (1) dL_law__870 rfl (by decide) ?_
    refine T.iadd (q := 872) dL_law__871 rfl ?_
    refine T.sld hv.2.1 hA1 dL_law__872 (q := 873) rfl ?_
    refine T.ald_0 (q := 874) dL_law__873 rfl ?_
    refine T.ild_4 (q := 876) dL_law__874 rfl ?_
    refine T.iconst (q := 877) (2) dL_law__876 rfl (by decide) ?_
    refine T.iadd (q := 878) dL_law__877 rfl ?_
    refine T.sld hv.2.2.1 hA2 dL_law__878 (q := 879) rfl ?_
    refine T.cV (As := [.int A1, .int A2]) (c := 140) (ci := 8) (C := RX8) (T := TX8) (N := 27) (t_X8_sound h9) w_L_179 cw_X8_sound np_X8_sound rfl (by decide) rfl (by decide) rfl (Nat.le_of_ble_eq_true rfl) (Nat.le_of_ble_eq_true rfl) (rm_c (by omega)) (rm_s (by omega)) rfl (Nat.le_of_ble_eq_true rfl) dL_law__879 (q := 882) rfl ?_
    rintro _ M2 ⟨b9, rfl, e0, hI⟩
    refine T.ist_6 (q := 884) dL_law__882 rfl (by decide) sk_ok_i ?_
    refine T.ald_2 (q := 885) dL_law__884 rfl ?_
    refine T.cV (As := []) (c := 140) (ci := 8) (C := RX8) (T := TX8) (N := 27) (t_X8_thrown (P := fun r9 => r9 = M2.1 140 0) rfl) w_L_149 cw_X8_thrown np_X8_thrown rfl (by decide) rfl (by decide) rfl (Nat.le_of_ble_eq_true rfl) (Nat.le_of_ble_eq_true rfl) (rm_c (by omega)) (rm_s (by omega)) rfl (Nat.le_of_ble_eq_true rfl) dL_law__885 (q := 888) rfl ?_
    rintro _ M3 ⟨r3, rfl, rfl, e9⟩
    obtain rfl := e9.symm
    refine T.ild_5 (q := 890) dL_law__888 rfl ?_
    refine T.ic_eq (tgt := 895) (q := 893) dL_law__890 (by decide) rfl (fun _ => ?_) (fun h8 => absurd e0 h8)
    refine T.ild_5 (q := 897) dL_law__895 rfl ?_
    refine T.if_ne (tgt := 912) (q := 900) dL_law__897 (by decide) rfl (fun _ => ?_) (fun h8 => absurd h8 (lnz hj))
    refine T.goto (tgt := 2945) dL_law__912 (by decide) ?_
    exact T.drop_5 (T.drop_6 (TJ.wide (by omega) (by omega) (kk _ hI)))
theorem lwc_11 {G : sk_G} {b L : Nat} {ys : Nat → Int32} {M : sk_M} {i : Int32} {cells slots : Nat} (h : Inv M) (hv : lwv i L) (hc : cells + 8 ≤ 601024) (hs : slots + 48 ≤ 7293033) (kk : ∀ M0, Inv M0 → TJ G mL_law_ room_1 (lw_E G b L ys) (cells + 8) (slots + 48) 2945 [some (.ref b), some (.ref (G.2.2.1 120)), some (.ref (G.2.2.1 140)), some (.ref (G.2.2.1 158)), some (.int i), none, none] [] M0) : TJ G mL_law_ room_1 (lw_E G b L ys) cells slots 915 [some (.ref b), some (.ref (G.2.2.1 120)), some (.ref (G.2.2.1 140)), some (.ref (G.2.2.1 158)), some (.int i), none, none] [] M := by
  obtain ⟨A1, hA1⟩ : ∃ z, z = ys (i + 1).toNatClampNeg := ⟨_, rfl⟩
  obtain ⟨A2, hA2⟩ : ∃ z, z = ys (i + 2).toNatClampNeg := ⟨_, rfl⟩
  obtain ⟨A3, hA3⟩ : ∃ z, z = ys (i + 3).toNatClampNeg := ⟨_, rfl⟩
  obtain ⟨A4, hA4⟩ : ∃ z, z = ys (i + 4).toNatClampNeg := ⟨_, rfl⟩
  obtain ⟨A5, hA5⟩ : ∃ z, z = ys (i + 5).toNatClampNeg := ⟨_, rfl⟩
  refine T.ald_1 (q := 916) dL_law__915 rfl ?_
  refine T.ald_0 (q := 917) dL_law__916 rfl ?_
  refine T.ild_4 (q := 919) dL_law__917 rfl ?_
  refine T.iconst (q := 920) (1) dL_law__919 rfl (by decide) ?_
  refine T.iadd (q := 921) dL_law__920 rfl ?_
  refine T.sld hv.2.1 hA1 dL_law__921 (q := 922) rfl ?_
  refine T.ald_0 (q := 923) dL_law__922 rfl ?_
  refine T.ild_4 (q := 925) dL_law__923 rfl ?_
  refine T.iconst (q := 926) (2) dL_law__925 rfl (by decide) ?_
  refine T.iadd (q := 927) dL_law__926 rfl ?_
  refine T.sld hv.2.2.1 hA2 dL_law__927 (q := 928) rfl ?_
  refine T.ald_0 (q := 929) dL_law__928 rfl ?_
  refine T.ild_4 (q := 931) dL_law__929 rfl ?_
  refine T.iconst (q := 932) (3) dL_law__931 rfl (by decide) ?_
  refine T.iadd (q := 933) dL_law__932 rfl ?_
  refine T.sld hv.2.2.2.1 hA3 dL_law__933 (q := 934) rfl ?_
  refine T.ald_3 (q := 935) dL_law__934 rfl ?_
  refine T.cSH (As := [.ref (G.2.2.1 120), .int A1, .int A2, .int A3, .ref (G.2.2.1 158)]) (rest := []) (t_L_turn (Q0 := fun M1 => w_X8_turn A1 A2 A3 M1 (fun b9 M2 => M2.1 140 0 = 0 ∧ M2.2 158 0 = b9.toInt64 ∧ Inv M2)) (QX := fun j M1 => w_X8_turn A1 A2 A3 M1 (fun _ M2 => M2.1 140 0 = nI (j + 1) ∧ Inv M2)) (st_turn h A1 A2 A3).go) w_L_180 cw_L_turn np_L_turn (Nat.le_of_ble_eq_true rfl) (Nat.le_of_ble_eq_true rfl) (rm_c (by omega)) (rm_s (by omega)) rfl (Nat.le_of_ble_eq_true rfl) dL_law__935 (q := 938) rfl ?_
  rintro _ M9 ⟨k, rfl, h9⟩
  rcases h9 with ⟨rfl, h9⟩ | ⟨j, rfl, hj, h9⟩
  · skip
    refine T.ist_5 (q := 940) dL_law__938 rfl (by decide) sk_ok_i ?_
    refine T.ald_2 (q := 941) dL_law__940 rfl ?_
    refine T.ald_0 (q := 942) dL_law__941 rfl ?_
    refine T.ild_4 (q := 944) dL_law__942 rfl ?_
    refine T.iconst (q := 945) (1) dL_law__944 rfl (by decide) ?_
    refine T.iadd (q := 946) dL_law__945 rfl ?_
    refine T.sld hv.2.1 hA1 dL_law__946 (q := 947) rfl ?_
    refine T.ald_0 (q := 948) dL_law__947 rfl ?_
    refine T.ild_4 (q := 950) dL_law__948 rfl ?_
    refine T.iconst (q := 951) (2) dL_law__950 rfl (by decide) ?_
    refine T.iadd (q := 952) dL_law__951 rfl ?_
    refine T.sld hv.2.2.1 hA2 dL_law__952 (q := 953) rfl ?_
    refine T.ald_0 (q := 954) dL_law__953 rfl ?_
    refine T.ild_4 (q := 956) dL_law__954 rfl ?_
    refine T.iconst (q := 957) (3) dL_law__956 rfl (by decide) ?_
    refine T.iadd (q := 958) dL_law__957 rfl ?_
    refine T.sld hv.2.2.2.1 hA3 dL_law__958 (q := 959) rfl ?_
    refine T.cV (As := [.int A1, .int A2, .int A3]) (c := 140) (ci := 8) (C := RX8) (T := TX8) (N := 27) (t_X8_turn h9) w_L_182 cw_X8_turn np_X8_turn rfl (by decide) rfl (by decide) rfl (Nat.le_of_ble_eq_true rfl) (Nat.le_of_ble_eq_true rfl) (rm_c (by omega)) (rm_s (by omega)) rfl (Nat.le_of_ble_eq_true rfl) dL_law__959 (q := 962) rfl ?_
    rintro _ M2 ⟨b9, rfl, e0, e1, hI⟩
    refine T.ist_6 (q := 964) dL_law__962 rfl (by decide) sk_ok_i ?_
    refine T.ald_2 (q := 965) dL_law__964 rfl ?_
    refine T.cV (As := []) (c := 140) (ci := 8) (C := RX8) (T := TX8) (N := 27) (t_X8_thrown (P := fun r9 => r9 = M2.1 140 0) rfl) w_L_149 cw_X8_thrown np_X8_thrown rfl (by decide) rfl (by decide) rfl (Nat.le_of_ble_eq_true rfl) (Nat.le_of_ble_eq_true rfl) (rm_c (by omega)) (rm_s (by omega)) rfl (Nat.le_of_ble_eq_true rfl) dL_law__965 (q := 968) rfl ?_
    rintro _ M3 ⟨r3, rfl, rfl, e9⟩
    obtain rfl := e9.symm
    refine T.ild_5 (q := 970) dL_law__968 rfl ?_
    refine T.ic_eq (tgt := 975) (q := 973) dL_law__970 (by decide) rfl (fun _ => ?_) (fun h8 => absurd e0 h8)
    refine T.ild_5 (q := 977) dL_law__975 rfl ?_
    refine T.if_ne (tgt := 992) (q := 980) dL_law__977 (by decide) rfl (fun h8 => absurd rfl h8) (fun _ => ?_)
    refine T.ald_3 (q := 981) dL_law__980 rfl ?_
    refine T.iconst (q := 982) (0) dL_law__981 rfl (by decide) ?_
    refine T.laldk (n := 1) rfl rfl (by decide) dL_law__982 (q := 983) rfl (k9 := 0) (by decide) ?_
    refine T.ild_6 (q := 985) dL_law__983 rfl ?_
    refine T.i2l (q := 986) dL_law__985 rfl ?_
    refine T.lcmp (q := 987) dL_law__986 rfl ?_
    refine T.if_eq (tgt := 992) (q := 990) dL_law__987 (by decide) rfl (fun _ => ?_) (fun h8 => absurd (lgc e1) h8)
    refine T.goto (tgt := 2945) dL_law__992 (by decide) ?_
    exact T.drop_5 (T.drop_6 (TJ.wide (by omega) (by omega) (kk _ hI)))
  · skip
    refine T.ist_5 (q := 940) dL_law__938 rfl (by decide) sk_ok_i ?_
    refine T.ald_2 (q := 941) dL_law__940 rfl ?_
    refine T.ald_0 (q := 942) dL_law__941 rfl ?_
    refine T.ild_4 (q := 944) dL_law__942 rfl ?_
    refine T.iconst (q := 945) (1) dL_law__944 rfl (by decide) ?_
    refine T.iadd (q := 946) dL_law__945 rfl ?_
    refine T.sld hv.2.1 hA1 dL_law__946 (q := 947) rfl ?_
    refine T.ald_0 (q := 948) dL_law__947 rfl ?_
    refine T.ild_4 (q := 950) dL_law__948 rfl ?_
    refine T.iconst (q := 951) (2) dL_law__950 rfl (by decide) ?_
    refine T.iadd (q := 952) dL_law__951 rfl ?_
    refine T.sld hv.2.2.1 hA2 dL_law__952 (q := 953) rfl ?_
    refine T.ald_0 (q := 954) dL_law__953 rfl ?_
    refine T.ild_4 (q := 956) dL_law__954 rfl ?_
    refine T.iconst (q := 957) (3) dL_law__956 rfl (by decide) ?_
    refine T.iadd (q := 958) dL_law__957 rfl ?_
    refine T.sld hv.2.2.2.1 hA3 dL_law__958 (q := 959) rfl ?_
    refine T.cV (As := [.int A1, .int A2, .int A3]) (c := 140) (ci := 8) (C := RX8) (T := TX8) (N := 27) (t_X8_turn h9) w_L_182 cw_X8_turn np_X8_turn rfl (by decide) rfl (by decide) rfl (Nat.le_of_ble_eq_true rfl) (Nat.le_of_ble_eq_true rfl) (rm_c (by omega)) (rm_s (by omega)) rfl (Nat.le_of_ble_eq_true rfl) dL_law__959 (q := 962) rfl ?_
    rintro _ M2 ⟨b9, rfl, e0, hI⟩
    refine T.ist_6 (q := 964) dL_law__962 rfl (by decide) sk_ok_i ?_
    refine T.ald_2 (q := 965) dL_law__964 rfl ?_
    refine T.cV (As := []) (c := 140) (ci := 8) (C := RX8) (T := TX8) (N := 27) (t_X8_thrown (P := fun r9 => r9 = M2.1 140 0) rfl) w_L_149 cw_X8_thrown np_X8_thrown rfl (by decide) rfl (by decide) rfl (Nat.le_of_ble_eq_true rfl) (Nat.le_of_ble_eq_true rfl) (rm_c (by omega)) (rm_s (by omega)) rfl (Nat.le_of_ble_eq_true rfl) dL_law__965 (q := 968) rfl ?_
    rintro _ M3 ⟨r3, rfl, rfl, e9⟩
    obtain rfl := e9.symm
    refine T.ild_5 (q := 970) dL_law__968 rfl ?_
    refine T.ic_eq (tgt := 975) (q := 973) dL_law__970 (by decide) rfl (fun _ => ?_) (fun h8 => absurd e0 h8)
    refine T.ild_5 (q := 977) dL_law__975 rfl ?_
    refine T.if_ne (tgt := 992) (q := 980) dL_law__977 (by decide) rfl (fun _ => ?_) (fun h8 => absurd h8 (lnz hj))
    refine T.goto (tgt := 2945) dL_law__992 (by decide) ?_
    exact T.drop_5 (T.drop_6 (TJ.wide (by omega) (by omega) (kk _ hI)))
theorem lwc_12 {G : sk_G} {b L : Nat} {ys : Nat → Int32} {M : sk_M} {i : Int32} {cells slots : Nat} (h : Inv M) (hv : lwv i L) (hc : cells + 8 ≤ 601024) (hs : slots + 48 ≤ 7293033) (kk : ∀ M0, Inv M0 → TJ G mL_law_ room_1 (lw_E G b L ys) (cells + 8) (slots + 48) 2945 [some (.ref b), some (.ref (G.2.2.1 120)), some (.ref (G.2.2.1 140)), some (.ref (G.2.2.1 158)), some (.int i), none, none] [] M0) : TJ G mL_law_ room_1 (lw_E G b L ys) cells slots 995 [some (.ref b), some (.ref (G.2.2.1 120)), some (.ref (G.2.2.1 140)), some (.ref (G.2.2.1 158)), some (.int i), none, none] [] M := by
  obtain ⟨A1, hA1⟩ : ∃ z, z = ys (i + 1).toNatClampNeg := ⟨_, rfl⟩
  obtain ⟨A2, hA2⟩ : ∃ z, z = ys (i + 2).toNatClampNeg := ⟨_, rfl⟩
  obtain ⟨A3, hA3⟩ : ∃ z, z = ys (i + 3).toNatClampNeg := ⟨_, rfl⟩
  obtain ⟨A4, hA4⟩ : ∃ z, z = ys (i + 4).toNatClampNeg := ⟨_, rfl⟩
  obtain ⟨A5, hA5⟩ : ∃ z, z = ys (i + 5).toNatClampNeg := ⟨_, rfl⟩
  refine T.ald_1 (q := 996) dL_law__995 rfl ?_
  refine T.ald_0 (q := 997) dL_law__996 rfl ?_
  refine T.ild_4 (q := 999) dL_law__997 rfl ?_
  refine T.iconst (q := 1000) (1) dL_law__999 rfl (by decide) ?_
  refine T.iadd (q := 1001) dL_law__1000 rfl ?_
  refine T.sld hv.2.1 hA1 dL_law__1001 (q := 1002) rfl ?_
  refine T.ald_0 (q := 1003) dL_law__1002 rfl ?_
  refine T.ild_4 (q := 1005) dL_law__1003 rfl ?_
  refine T.iconst (q := 1006) (2) dL_law__1005 rfl (by decide) ?_
  refine T.iadd (q := 1007) dL_law__1006 rfl ?_
  refine T.sld hv.2.2.1 hA2 dL_law__1007 (q := 1008) rfl ?_
  refine T.ald_0 (q := 1009) dL_law__1008 rfl ?_
  refine T.ild_4 (q := 1011) dL_law__1009 rfl ?_
  refine T.iconst (q := 1012) (3) dL_law__1011 rfl (by decide) ?_
  refine T.iadd (q := 1013) dL_law__1012 rfl ?_
  refine T.sld hv.2.2.2.1 hA3 dL_law__1013 (q := 1014) rfl ?_
  refine T.ald_3 (q := 1015) dL_law__1014 rfl ?_
  refine T.cSH (As := [.ref (G.2.2.1 120), .int A1, .int A2, .int A3, .ref (G.2.2.1 158)]) (rest := []) (t_L_tell (Q0 := fun M1 => w_X8_tell A1 A2 A3 M1 (fun b9 M2 => M2.1 140 0 = 0 ∧ M2.2 158 0 = b9.toInt64 ∧ Inv M2)) (QX := fun j M1 => w_X8_tell A1 A2 A3 M1 (fun _ M2 => M2.1 140 0 = nI (j + 1) ∧ Inv M2)) (st_tell h A1 A2 A3).go) w_L_183 cw_L_tell np_L_tell (Nat.le_of_ble_eq_true rfl) (Nat.le_of_ble_eq_true rfl) (rm_c (by omega)) (rm_s (by omega)) rfl (Nat.le_of_ble_eq_true rfl) dL_law__1015 (q := 1018) rfl ?_
  rintro _ M9 ⟨k, rfl, h9⟩
  rcases h9 with ⟨rfl, h9⟩ | ⟨j, rfl, hj, h9⟩
  · skip
    refine T.ist_5 (q := 1020) dL_law__1018 rfl (by decide) sk_ok_i ?_
    refine T.ald_2 (q := 1021) dL_law__1020 rfl ?_
    refine T.ald_0 (q := 1022) dL_law__1021 rfl ?_
    refine T.ild_4 (q := 1024) dL_law__1022 rfl ?_
    refine T.iconst (q := 1025) (1) dL_law__1024 rfl (by decide) ?_
    refine T.iadd (q := 1026) dL_law__1025 rfl ?_
    refine T.sld hv.2.1 hA1 dL_law__1026 (q := 1027) rfl ?_
    refine T.ald_0 (q := 1028) dL_law__1027 rfl ?_
    refine T.ild_4 (q := 1030) dL_law__1028 rfl ?_
    refine T.iconst (q := 1031) (2) dL_law__1030 rfl (by decide) ?_
    refine T.iadd (q := 1032) dL_law__1031 rfl ?_
    refine T.sld hv.2.2.1 hA2 dL_law__1032 (q := 1033) rfl ?_
    refine T.ald_0 (q := 1034) dL_law__1033 rfl ?_
    refine T.ild_4 (q := 1036) dL_law__1034 rfl ?_
    refine T.iconst (q := 1037) (3) dL_law__1036 rfl (by decide) ?_
    refine T.iadd (q := 1038) dL_law__1037 rfl ?_
    refine T.sld hv.2.2.2.1 hA3 dL_law__1038 (q := 1039) rfl ?_
    refine T.cV (As := [.int A1, .int A2, .int A3]) (c := 140) (ci := 8) (C := RX8) (T := TX8) (N := 27) (t_X8_tell h9) w_L_185 cw_X8_tell np_X8_tell rfl (by decide) rfl (by decide) rfl (Nat.le_of_ble_eq_true rfl) (Nat.le_of_ble_eq_true rfl) (rm_c (by omega)) (rm_s (by omega)) rfl (Nat.le_of_ble_eq_true rfl) dL_law__1039 (q := 1042) rfl ?_
    rintro _ M2 ⟨b9, rfl, e0, e1, hI⟩
    refine T.ist_6 (q := 1044) dL_law__1042 rfl (by decide) sk_ok_i ?_
    refine T.ald_2 (q := 1045) dL_law__1044 rfl ?_
    refine T.cV (As := []) (c := 140) (ci := 8) (C := RX8) (T := TX8) (N := 27) (t_X8_thrown (P := fun r9 => r9 = M2.1 140 0) rfl) w_L_149 cw_X8_thrown np_X8_thrown rfl (by decide) rfl (by decide) rfl (Nat.le_of_ble_eq_true rfl) (Nat.le_of_ble_eq_true rfl) (rm_c (by omega)) (rm_s (by omega)) rfl (Nat.le_of_ble_eq_true rfl) dL_law__1045 (q := 1048) rfl ?_
    rintro _ M3 ⟨r3, rfl, rfl, e9⟩
    obtain rfl := e9.symm
    refine T.ild_5 (q := 1050) dL_law__1048 rfl ?_
    refine T.ic_eq (tgt := 1055) (q := 1053) dL_law__1050 (by decide) rfl (fun _ => ?_) (fun h8 => absurd e0 h8)
    refine T.ild_5 (q := 1057) dL_law__1055 rfl ?_
    refine T.if_ne (tgt := 1072) (q := 1060) dL_law__1057 (by decide) rfl (fun h8 => absurd rfl h8) (fun _ => ?_)
    refine T.ald_3 (q := 1061) dL_law__1060 rfl ?_
    refine T.iconst (q := 1062) (0) dL_law__1061 rfl (by decide) ?_
    refine T.laldk (n := 1) rfl rfl (by decide) dL_law__1062 (q := 1063) rfl (k9 := 0) (by decide) ?_
    refine T.ild_6 (q := 1065) dL_law__1063 rfl ?_
    refine T.i2l (q := 1066) dL_law__1065 rfl ?_
    refine T.lcmp (q := 1067) dL_law__1066 rfl ?_
    refine T.if_eq (tgt := 1072) (q := 1070) dL_law__1067 (by decide) rfl (fun _ => ?_) (fun h8 => absurd (lgc e1) h8)
    refine T.goto (tgt := 2945) dL_law__1072 (by decide) ?_
    exact T.drop_5 (T.drop_6 (TJ.wide (by omega) (by omega) (kk _ hI)))
  · skip
    refine T.ist_5 (q := 1020) dL_law__1018 rfl (by decide) sk_ok_i ?_
    refine T.ald_2 (q := 1021) dL_law__1020 rfl ?_
    refine T.ald_0 (q := 1022) dL_law__1021 rfl ?_
    refine T.ild_4 (q := 1024) dL_law__1022 rfl ?_
    refine T.iconst (q := 1025) (1) dL_law__1024 rfl (by decide) ?_
    refine T.iadd (q := 1026) dL_law__1025 rfl ?_
    refine T.sld hv.2.1 hA1 dL_law__1026 (q := 1027) rfl ?_
    refine T.ald_0 (q := 1028) dL_law__1027 rfl ?_
    refine T.ild_4 (q := 1030) dL_law__1028 rfl ?_
    refine T.iconst (q := 1031) (2) dL_law__1030 rfl (by decide) ?_
    refine T.iadd (q := 1032) dL_law__1031 rfl ?_
    refine T.sld hv.2.2.1 hA2 dL_law__1032 (q := 1033) rfl ?_
    refine T.ald_0 (q := 1034) dL_law__1033 rfl ?_
    refine T.ild_4 (q := 1036) dL_law__1034 rfl ?_
    refine T.iconst (q := 1037) (3) dL_law__1036 rfl (by decide) ?_
    refine T.iadd (q := 1038) dL_law__1037 rfl ?_
    refine T.sld hv.2.2.2.1 hA3 dL_law__1038 (q := 1039) rfl ?_
    refine T.cV (As := [.int A1, .int A2, .int A3]) (c := 140) (ci := 8) (C := RX8) (T := TX8) (N := 27) (t_X8_tell h9) w_L_185 cw_X8_tell np_X8_tell rfl (by decide) rfl (by decide) rfl (Nat.le_of_ble_eq_true rfl) (Nat.le_of_ble_eq_true rfl) (rm_c (by omega)) (rm_s (by omega)) rfl (Nat.le_of_ble_eq_true rfl) dL_law__1039 (q := 1042) rfl ?_
    rintro _ M2 ⟨b9, rfl, e0, hI⟩
    refine T.ist_6 (q := 1044) dL_law__1042 rfl (by decide) sk_ok_i ?_
    refine T.ald_2 (q := 1045) dL_law__1044 rfl ?_
    refine T.cV (As := []) (c := 140) (ci := 8) (C := RX8) (T := TX8) (N := 27) (t_X8_thrown (P := fun r9 => r9 = M2.1 140 0) rfl) w_L_149 cw_X8_thrown np_X8_thrown rfl (by decide) rfl (by decide) rfl (Nat.le_of_ble_eq_true rfl) (Nat.le_of_ble_eq_true rfl) (rm_c (by omega)) (rm_s (by omega)) rfl (Nat.le_of_ble_eq_true rfl) dL_law__1045 (q := 1048) rfl ?_
    rintro _ M3 ⟨r3, rfl, rfl, e9⟩
    obtain rfl := e9.symm
    refine T.ild_5 (q := 1050) dL_law__1048 rfl ?_
    refine T.ic_eq (tgt := 1055) (q := 1053) dL_law__1050 (by decide) rfl (fun _ => ?_) (fun h8 => absurd e0 h8)
    refine T.ild_5 (q := 1057) dL_law__1055 rfl ?_
    refine T.if_ne (tgt := 1072) (q := 1060) dL_law__1057 (by decide) rfl (fun _ => ?_) (fun h8 => absurd h8 (lnz hj))
    refine T.goto (tgt := 2945) dL_law__1072 (by decide) ?_
    exact T.drop_5 (T.drop_6 (TJ.wide (by omega) (by omega) (kk _ hI)))
theorem lwc_13 {G : sk_G} {b L : Nat} {ys : Nat → Int32} {M : sk_M} {i : Int32} {cells slots : Nat} (h : Inv M) (hv : lwv i L) (hc : cells + 8 ≤ 601024) (hs : slots + 48 ≤ 7293033) (kk : ∀ M0, Inv M0 → TJ G mL_law_ room_1 (lw_E G b L ys) (cells + 8) (slots + 48) 2945 [some (.ref b), some (.ref (G.2.2.1 120)), some (.ref (G.2.2.1 140)), some (.ref (G.2.2.1 158)), some (.int i), none, none] [] M0) : TJ G mL_law_ room_1 (lw_E G b L ys) cells slots 1075 [some (.ref b), some (.ref (G.2.2.1 120)), some (.ref (G.2.2.1 140)), some (.ref (G.2.2.1 158)), some (.int i), none, none] [] M := by
  obtain ⟨A1, hA1⟩ : ∃ z, z = ys (i + 1).toNatClampNeg := ⟨_, rfl⟩
  obtain ⟨A2, hA2⟩ : ∃ z, z = ys (i + 2).toNatClampNeg := ⟨_, rfl⟩
  obtain ⟨A3, hA3⟩ : ∃ z, z = ys (i + 3).toNatClampNeg := ⟨_, rfl⟩
  obtain ⟨A4, hA4⟩ : ∃ z, z = ys (i + 4).toNatClampNeg := ⟨_, rfl⟩
  obtain ⟨A5, hA5⟩ : ∃ z, z = ys (i + 5).toNatClampNeg := ⟨_, rfl⟩
  refine T.ald_1 (q := 1076) dL_law__1075 rfl ?_
  refine T.ald_0 (q := 1077) dL_law__1076 rfl ?_
  refine T.ild_4 (q := 1079) dL_law__1077 rfl ?_
  refine T.iconst (q := 1080) (1) dL_law__1079 rfl (by decide) ?_
  refine T.iadd (q := 1081) dL_law__1080 rfl ?_
  refine T.sld hv.2.1 hA1 dL_law__1081 (q := 1082) rfl ?_
  refine T.ald_0 (q := 1083) dL_law__1082 rfl ?_
  refine T.ild_4 (q := 1085) dL_law__1083 rfl ?_
  refine T.iconst (q := 1086) (2) dL_law__1085 rfl (by decide) ?_
  refine T.iadd (q := 1087) dL_law__1086 rfl ?_
  refine T.sld hv.2.2.1 hA2 dL_law__1087 (q := 1088) rfl ?_
  refine T.ald_3 (q := 1089) dL_law__1088 rfl ?_
  refine T.cSH (As := [.ref (G.2.2.1 120), .int A1, .int A2, .ref (G.2.2.1 158)]) (rest := []) (t_L_forget (Q0 := fun M1 => w_X8_forget A1 A2 M1 (fun b9 M2 => M2.1 140 0 = 0 ∧ M2.2 158 0 = b9.toInt64 ∧ Inv M2)) (QX := fun j M1 => w_X8_forget A1 A2 M1 (fun _ M2 => M2.1 140 0 = nI (j + 1) ∧ Inv M2)) (st_forget h A1 A2).go) w_L_186 cw_L_forget np_L_forget (Nat.le_of_ble_eq_true rfl) (Nat.le_of_ble_eq_true rfl) (rm_c (by omega)) (rm_s (by omega)) rfl (Nat.le_of_ble_eq_true rfl) dL_law__1089 (q := 1092) rfl ?_
  rintro _ M9 ⟨k, rfl, h9⟩
  rcases h9 with ⟨rfl, h9⟩ | ⟨j, rfl, hj, h9⟩
  · skip
    refine T.ist_5 (q := 1094) dL_law__1092 rfl (by decide) sk_ok_i ?_
    refine T.ald_2 (q := 1095) dL_law__1094 rfl ?_
    refine T.ald_0 (q := 1096) dL_law__1095 rfl ?_
    refine T.ild_4 (q := 1098) dL_law__1096 rfl ?_
    refine T.iconst (q := 1099) (1) dL_law__1098 rfl (by decide) ?_
    refine T.iadd (q := 1100) dL_law__1099 rfl ?_
    refine T.sld hv.2.1 hA1 dL_law__1100 (q := 1101) rfl ?_
    refine T.ald_0 (q := 1102) dL_law__1101 rfl ?_
    refine T.ild_4 (q := 1104) dL_law__1102 rfl ?_
    refine T.iconst (q := 1105) (2) dL_law__1104 rfl (by decide) ?_
    refine T.iadd (q := 1106) dL_law__1105 rfl ?_
    refine T.sld hv.2.2.1 hA2 dL_law__1106 (q := 1107) rfl ?_
    refine T.cV (As := [.int A1, .int A2]) (c := 140) (ci := 8) (C := RX8) (T := TX8) (N := 27) (t_X8_forget h9) w_L_188 cw_X8_forget np_X8_forget rfl (by decide) rfl (by decide) rfl (Nat.le_of_ble_eq_true rfl) (Nat.le_of_ble_eq_true rfl) (rm_c (by omega)) (rm_s (by omega)) rfl (Nat.le_of_ble_eq_true rfl) dL_law__1107 (q := 1110) rfl ?_
    rintro _ M2 ⟨b9, rfl, e0, e1, hI⟩
    refine T.ist_6 (q := 1112) dL_law__1110 rfl (by decide) sk_ok_i ?_
    refine T.ald_2 (q := 1113) dL_law__1112 rfl ?_
    refine T.cV (As := []) (c := 140) (ci := 8) (C := RX8) (T := TX8) (N := 27) (t_X8_thrown (P := fun r9 => r9 = M2.1 140 0) rfl) w_L_149 cw_X8_thrown np_X8_thrown rfl (by decide) rfl (by decide) rfl (Nat.le_of_ble_eq_true rfl) (Nat.le_of_ble_eq_true rfl) (rm_c (by omega)) (rm_s (by omega)) rfl (Nat.le_of_ble_eq_true rfl) dL_law__1113 (q := 1116) rfl ?_
    rintro _ M3 ⟨r3, rfl, rfl, e9⟩
    obtain rfl := e9.symm
    refine T.ild_5 (q := 1118) dL_law__1116 rfl ?_
    refine T.ic_eq (tgt := 1123) (q := 1121) dL_law__1118 (by decide) rfl (fun _ => ?_) (fun h8 => absurd e0 h8)
    refine T.ild_5 (q := 1125) dL_law__1123 rfl ?_
    refine T.if_ne (tgt := 1140) (q := 1128) dL_law__1125 (by decide) rfl (fun h8 => absurd rfl h8) (fun _ => ?_)
    refine T.ald_3 (q := 1129) dL_law__1128 rfl ?_
    refine T.iconst (q := 1130) (0) dL_law__1129 rfl (by decide) ?_
    refine T.laldk (n := 1) rfl rfl (by decide) dL_law__1130 (q := 1131) rfl (k9 := 0) (by decide) ?_
    refine T.ild_6 (q := 1133) dL_law__1131 rfl ?_
    refine T.i2l (q := 1134) dL_law__1133 rfl ?_
    refine T.lcmp (q := 1135) dL_law__1134 rfl ?_
    refine T.if_eq (tgt := 1140) (q := 1138) dL_law__1135 (by decide) rfl (fun _ => ?_) (fun h8 => absurd (lgc e1) h8)
    refine T.goto (tgt := 2945) dL_law__1140 (by decide) ?_
    exact T.drop_5 (T.drop_6 (TJ.wide (by omega) (by omega) (kk _ hI)))
  · skip
    refine T.ist_5 (q := 1094) dL_law__1092 rfl (by decide) sk_ok_i ?_
    refine T.ald_2 (q := 1095) dL_law__1094 rfl ?_
    refine T.ald_0 (q := 1096) dL_law__1095 rfl ?_
    refine T.ild_4 (q := 1098) dL_law__1096 rfl ?_
    refine T.iconst (q := 1099) (1) dL_law__1098 rfl (by decide) ?_
    refine T.iadd (q := 1100) dL_law__1099 rfl ?_
    refine T.sld hv.2.1 hA1 dL_law__1100 (q := 1101) rfl ?_
    refine T.ald_0 (q := 1102) dL_law__1101 rfl ?_
    refine T.ild_4 (q := 1104) dL_law__1102 rfl ?_
    refine T.iconst (q := 1105) (2) dL_law__1104 rfl (by decide) ?_
    refine T.iadd (q := 1106) dL_law__1105 rfl ?_
    refine T.sld hv.2.2.1 hA2 dL_law__1106 (q := 1107) rfl ?_
    refine T.cV (As := [.int A1, .int A2]) (c := 140) (ci := 8) (C := RX8) (T := TX8) (N := 27) (t_X8_forget h9) w_L_188 cw_X8_forget np_X8_forget rfl (by decide) rfl (by decide) rfl (Nat.le_of_ble_eq_true rfl) (Nat.le_of_ble_eq_true rfl) (rm_c (by omega)) (rm_s (by omega)) rfl (Nat.le_of_ble_eq_true rfl) dL_law__1107 (q := 1110) rfl ?_
    rintro _ M2 ⟨b9, rfl, e0, hI⟩
    refine T.ist_6 (q := 1112) dL_law__1110 rfl (by decide) sk_ok_i ?_
    refine T.ald_2 (q := 1113) dL_law__1112 rfl ?_
    refine T.cV (As := []) (c := 140) (ci := 8) (C := RX8) (T := TX8) (N := 27) (t_X8_thrown (P := fun r9 => r9 = M2.1 140 0) rfl) w_L_149 cw_X8_thrown np_X8_thrown rfl (by decide) rfl (by decide) rfl (Nat.le_of_ble_eq_true rfl) (Nat.le_of_ble_eq_true rfl) (rm_c (by omega)) (rm_s (by omega)) rfl (Nat.le_of_ble_eq_true rfl) dL_law__1113 (q := 1116) rfl ?_
    rintro _ M3 ⟨r3, rfl, rfl, e9⟩
    obtain rfl := e9.symm
    refine T.ild_5 (q := 1118) dL_law__1116 rfl ?_
    refine T.ic_eq (tgt := 1123) (q := 1121) dL_law__1118 (by decide) rfl (fun _ => ?_) (fun h8 => absurd e0 h8)
    refine T.ild_5 (q := 1125) dL_law__1123 rfl ?_
    refine T.if_ne (tgt := 1140) (q := 1128) dL_law__1125 (by decide) rfl (fun _ => ?_) (fun h8 => absurd h8 (lnz hj))
    refine T.goto (tgt := 2945) dL_law__1140 (by decide) ?_
    exact T.drop_5 (T.drop_6 (TJ.wide (by omega) (by omega) (kk _ hI)))
theorem lwc_14 {G : sk_G} {b L : Nat} {ys : Nat → Int32} {M : sk_M} {i : Int32} {cells slots : Nat} (h : Inv M) (hv : lwv i L) (hc : cells + 8 ≤ 601024) (hs : slots + 48 ≤ 7293033) (kk : ∀ M0, Inv M0 → TJ G mL_law_ room_1 (lw_E G b L ys) (cells + 8) (slots + 48) 2945 [some (.ref b), some (.ref (G.2.2.1 120)), some (.ref (G.2.2.1 140)), some (.ref (G.2.2.1 158)), some (.int i), none, none] [] M0) : TJ G mL_law_ room_1 (lw_E G b L ys) cells slots 1143 [some (.ref b), some (.ref (G.2.2.1 120)), some (.ref (G.2.2.1 140)), some (.ref (G.2.2.1 158)), some (.int i), none, none] [] M := by
  obtain ⟨A1, hA1⟩ : ∃ z, z = ys (i + 1).toNatClampNeg := ⟨_, rfl⟩
  obtain ⟨A2, hA2⟩ : ∃ z, z = ys (i + 2).toNatClampNeg := ⟨_, rfl⟩
  obtain ⟨A3, hA3⟩ : ∃ z, z = ys (i + 3).toNatClampNeg := ⟨_, rfl⟩
  obtain ⟨A4, hA4⟩ : ∃ z, z = ys (i + 4).toNatClampNeg := ⟨_, rfl⟩
  obtain ⟨A5, hA5⟩ : ∃ z, z = ys (i + 5).toNatClampNeg := ⟨_, rfl⟩
  refine T.ald_1 (q := 1144) dL_law__1143 rfl ?_
  refine T.ald_0 (q := 1145) dL_law__1144 rfl ?_
  refine T.ild_4 (q := 1147) dL_law__1145 rfl ?_
  refine T.iconst (q := 1148) (1) dL_law__1147 rfl (by decide) ?_
  refine T.iadd (q := 1149) dL_law__1148 rfl ?_
  refine T.sld hv.2.1 hA1 dL_law__1149 (q := 1150) rfl ?_
  refine T.ald_0 (q := 1151) dL_law__1150 rfl ?_
  refine T.ild_4 (q := 1153) dL_law__1151 rfl ?_
  refine T.iconst (q := 1154) (2) dL_law__1153 rfl (by decide) ?_
  refine T.iadd (q := 1155) dL_law__1154 rfl ?_
  refine T.sld hv.2.2.1 hA2 dL_law__1155 (q := 1156) rfl ?_
  refine T.ald_3 (q := 1157) dL_law__1156 rfl ?_
  refine T.cSH (As := [.ref (G.2.2.1 120), .int A1, .int A2, .ref (G.2.2.1 158)]) (rest := []) (t_L_change (Q0 := fun M1 => w_X8_change A1 A2 M1 (fun b9 M2 => M2.1 140 0 = 0 ∧ M2.2 158 0 = b9.toInt64 ∧ Inv M2)) (QX := fun j M1 => w_X8_change A1 A2 M1 (fun _ M2 => M2.1 140 0 = nI (j + 1) ∧ Inv M2)) (st_change h A1 A2).go) w_L_189 cw_L_change np_L_change (Nat.le_of_ble_eq_true rfl) (Nat.le_of_ble_eq_true rfl) (rm_c (by omega)) (rm_s (by omega)) rfl (Nat.le_of_ble_eq_true rfl) dL_law__1157 (q := 1160) rfl ?_
  rintro _ M9 ⟨k, rfl, h9⟩
  rcases h9 with ⟨rfl, h9⟩ | ⟨j, rfl, hj, h9⟩
  · skip
    refine T.ist_5 (q := 1162) dL_law__1160 rfl (by decide) sk_ok_i ?_
    refine T.ald_2 (q := 1163) dL_law__1162 rfl ?_
    refine T.ald_0 (q := 1164) dL_law__1163 rfl ?_
    refine T.ild_4 (q := 1166) dL_law__1164 rfl ?_
    refine T.iconst (q := 1167) (1) dL_law__1166 rfl (by decide) ?_
    refine T.iadd (q := 1168) dL_law__1167 rfl ?_
    refine T.sld hv.2.1 hA1 dL_law__1168 (q := 1169) rfl ?_
    refine T.ald_0 (q := 1170) dL_law__1169 rfl ?_
    refine T.ild_4 (q := 1172) dL_law__1170 rfl ?_
    refine T.iconst (q := 1173) (2) dL_law__1172 rfl (by decide) ?_
    refine T.iadd (q := 1174) dL_law__1173 rfl ?_
    refine T.sld hv.2.2.1 hA2 dL_law__1174 (q := 1175) rfl ?_
    refine T.cV (As := [.int A1, .int A2]) (c := 140) (ci := 8) (C := RX8) (T := TX8) (N := 27) (t_X8_change h9) w_L_191 cw_X8_change np_X8_change rfl (by decide) rfl (by decide) rfl (Nat.le_of_ble_eq_true rfl) (Nat.le_of_ble_eq_true rfl) (rm_c (by omega)) (rm_s (by omega)) rfl (Nat.le_of_ble_eq_true rfl) dL_law__1175 (q := 1178) rfl ?_
    rintro _ M2 ⟨b9, rfl, e0, e1, hI⟩
    refine T.ist_6 (q := 1180) dL_law__1178 rfl (by decide) sk_ok_i ?_
    refine T.ald_2 (q := 1181) dL_law__1180 rfl ?_
    refine T.cV (As := []) (c := 140) (ci := 8) (C := RX8) (T := TX8) (N := 27) (t_X8_thrown (P := fun r9 => r9 = M2.1 140 0) rfl) w_L_149 cw_X8_thrown np_X8_thrown rfl (by decide) rfl (by decide) rfl (Nat.le_of_ble_eq_true rfl) (Nat.le_of_ble_eq_true rfl) (rm_c (by omega)) (rm_s (by omega)) rfl (Nat.le_of_ble_eq_true rfl) dL_law__1181 (q := 1184) rfl ?_
    rintro _ M3 ⟨r3, rfl, rfl, e9⟩
    obtain rfl := e9.symm
    refine T.ild_5 (q := 1186) dL_law__1184 rfl ?_
    refine T.ic_eq (tgt := 1191) (q := 1189) dL_law__1186 (by decide) rfl (fun _ => ?_) (fun h8 => absurd e0 h8)
    refine T.ild_5 (q := 1193) dL_law__1191 rfl ?_
    refine T.if_ne (tgt := 1208) (q := 1196) dL_law__1193 (by decide) rfl (fun h8 => absurd rfl h8) (fun _ => ?_)
    refine T.ald_3 (q := 1197) dL_law__1196 rfl ?_
    refine T.iconst (q := 1198) (0) dL_law__1197 rfl (by decide) ?_
    refine T.laldk (n := 1) rfl rfl (by decide) dL_law__1198 (q := 1199) rfl (k9 := 0) (by decide) ?_
    refine T.ild_6 (q := 1201) dL_law__1199 rfl ?_
    refine T.i2l (q := 1202) dL_law__1201 rfl ?_
    refine T.lcmp (q := 1203) dL_law__1202 rfl ?_
    refine T.if_eq (tgt := 1208) (q := 1206) dL_law__1203 (by decide) rfl (fun _ => ?_) (fun h8 => absurd (lgc e1) h8)
    refine T.goto (tgt := 2945) dL_law__1208 (by decide) ?_
    exact T.drop_5 (T.drop_6 (TJ.wide (by omega) (by omega) (kk _ hI)))
  · skip
    refine T.ist_5 (q := 1162) dL_law__1160 rfl (by decide) sk_ok_i ?_
    refine T.ald_2 (q := 1163) dL_law__1162 rfl ?_
    refine T.ald_0 (q := 1164) dL_law__1163 rfl ?_
    refine T.ild_4 (q := 1166) dL_law__1164 rfl ?_
    refine T.iconst (q := 1167) (1) dL_law__1166 rfl (by decide) ?_
    refine T.iadd (q := 1168) dL_law__1167 rfl ?_
    refine T.sld hv.2.1 hA1 dL_law__1168 (q := 1169) rfl ?_
    refine T.ald_0 (q := 1170) dL_law__1169 rfl ?_
    refine T.ild_4 (q := 1172) dL_law__1170 rfl ?_
    refine T.iconst (q := 1173) (2) dL_law__1172 rfl (by decide) ?_
    refine T.iadd (q := 1174) dL_law__1173 rfl ?_
    refine T.sld hv.2.2.1 hA2 dL_law__1174 (q := 1175) rfl ?_
    refine T.cV (As := [.int A1, .int A2]) (c := 140) (ci := 8) (C := RX8) (T := TX8) (N := 27) (t_X8_change h9) w_L_191 cw_X8_change np_X8_change rfl (by decide) rfl (by decide) rfl (Nat.le_of_ble_eq_true rfl) (Nat.le_of_ble_eq_true rfl) (rm_c (by omega)) (rm_s (by omega)) rfl (Nat.le_of_ble_eq_true rfl) dL_law__1175 (q := 1178) rfl ?_
    rintro _ M2 ⟨b9, rfl, e0, hI⟩
    refine T.ist_6 (q := 1180) dL_law__1178 rfl (by decide) sk_ok_i ?_
    refine T.ald_2 (q := 1181) dL_law__1180 rfl ?_
    refine T.cV (As := []) (c := 140) (ci := 8) (C := RX8) (T := TX8) (N := 27) (t_X8_thrown (P := fun r9 => r9 = M2.1 140 0) rfl) w_L_149 cw_X8_thrown np_X8_thrown rfl (by decide) rfl (by decide) rfl (Nat.le_of_ble_eq_true rfl) (Nat.le_of_ble_eq_true rfl) (rm_c (by omega)) (rm_s (by omega)) rfl (Nat.le_of_ble_eq_true rfl) dL_law__1181 (q := 1184) rfl ?_
    rintro _ M3 ⟨r3, rfl, rfl, e9⟩
    obtain rfl := e9.symm
    refine T.ild_5 (q := 1186) dL_law__1184 rfl ?_
    refine T.ic_eq (tgt := 1191) (q := 1189) dL_law__1186 (by decide) rfl (fun _ => ?_) (fun h8 => absurd e0 h8)
    refine T.ild_5 (q := 1193) dL_law__1191 rfl ?_
    refine T.if_ne (tgt := 1208) (q := 1196) dL_law__1193 (by decide) rfl (fun _ => ?_) (fun h8 => absurd h8 (lnz hj))
    refine T.goto (tgt := 2945) dL_law__1208 (by decide) ?_
    exact T.drop_5 (T.drop_6 (TJ.wide (by omega) (by omega) (kk _ hI)))
theorem lwc_15 {G : sk_G} {b L : Nat} {ys : Nat → Int32} {M : sk_M} {i : Int32} {cells slots : Nat} (h : Inv M) (hv : lwv i L) (hc : cells + 8 ≤ 601024) (hs : slots + 48 ≤ 7293033) (kk : ∀ M0, Inv M0 → TJ G mL_law_ room_1 (lw_E G b L ys) (cells + 8) (slots + 48) 2945 [some (.ref b), some (.ref (G.2.2.1 120)), some (.ref (G.2.2.1 140)), some (.ref (G.2.2.1 158)), some (.int i), none, none] [] M0) : TJ G mL_law_ room_1 (lw_E G b L ys) cells slots 1211 [some (.ref b), some (.ref (G.2.2.1 120)), some (.ref (G.2.2.1 140)), some (.ref (G.2.2.1 158)), some (.int i), none, none] [] M := by
  obtain ⟨A1, hA1⟩ : ∃ z, z = ys (i + 1).toNatClampNeg := ⟨_, rfl⟩
  obtain ⟨A2, hA2⟩ : ∃ z, z = ys (i + 2).toNatClampNeg := ⟨_, rfl⟩
  obtain ⟨A3, hA3⟩ : ∃ z, z = ys (i + 3).toNatClampNeg := ⟨_, rfl⟩
  obtain ⟨A4, hA4⟩ : ∃ z, z = ys (i + 4).toNatClampNeg := ⟨_, rfl⟩
  obtain ⟨A5, hA5⟩ : ∃ z, z = ys (i + 5).toNatClampNeg := ⟨_, rfl⟩
  refine T.ald_1 (q := 1212) dL_law__1211 rfl ?_
  refine T.ald_0 (q := 1213) dL_law__1212 rfl ?_
  refine T.ild_4 (q := 1215) dL_law__1213 rfl ?_
  refine T.iconst (q := 1216) (1) dL_law__1215 rfl (by decide) ?_
  refine T.iadd (q := 1217) dL_law__1216 rfl ?_
  refine T.sld hv.2.1 hA1 dL_law__1217 (q := 1218) rfl ?_
  refine T.ald_0 (q := 1219) dL_law__1218 rfl ?_
  refine T.ild_4 (q := 1221) dL_law__1219 rfl ?_
  refine T.iconst (q := 1222) (2) dL_law__1221 rfl (by decide) ?_
  refine T.iadd (q := 1223) dL_law__1222 rfl ?_
  refine T.sld hv.2.2.1 hA2 dL_law__1223 (q := 1224) rfl ?_
  refine T.ald_0 (q := 1225) dL_law__1224 rfl ?_
  refine T.ild_4 (q := 1227) dL_law__1225 rfl ?_
  refine T.iconst (q := 1228) (3) dL_law__1227 rfl (by decide) ?_
  refine T.iadd (q := 1229) dL_law__1228 rfl ?_
  refine T.sld hv.2.2.2.1 hA3 dL_law__1229 (q := 1230) rfl ?_
  refine T.if_eq (tgt := 1237) (q := 1233) dL_law__1230 (by decide) rfl (fun z1230 => ?_) (fun z1230 => ?_)
  · skip
    refine T.iconst (q := 1238) (0) dL_law__1237 rfl (by decide) ?_
    refine T.ald_3 (q := 1239) dL_law__1238 rfl ?_
    refine T.cSH (As := [.ref (G.2.2.1 120), .int A1, .int A2, .int (0 : Int32), .ref (G.2.2.1 158)]) (rest := []) (t_L_guard (Q0 := fun M1 => w_X8_guard A1 A2 (0 : Int32) M1 (fun b9 M2 => M2.1 140 0 = 0 ∧ M2.2 158 0 = (if b9 = 0 then 0 else 1) ∧ Inv M2)) (QX := fun j M1 => w_X8_guard A1 A2 (0 : Int32) M1 (fun _ M2 => M2.1 140 0 = nI (j + 1) ∧ Inv M2)) (st_guard h A1 A2 (0 : Int32) (Or.inl rfl)).go) w_L_192 cw_L_guard np_L_guard (Nat.le_of_ble_eq_true rfl) (Nat.le_of_ble_eq_true rfl) (rm_c (by omega)) (rm_s (by omega)) rfl (Nat.le_of_ble_eq_true rfl) dL_law__1239 (q := 1242) rfl ?_
    rintro _ M9 ⟨k, rfl, h9⟩
    rcases h9 with ⟨rfl, h9⟩ | ⟨j, rfl, hj, h9⟩
    · skip
      refine T.ist_5 (q := 1244) dL_law__1242 rfl (by decide) sk_ok_i ?_
      refine T.ald_2 (q := 1245) dL_law__1244 rfl ?_
      refine T.ald_0 (q := 1246) dL_law__1245 rfl ?_
      refine T.ild_4 (q := 1248) dL_law__1246 rfl ?_
      refine T.iconst (q := 1249) (1) dL_law__1248 rfl (by decide) ?_
      refine T.iadd (q := 1250) dL_law__1249 rfl ?_
      refine T.sld hv.2.1 hA1 dL_law__1250 (q := 1251) rfl ?_
      refine T.ald_0 (q := 1252) dL_law__1251 rfl ?_
      refine T.ild_4 (q := 1254) dL_law__1252 rfl ?_
      refine T.iconst (q := 1255) (2) dL_law__1254 rfl (by decide) ?_
      refine T.iadd (q := 1256) dL_law__1255 rfl ?_
      refine T.sld hv.2.2.1 hA2 dL_law__1256 (q := 1257) rfl ?_
      refine T.ald_0 (q := 1258) dL_law__1257 rfl ?_
      refine T.ild_4 (q := 1260) dL_law__1258 rfl ?_
      refine T.iconst (q := 1261) (3) dL_law__1260 rfl (by decide) ?_
      refine T.iadd (q := 1262) dL_law__1261 rfl ?_
      refine T.sld hv.2.2.2.1 hA3 dL_law__1262 (q := 1263) rfl ?_
      refine T.if_eq (tgt := 1270) (q := 1266) dL_law__1263 (by decide) rfl (fun _ => ?_) (fun h8 => absurd z1230 h8)
      refine T.iconst (q := 1271) (0) dL_law__1270 rfl (by decide) ?_
      refine T.cV (As := [.int A1, .int A2, .int (0 : Int32)]) (c := 140) (ci := 8) (C := RX8) (T := TX8) (N := 27) (t_X8_guard h9) w_L_195 cw_X8_guard np_X8_guard rfl (by decide) rfl (by decide) rfl (Nat.le_of_ble_eq_true rfl) (Nat.le_of_ble_eq_true rfl) (rm_c (by omega)) (rm_s (by omega)) rfl (Nat.le_of_ble_eq_true rfl) dL_law__1271 (q := 1274) rfl ?_
      rintro _ M2 ⟨b9, rfl, e0, e1, hI⟩
      refine T.ist_6 (q := 1276) dL_law__1274 rfl (by decide) sk_ok_i ?_
      refine T.ald_2 (q := 1277) dL_law__1276 rfl ?_
      refine T.cV (As := []) (c := 140) (ci := 8) (C := RX8) (T := TX8) (N := 27) (t_X8_thrown (P := fun r9 => r9 = M2.1 140 0) rfl) w_L_149 cw_X8_thrown np_X8_thrown rfl (by decide) rfl (by decide) rfl (Nat.le_of_ble_eq_true rfl) (Nat.le_of_ble_eq_true rfl) (rm_c (by omega)) (rm_s (by omega)) rfl (Nat.le_of_ble_eq_true rfl) dL_law__1277 (q := 1280) rfl ?_
      rintro _ M3 ⟨r3, rfl, rfl, e9⟩
      obtain rfl := e9.symm
      refine T.ild_5 (q := 1282) dL_law__1280 rfl ?_
      refine T.ic_eq (tgt := 1287) (q := 1285) dL_law__1282 (by decide) rfl (fun _ => ?_) (fun h8 => absurd e0 h8)
      refine T.ild_5 (q := 1289) dL_law__1287 rfl ?_
      refine T.if_ne (tgt := 1311) (q := 1292) dL_law__1289 (by decide) rfl (fun h8 => absurd rfl h8) (fun _ => ?_)
      refine T.ald_3 (q := 1293) dL_law__1292 rfl ?_
      refine T.iconst (q := 1294) (0) dL_law__1293 rfl (by decide) ?_
      refine T.laldk (n := 1) rfl rfl (by decide) dL_law__1294 (q := 1295) rfl (k9 := 0) (by decide) ?_
      refine T.ild_6 (q := 1297) dL_law__1295 rfl ?_
      refine T.if_eq (tgt := 1304) (q := 1300) dL_law__1297 (by decide) rfl (fun z1297 => ?_) (fun z1297 => ?_)
      · skip
        rw [if_pos z1297] at e1
        refine T.lconst (q := 1305) (0) dL_law__1304 rfl (by decide) ?_
        refine T.lcmp (q := 1306) dL_law__1305 rfl ?_
        refine T.if_eq (tgt := 1311) (q := 1309) dL_law__1306 (by decide) rfl (fun _ => ?_) (fun h8 => absurd (lgc e1) h8)
        refine T.goto (tgt := 2945) dL_law__1311 (by decide) ?_
        exact T.drop_5 (T.drop_6 (TJ.wide (by omega) (by omega) (kk _ hI)))
      · skip
        rw [if_neg z1297] at e1
        refine T.lconst (q := 1301) (1) dL_law__1300 rfl (by decide) ?_
        refine T.goto (tgt := 1305) dL_law__1301 (by decide) ?_
        refine T.lcmp (q := 1306) dL_law__1305 rfl ?_
        refine T.if_eq (tgt := 1311) (q := 1309) dL_law__1306 (by decide) rfl (fun _ => ?_) (fun h8 => absurd (lgc e1) h8)
        refine T.goto (tgt := 2945) dL_law__1311 (by decide) ?_
        exact T.drop_5 (T.drop_6 (TJ.wide (by omega) (by omega) (kk _ hI)))
    · skip
      refine T.ist_5 (q := 1244) dL_law__1242 rfl (by decide) sk_ok_i ?_
      refine T.ald_2 (q := 1245) dL_law__1244 rfl ?_
      refine T.ald_0 (q := 1246) dL_law__1245 rfl ?_
      refine T.ild_4 (q := 1248) dL_law__1246 rfl ?_
      refine T.iconst (q := 1249) (1) dL_law__1248 rfl (by decide) ?_
      refine T.iadd (q := 1250) dL_law__1249 rfl ?_
      refine T.sld hv.2.1 hA1 dL_law__1250 (q := 1251) rfl ?_
      refine T.ald_0 (q := 1252) dL_law__1251 rfl ?_
      refine T.ild_4 (q := 1254) dL_law__1252 rfl ?_
      refine T.iconst (q := 1255) (2) dL_law__1254 rfl (by decide) ?_
      refine T.iadd (q := 1256) dL_law__1255 rfl ?_
      refine T.sld hv.2.2.1 hA2 dL_law__1256 (q := 1257) rfl ?_
      refine T.ald_0 (q := 1258) dL_law__1257 rfl ?_
      refine T.ild_4 (q := 1260) dL_law__1258 rfl ?_
      refine T.iconst (q := 1261) (3) dL_law__1260 rfl (by decide) ?_
      refine T.iadd (q := 1262) dL_law__1261 rfl ?_
      refine T.sld hv.2.2.2.1 hA3 dL_law__1262 (q := 1263) rfl ?_
      refine T.if_eq (tgt := 1270) (q := 1266) dL_law__1263 (by decide) rfl (fun _ => ?_) (fun h8 => absurd z1230 h8)
      refine T.iconst (q := 1271) (0) dL_law__1270 rfl (by decide) ?_
      refine T.cV (As := [.int A1, .int A2, .int (0 : Int32)]) (c := 140) (ci := 8) (C := RX8) (T := TX8) (N := 27) (t_X8_guard h9) w_L_195 cw_X8_guard np_X8_guard rfl (by decide) rfl (by decide) rfl (Nat.le_of_ble_eq_true rfl) (Nat.le_of_ble_eq_true rfl) (rm_c (by omega)) (rm_s (by omega)) rfl (Nat.le_of_ble_eq_true rfl) dL_law__1271 (q := 1274) rfl ?_
      rintro _ M2 ⟨b9, rfl, e0, hI⟩
      refine T.ist_6 (q := 1276) dL_law__1274 rfl (by decide) sk_ok_i ?_
      refine T.ald_2 (q := 1277) dL_law__1276 rfl ?_
      refine T.cV (As := []) (c := 140) (ci := 8) (C := RX8) (T := TX8) (N := 27) (t_X8_thrown (P := fun r9 => r9 = M2.1 140 0) rfl) w_L_149 cw_X8_thrown np_X8_thrown rfl (by decide) rfl (by decide) rfl (Nat.le_of_ble_eq_true rfl) (Nat.le_of_ble_eq_true rfl) (rm_c (by omega)) (rm_s (by omega)) rfl (Nat.le_of_ble_eq_true rfl) dL_law__1277 (q := 1280) rfl ?_
      rintro _ M3 ⟨r3, rfl, rfl, e9⟩
      obtain rfl := e9.symm
      refine T.ild_5 (q := 1282) dL_law__1280 rfl ?_
      refine T.ic_eq (tgt := 1287) (q := 1285) dL_law__1282 (by decide) rfl (fun _ => ?_) (fun h8 => absurd e0 h8)
      refine T.ild_5 (q := 1289) dL_law__1287 rfl ?_
      refine T.if_ne (tgt := 1311) (q := 1292) dL_law__1289 (by decide) rfl (fun _ => ?_) (fun h8 => absurd h8 (lnz hj))
      refine T.goto (tgt := 2945) dL_law__1311 (by decide) ?_
      exact T.drop_5 (T.drop_6 (TJ.wide (by omega) (by omega) (kk _ hI)))
  · skip
    refine T.iconst (q := 1234) (1) dL_law__1233 rfl (by decide) ?_
    refine T.goto (tgt := 1238) dL_law__1234 (by decide) ?_
    refine T.ald_3 (q := 1239) dL_law__1238 rfl ?_
    refine T.cSH (As := [.ref (G.2.2.1 120), .int A1, .int A2, .int (1 : Int32), .ref (G.2.2.1 158)]) (rest := []) (t_L_guard (Q0 := fun M1 => w_X8_guard A1 A2 (1 : Int32) M1 (fun b9 M2 => M2.1 140 0 = 0 ∧ M2.2 158 0 = (if b9 = 0 then 0 else 1) ∧ Inv M2)) (QX := fun j M1 => w_X8_guard A1 A2 (1 : Int32) M1 (fun _ M2 => M2.1 140 0 = nI (j + 1) ∧ Inv M2)) (st_guard h A1 A2 (1 : Int32) (Or.inr rfl)).go) w_L_192 cw_L_guard np_L_guard (Nat.le_of_ble_eq_true rfl) (Nat.le_of_ble_eq_true rfl) (rm_c (by omega)) (rm_s (by omega)) rfl (Nat.le_of_ble_eq_true rfl) dL_law__1239 (q := 1242) rfl ?_
    rintro _ M9 ⟨k, rfl, h9⟩
    rcases h9 with ⟨rfl, h9⟩ | ⟨j, rfl, hj, h9⟩
    · skip
      refine T.ist_5 (q := 1244) dL_law__1242 rfl (by decide) sk_ok_i ?_
      refine T.ald_2 (q := 1245) dL_law__1244 rfl ?_
      refine T.ald_0 (q := 1246) dL_law__1245 rfl ?_
      refine T.ild_4 (q := 1248) dL_law__1246 rfl ?_
      refine T.iconst (q := 1249) (1) dL_law__1248 rfl (by decide) ?_
      refine T.iadd (q := 1250) dL_law__1249 rfl ?_
      refine T.sld hv.2.1 hA1 dL_law__1250 (q := 1251) rfl ?_
      refine T.ald_0 (q := 1252) dL_law__1251 rfl ?_
      refine T.ild_4 (q := 1254) dL_law__1252 rfl ?_
      refine T.iconst (q := 1255) (2) dL_law__1254 rfl (by decide) ?_
      refine T.iadd (q := 1256) dL_law__1255 rfl ?_
      refine T.sld hv.2.2.1 hA2 dL_law__1256 (q := 1257) rfl ?_
      refine T.ald_0 (q := 1258) dL_law__1257 rfl ?_
      refine T.ild_4 (q := 1260) dL_law__1258 rfl ?_
      refine T.iconst (q := 1261) (3) dL_law__1260 rfl (by decide) ?_
      refine T.iadd (q := 1262) dL_law__1261 rfl ?_
      refine T.sld hv.2.2.2.1 hA3 dL_law__1262 (q := 1263) rfl ?_
      refine T.if_eq (tgt := 1270) (q := 1266) dL_law__1263 (by decide) rfl (fun h8 => absurd h8 z1230) (fun _ => ?_)
      refine T.iconst (q := 1267) (1) dL_law__1266 rfl (by decide) ?_
      refine T.goto (tgt := 1271) dL_law__1267 (by decide) ?_
      refine T.cV (As := [.int A1, .int A2, .int (1 : Int32)]) (c := 140) (ci := 8) (C := RX8) (T := TX8) (N := 27) (t_X8_guard h9) w_L_195 cw_X8_guard np_X8_guard rfl (by decide) rfl (by decide) rfl (Nat.le_of_ble_eq_true rfl) (Nat.le_of_ble_eq_true rfl) (rm_c (by omega)) (rm_s (by omega)) rfl (Nat.le_of_ble_eq_true rfl) dL_law__1271 (q := 1274) rfl ?_
      rintro _ M2 ⟨b9, rfl, e0, e1, hI⟩
      refine T.ist_6 (q := 1276) dL_law__1274 rfl (by decide) sk_ok_i ?_
      refine T.ald_2 (q := 1277) dL_law__1276 rfl ?_
      refine T.cV (As := []) (c := 140) (ci := 8) (C := RX8) (T := TX8) (N := 27) (t_X8_thrown (P := fun r9 => r9 = M2.1 140 0) rfl) w_L_149 cw_X8_thrown np_X8_thrown rfl (by decide) rfl (by decide) rfl (Nat.le_of_ble_eq_true rfl) (Nat.le_of_ble_eq_true rfl) (rm_c (by omega)) (rm_s (by omega)) rfl (Nat.le_of_ble_eq_true rfl) dL_law__1277 (q := 1280) rfl ?_
      rintro _ M3 ⟨r3, rfl, rfl, e9⟩
      obtain rfl := e9.symm
      refine T.ild_5 (q := 1282) dL_law__1280 rfl ?_
      refine T.ic_eq (tgt := 1287) (q := 1285) dL_law__1282 (by decide) rfl (fun _ => ?_) (fun h8 => absurd e0 h8)
      refine T.ild_5 (q := 1289) dL_law__1287 rfl ?_
      refine T.if_ne (tgt := 1311) (q := 1292) dL_law__1289 (by decide) rfl (fun h8 => absurd rfl h8) (fun _ => ?_)
      refine T.ald_3 (q := 1293) dL_law__1292 rfl ?_
      refine T.iconst (q := 1294) (0) dL_law__1293 rfl (by decide) ?_
      refine T.laldk (n := 1) rfl rfl (by decide) dL_law__1294 (q := 1295) rfl (k9 := 0) (by decide) ?_
      refine T.ild_6 (q := 1297) dL_law__1295 rfl ?_
      refine T.if_eq (tgt := 1304) (q := 1300) dL_law__1297 (by decide) rfl (fun z1297 => ?_) (fun z1297 => ?_)
      · skip
        rw [if_pos z1297] at e1
        refine T.lconst (q := 1305) (0) dL_law__1304 rfl (by decide) ?_
        refine T.lcmp (q := 1306) dL_law__1305 rfl ?_
        refine T.if_eq (tgt := 1311) (q := 1309) dL_law__1306 (by decide) rfl (fun _ => ?_) (fun h8 => absurd (lgc e1) h8)
        refine T.goto (tgt := 2945) dL_law__1311 (by decide) ?_
        exact T.drop_5 (T.drop_6 (TJ.wide (by omega) (by omega) (kk _ hI)))
      · skip
        rw [if_neg z1297] at e1
        refine T.lconst (q := 1301) (1) dL_law__1300 rfl (by decide) ?_
        refine T.goto (tgt := 1305) dL_law__1301 (by decide) ?_
        refine T.lcmp (q := 1306) dL_law__1305 rfl ?_
        refine T.if_eq (tgt := 1311) (q := 1309) dL_law__1306 (by decide) rfl (fun _ => ?_) (fun h8 => absurd (lgc e1) h8)
        refine T.goto (tgt := 2945) dL_law__1311 (by decide) ?_
        exact T.drop_5 (T.drop_6 (TJ.wide (by omega) (by omega) (kk _ hI)))
    · skip
      refine T.ist_5 (q := 1244) dL_law__1242 rfl (by decide) sk_ok_i ?_
      refine T.ald_2 (q := 1245) dL_law__1244 rfl ?_
      refine T.ald_0 (q := 1246) dL_law__1245 rfl ?_
      refine T.ild_4 (q := 1248) dL_law__1246 rfl ?_
      refine T.iconst (q := 1249) (1) dL_law__1248 rfl (by decide) ?_
      refine T.iadd (q := 1250) dL_law__1249 rfl ?_
      refine T.sld hv.2.1 hA1 dL_law__1250 (q := 1251) rfl ?_
      refine T.ald_0 (q := 1252) dL_law__1251 rfl ?_
      refine T.ild_4 (q := 1254) dL_law__1252 rfl ?_
      refine T.iconst (q := 1255) (2) dL_law__1254 rfl (by decide) ?_
      refine T.iadd (q := 1256) dL_law__1255 rfl ?_
      refine T.sld hv.2.2.1 hA2 dL_law__1256 (q := 1257) rfl ?_
      refine T.ald_0 (q := 1258) dL_law__1257 rfl ?_
      refine T.ild_4 (q := 1260) dL_law__1258 rfl ?_
      refine T.iconst (q := 1261) (3) dL_law__1260 rfl (by decide) ?_
      refine T.iadd (q := 1262) dL_law__1261 rfl ?_
      refine T.sld hv.2.2.2.1 hA3 dL_law__1262 (q := 1263) rfl ?_
      refine T.if_eq (tgt := 1270) (q := 1266) dL_law__1263 (by decide) rfl (fun h8 => absurd h8 z1230) (fun _ => ?_)
      refine T.iconst (q := 1267) (1) dL_law__1266 rfl (by decide) ?_
      refine T.goto (tgt := 1271) dL_law__1267 (by decide) ?_
      refine T.cV (As := [.int A1, .int A2, .int (1 : Int32)]) (c := 140) (ci := 8) (C := RX8) (T := TX8) (N := 27) (t_X8_guard h9) w_L_195 cw_X8_guard np_X8_guard rfl (by decide) rfl (by decide) rfl (Nat.le_of_ble_eq_true rfl) (Nat.le_of_ble_eq_true rfl) (rm_c (by omega)) (rm_s (by omega)) rfl (Nat.le_of_ble_eq_true rfl) dL_law__1271 (q := 1274) rfl ?_
      rintro _ M2 ⟨b9, rfl, e0, hI⟩
      refine T.ist_6 (q := 1276) dL_law__1274 rfl (by decide) sk_ok_i ?_
      refine T.ald_2 (q := 1277) dL_law__1276 rfl ?_
      refine T.cV (As := []) (c := 140) (ci := 8) (C := RX8) (T := TX8) (N := 27) (t_X8_thrown (P := fun r9 => r9 = M2.1 140 0) rfl) w_L_149 cw_X8_thrown np_X8_thrown rfl (by decide) rfl (by decide) rfl (Nat.le_of_ble_eq_true rfl) (Nat.le_of_ble_eq_true rfl) (rm_c (by omega)) (rm_s (by omega)) rfl (Nat.le_of_ble_eq_true rfl) dL_law__1277 (q := 1280) rfl ?_
      rintro _ M3 ⟨r3, rfl, rfl, e9⟩
      obtain rfl := e9.symm
      refine T.ild_5 (q := 1282) dL_law__1280 rfl ?_
      refine T.ic_eq (tgt := 1287) (q := 1285) dL_law__1282 (by decide) rfl (fun _ => ?_) (fun h8 => absurd e0 h8)
      refine T.ild_5 (q := 1289) dL_law__1287 rfl ?_
      refine T.if_ne (tgt := 1311) (q := 1292) dL_law__1289 (by decide) rfl (fun _ => ?_) (fun h8 => absurd h8 (lnz hj))
      refine T.goto (tgt := 2945) dL_law__1311 (by decide) ?_
      exact T.drop_5 (T.drop_6 (TJ.wide (by omega) (by omega) (kk _ hI)))
