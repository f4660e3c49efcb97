/-! the law's cases 16 to 31 -/
theorem lwc_16 {G : sk_G} {b L : Nat} {ys : Nat → Int32} {M : sk_M} {i : Int32} {cells slots : Nat} (h : Inv M) (hv : lwv i L) (hc : cells + 8 ≤ 601024) (hs : slots + 48 ≤ 7293033) (kk : ∀ M0, Inv M0 → TJ G mL_law_ room_1 (lw_E G b L ys) (cells + 8) (slots + 48) 2945 [some (.ref b), some (.ref (G.2.2.1 120)), some (.ref (G.2.2.1 140)), some (.ref (G.2.2.1 158)), some (.int i), none, none] [] M0) : TJ G mL_law_ room_1 (lw_E G b L ys) cells slots 1314 [some (.ref b), some (.ref (G.2.2.1 120)), some (.ref (G.2.2.1 140)), some (.ref (G.2.2.1 158)), some (.int i), none, none] [] M := by
  obtain ⟨A1, hA1⟩ : ∃ z, z = ys (i + 1).toNatClampNeg := ⟨_, rfl⟩
  obtain ⟨A2, hA2⟩ : ∃ z, z = ys (i + 2).toNatClampNeg := ⟨_, rfl⟩
  obtain ⟨A3, hA3⟩ : ∃ z, z = ys (i + 3).toNatClampNeg := ⟨_, rfl⟩
  obtain ⟨A4, hA4⟩ : ∃ z, z = ys (i + 4).toNatClampNeg := ⟨_, rfl⟩
  obtain ⟨A5, hA5⟩ : ∃ z, z = ys (i + 5).toNatClampNeg := ⟨_, rfl⟩
  refine T.ald_1 (q := 1315) dL_law__1314 rfl ?_
  refine T.ald_0 (q := 1316) dL_law__1315 rfl ?_
  refine T.ild_4 (q := 1318) dL_law__1316 rfl ?_
  refine T.iconst (q := 1319) (1) dL_law__1318 rfl (by decide) ?_
  refine T.iadd (q := 1320) dL_law__1319 rfl ?_
  refine T.sld hv.2.1 hA1 dL_law__1320 (q := 1321) rfl ?_
  refine T.ald_3 (q := 1322) dL_law__1321 rfl ?_
  refine T.cSH (As := [.ref (G.2.2.1 120), .int A1, .ref (G.2.2.1 158)]) (rest := []) (t_L_days (Q0 := fun M1 => w_X8_days A1 M1 (fun b9 M2 => M2.1 140 0 = 0 ∧ M2.2 158 0 = b9.toInt64 ∧ Inv M2)) (QX := fun j M1 => w_X8_days A1 M1 (fun _ M2 => M2.1 140 0 = nI (j + 1) ∧ Inv M2)) (st_days h A1).go) w_L_196 cw_L_days np_L_days (Nat.le_of_ble_eq_true rfl) (Nat.le_of_ble_eq_true rfl) (rm_c (by omega)) (rm_s (by omega)) rfl (Nat.le_of_ble_eq_true rfl) dL_law__1322 (q := 1325) rfl ?_
  rintro _ M9 ⟨k, rfl, h9⟩
  rcases h9 with ⟨rfl, h9⟩ | ⟨j, rfl, hj, h9⟩
  · skip
    refine T.ist_5 (q := 1327) dL_law__1325 rfl (by decide) sk_ok_i ?_
    refine T.ald_2 (q := 1328) dL_law__1327 rfl ?_
    refine T.ald_0 (q := 1329) dL_law__1328 rfl ?_
    refine T.ild_4 (q := 1331) dL_law__1329 rfl ?_
    refine T.iconst (q := 1332) (1) dL_law__1331 rfl (by decide) ?_
    refine T.iadd (q := 1333) dL_law__1332 rfl ?_
    refine T.sld hv.2.1 hA1 dL_law__1333 (q := 1334) rfl ?_
    refine T.cV (As := [.int A1]) (c := 140) (ci := 8) (C := RX8) (T := TX8) (N := 27) (t_X8_days h9) w_L_199 cw_X8_days np_X8_days rfl (by decide) rfl (by decide) rfl (Nat.le_of_ble_eq_true rfl) (Nat.le_of_ble_eq_true rfl) (rm_c (by omega)) (rm_s (by omega)) rfl (Nat.le_of_ble_eq_true rfl) dL_law__1334 (q := 1337) rfl ?_
    rintro _ M2 ⟨b9, rfl, e0, e1, hI⟩
    refine T.ist_6 (q := 1339) dL_law__1337 rfl (by decide) sk_ok_i ?_
    refine T.ald_2 (q := 1340) dL_law__1339 rfl ?_
    refine T.cV (As := []) (c := 140) (ci := 8) (C := RX8) (T := TX8) (N := 27) (t_X8_thrown (P := fun r9 => r9 = M2.1 140 0) rfl) w_L_149 cw_X8_thrown np_X8_thrown rfl (by decide) rfl (by decide) rfl (Nat.le_of_ble_eq_true rfl) (Nat.le_of_ble_eq_true rfl) (rm_c (by omega)) (rm_s (by omega)) rfl (Nat.le_of_ble_eq_true rfl) dL_law__1340 (q := 1343) rfl ?_
    rintro _ M3 ⟨r3, rfl, rfl, e9⟩
    obtain rfl := e9.symm
    refine T.ild_5 (q := 1345) dL_law__1343 rfl ?_
    refine T.ic_eq (tgt := 1350) (q := 1348) dL_law__1345 (by decide) rfl (fun _ => ?_) (fun h8 => absurd e0 h8)
    refine T.ild_5 (q := 1352) dL_law__1350 rfl ?_
    refine T.if_ne (tgt := 1367) (q := 1355) dL_law__1352 (by decide) rfl (fun h8 => absurd rfl h8) (fun _ => ?_)
    refine T.ald_3 (q := 1356) dL_law__1355 rfl ?_
    refine T.iconst (q := 1357) (0) dL_law__1356 rfl (by decide) ?_
    refine T.laldk (n := 1) rfl rfl (by decide) dL_law__1357 (q := 1358) rfl (k9 := 0) (by decide) ?_
    refine T.ild_6 (q := 1360) dL_law__1358 rfl ?_
    refine T.i2l (q := 1361) dL_law__1360 rfl ?_
    refine T.lcmp (q := 1362) dL_law__1361 rfl ?_
    refine T.if_eq (tgt := 1367) (q := 1365) dL_law__1362 (by decide) rfl (fun _ => ?_) (fun h8 => absurd (lgc e1) h8)
    refine T.goto (tgt := 2945) dL_law__1367 (by decide) ?_
    exact T.drop_5 (T.drop_6 (TJ.wide (by omega) (by omega) (kk _ hI)))
  · skip
    refine T.ist_5 (q := 1327) dL_law__1325 rfl (by decide) sk_ok_i ?_
    refine T.ald_2 (q := 1328) dL_law__1327 rfl ?_
    refine T.ald_0 (q := 1329) dL_law__1328 rfl ?_
    refine T.ild_4 (q := 1331) dL_law__1329 rfl ?_
    refine T.iconst (q := 1332) (1) dL_law__1331 rfl (by decide) ?_
    refine T.iadd (q := 1333) dL_law__1332 rfl ?_
    refine T.sld hv.2.1 hA1 dL_law__1333 (q := 1334) rfl ?_
    refine T.cV (As := [.int A1]) (c := 140) (ci := 8) (C := RX8) (T := TX8) (N := 27) (t_X8_days h9) w_L_199 cw_X8_days np_X8_days rfl (by decide) rfl (by decide) rfl (Nat.le_of_ble_eq_true rfl) (Nat.le_of_ble_eq_true rfl) (rm_c (by omega)) (rm_s (by omega)) rfl (Nat.le_of_ble_eq_true rfl) dL_law__1334 (q := 1337) rfl ?_
    rintro _ M2 ⟨b9, rfl, e0, hI⟩
    refine T.ist_6 (q := 1339) dL_law__1337 rfl (by decide) sk_ok_i ?_
    refine T.ald_2 (q := 1340) dL_law__1339 rfl ?_
    refine T.cV (As := []) (c := 140) (ci := 8) (C := RX8) (T := TX8) (N := 27) (t_X8_thrown (P := fun r9 => r9 = M2.1 140 0) rfl) w_L_149 cw_X8_thrown np_X8_thrown rfl (by decide) rfl (by decide) rfl (Nat.le_of_ble_eq_true rfl) (Nat.le_of_ble_eq_true rfl) (rm_c (by omega)) (rm_s (by omega)) rfl (Nat.le_of_ble_eq_true rfl) dL_law__1340 (q := 1343) rfl ?_
    rintro _ M3 ⟨r3, rfl, rfl, e9⟩
    obtain rfl := e9.symm
    refine T.ild_5 (q := 1345) dL_law__1343 rfl ?_
    refine T.ic_eq (tgt := 1350) (q := 1348) dL_law__1345 (by decide) rfl (fun _ => ?_) (fun h8 => absurd e0 h8)
    refine T.ild_5 (q := 1352) dL_law__1350 rfl ?_
    refine T.if_ne (tgt := 1367) (q := 1355) dL_law__1352 (by decide) rfl (fun _ => ?_) (fun h8 => absurd h8 (lnz hj))
    refine T.goto (tgt := 2945) dL_law__1367 (by decide) ?_
    exact T.drop_5 (T.drop_6 (TJ.wide (by omega) (by omega) (kk _ hI)))
theorem lwc_17 {G : sk_G} {b L : Nat} {ys : Nat → Int32} {M : sk_M} {i : Int32} {cells slots : Nat} (h : Inv M) (hv : lwv i L) (hc : cells + 8 ≤ 601024) (hs : slots + 48 ≤ 7293033) (kk : ∀ M0, Inv M0 → TJ G mL_law_ room_1 (lw_E G b L ys) (cells + 8) (slots + 48) 2945 [some (.ref b), some (.ref (G.2.2.1 120)), some (.ref (G.2.2.1 140)), some (.ref (G.2.2.1 158)), some (.int i), none, none] [] M0) : TJ G mL_law_ room_1 (lw_E G b L ys) cells slots 1370 [some (.ref b), some (.ref (G.2.2.1 120)), some (.ref (G.2.2.1 140)), some (.ref (G.2.2.1 158)), some (.int i), none, none] [] M := by
  obtain ⟨A1, hA1⟩ : ∃ z, z = ys (i + 1).toNatClampNeg := ⟨_, rfl⟩
  obtain ⟨A2, hA2⟩ : ∃ z, z = ys (i + 2).toNatClampNeg := ⟨_, rfl⟩
  obtain ⟨A3, hA3⟩ : ∃ z, z = ys (i + 3).toNatClampNeg := ⟨_, rfl⟩
  obtain ⟨A4, hA4⟩ : ∃ z, z = ys (i + 4).toNatClampNeg := ⟨_, rfl⟩
  obtain ⟨A5, hA5⟩ : ∃ z, z = ys (i + 5).toNatClampNeg := ⟨_, rfl⟩
  refine T.ald_1 (q := 1371) dL_law__1370 rfl ?_
  refine T.ald_0 (q := 1372) dL_law__1371 rfl ?_
  refine T.ild_4 (q := 1374) dL_law__1372 rfl ?_
  refine T.iconst (q := 1375) (1) dL_law__1374 rfl (by decide) ?_
  refine T.iadd (q := 1376) dL_law__1375 rfl ?_
  refine T.sld hv.2.1 hA1 dL_law__1376 (q := 1377) rfl ?_
  refine T.ald_0 (q := 1378) dL_law__1377 rfl ?_
  refine T.ild_4 (q := 1380) dL_law__1378 rfl ?_
  refine T.iconst (q := 1381) (2) dL_law__1380 rfl (by decide) ?_
  refine T.iadd (q := 1382) dL_law__1381 rfl ?_
  refine T.sld hv.2.2.1 hA2 dL_law__1382 (q := 1383) rfl ?_
  refine T.ald_0 (q := 1384) dL_law__1383 rfl ?_
  refine T.ild_4 (q := 1386) dL_law__1384 rfl ?_
  refine T.iconst (q := 1387) (3) dL_law__1386 rfl (by decide) ?_
  refine T.iadd (q := 1388) dL_law__1387 rfl ?_
  refine T.sld hv.2.2.2.1 hA3 dL_law__1388 (q := 1389) rfl ?_
  refine T.ald_0 (q := 1390) dL_law__1389 rfl ?_
  refine T.ild_4 (q := 1392) dL_law__1390 rfl ?_
  refine T.iconst (q := 1393) (4) dL_law__1392 rfl (by decide) ?_
  refine T.iadd (q := 1394) dL_law__1393 rfl ?_
  refine T.sld hv.2.2.2.2.1 hA4 dL_law__1394 (q := 1395) rfl ?_
  refine T.if_eq (tgt := 1402) (q := 1398) dL_law__1395 (by decide) rfl (fun z1395 => ?_) (fun z1395 => ?_)
  · skip
    refine T.iconst (q := 1403) (0) dL_law__1402 rfl (by decide) ?_
    refine T.ald_3 (q := 1404) dL_law__1403 rfl ?_
    refine T.cSH (As := [.ref (G.2.2.1 120), .int A1, .int A2, .int A3, .int (0 : Int32), .ref (G.2.2.1 158)]) (rest := []) (t_L_parts (Q0 := fun M1 => w_X8_parts A1 A2 A3 (0 : Int32) M1 (fun b9 M2 => M2.1 140 0 = 0 ∧ M2.2 158 0 = b9.toInt64 ∧ Inv M2)) (QX := fun j M1 => w_X8_parts A1 A2 A3 (0 : Int32) M1 (fun _ M2 => M2.1 140 0 = nI (j + 1) ∧ Inv M2)) (st_parts h A1 A2 A3 (0 : Int32)).go) w_L_200 cw_L_parts np_L_parts (Nat.le_of_ble_eq_true rfl) (Nat.le_of_ble_eq_true rfl) (rm_c (by omega)) (rm_s (by omega)) rfl (Nat.le_of_ble_eq_true rfl) dL_law__1404 (q := 1407) rfl ?_
    rintro _ M9 ⟨k, rfl, h9⟩
    rcases h9 with ⟨rfl, h9⟩ | ⟨j, rfl, hj, h9⟩
    · skip
      refine T.ist_5 (q := 1409) dL_law__1407 rfl (by decide) sk_ok_i ?_
      refine T.ald_2 (q := 1410) dL_law__1409 rfl ?_
      refine T.ald_0 (q := 1411) dL_law__1410 rfl ?_
      refine T.ild_4 (q := 1413) dL_law__1411 rfl ?_
      refine T.iconst (q := 1414) (1) dL_law__1413 rfl (by decide) ?_
      refine T.iadd (q := 1415) dL_law__1414 rfl ?_
      refine T.sld hv.2.1 hA1 dL_law__1415 (q := 1416) rfl ?_
      refine T.ald_0 (q := 1417) dL_law__1416 rfl ?_
      refine T.ild_4 (q := 1419) dL_law__1417 rfl ?_
      refine T.iconst (q := 1420) (2) dL_law__1419 rfl (by decide) ?_
      refine T.iadd (q := 1421) dL_law__1420 rfl ?_
      refine T.sld hv.2.2.1 hA2 dL_law__1421 (q := 1422) rfl ?_
      refine T.ald_0 (q := 1423) dL_law__1422 rfl ?_
      refine T.ild_4 (q := 1425) dL_law__1423 rfl ?_
      refine T.iconst (q := 1426) (3) dL_law__1425 rfl (by decide) ?_
      refine T.iadd (q := 1427) dL_law__1426 rfl ?_
      refine T.sld hv.2.2.2.1 hA3 dL_law__1427 (q := 1428) rfl ?_
      refine T.ald_0 (q := 1429) dL_law__1428 rfl ?_
      refine T.ild_4 (q := 1431) dL_law__1429 rfl ?_
      refine T.iconst (q := 1432) (4) dL_law__1431 rfl (by decide) ?_
      refine T.iadd (q := 1433) dL_law__1432 rfl ?_
      refine T.sld hv.2.2.2.2.1 hA4 dL_law__1433 (q := 1434) rfl ?_
      refine T.if_eq (tgt := 1441) (q := 1437) dL_law__1434 (by decide) rfl (fun _ => ?_) (fun h8 => absurd z1395 h8)
      refine T.iconst (q := 1442) (0) dL_law__1441 rfl (by decide) ?_
      refine T.cV (As := [.int A1, .int A2, .int A3, .int (0 : Int32)]) (c := 140) (ci := 8) (C := RX8) (T := TX8) (N := 27) (t_X8_parts h9) w_L_202 cw_X8_parts np_X8_parts rfl (by decide) rfl (by decide) rfl (Nat.le_of_ble_eq_true rfl) (Nat.le_of_ble_eq_true rfl) (rm_c (by omega)) (rm_s (by omega)) rfl (Nat.le_of_ble_eq_true rfl) dL_law__1442 (q := 1445) rfl ?_
      rintro _ M2 ⟨b9, rfl, e0, e1, hI⟩
      refine T.ist_6 (q := 1447) dL_law__1445 rfl (by decide) sk_ok_i ?_
      refine T.ald_2 (q := 1448) dL_law__1447 rfl ?_
      refine T.cV (As := []) (c := 140) (ci := 8) (C := RX8) (T := TX8) (N := 27) (t_X8_thrown (P := fun r9 => r9 = M2.1 140 0) rfl) w_L_149 cw_X8_thrown np_X8_thrown rfl (by decide) rfl (by decide) rfl (Nat.le_of_ble_eq_true rfl) (Nat.le_of_ble_eq_true rfl) (rm_c (by omega)) (rm_s (by omega)) rfl (Nat.le_of_ble_eq_true rfl) dL_law__1448 (q := 1451) rfl ?_
      rintro _ M3 ⟨r3, rfl, rfl, e9⟩
      obtain rfl := e9.symm
      refine T.ild_5 (q := 1453) dL_law__1451 rfl ?_
      refine T.ic_eq (tgt := 1458) (q := 1456) dL_law__1453 (by decide) rfl (fun _ => ?_) (fun h8 => absurd e0 h8)
      refine T.ild_5 (q := 1460) dL_law__1458 rfl ?_
      refine T.if_ne (tgt := 1475) (q := 1463) dL_law__1460 (by decide) rfl (fun h8 => absurd rfl h8) (fun _ => ?_)
      refine T.ald_3 (q := 1464) dL_law__1463 rfl ?_
      refine T.iconst (q := 1465) (0) dL_law__1464 rfl (by decide) ?_
      refine T.laldk (n := 1) rfl rfl (by decide) dL_law__1465 (q := 1466) rfl (k9 := 0) (by decide) ?_
      refine T.ild_6 (q := 1468) dL_law__1466 rfl ?_
      refine T.i2l (q := 1469) dL_law__1468 rfl ?_
      refine T.lcmp (q := 1470) dL_law__1469 rfl ?_
      refine T.if_eq (tgt := 1475) (q := 1473) dL_law__1470 (by decide) rfl (fun _ => ?_) (fun h8 => absurd (lgc e1) h8)
      refine T.goto (tgt := 2945) dL_law__1475 (by decide) ?_
      exact T.drop_5 (T.drop_6 (TJ.wide (by omega) (by omega) (kk _ hI)))
    · skip
      refine T.ist_5 (q := 1409) dL_law__1407 rfl (by decide) sk_ok_i ?_
      refine T.ald_2 (q := 1410) dL_law__1409 rfl ?_
      refine T.ald_0 (q := 1411) dL_law__1410 rfl ?_
      refine T.ild_4 (q := 1413) dL_law__1411 rfl ?_
      refine T.iconst (q := 1414) (1) dL_law__1413 rfl (by decide) ?_
      refine T.iadd (q := 1415) dL_law__1414 rfl ?_
      refine T.sld hv.2.1 hA1 dL_law__1415 (q := 1416) rfl ?_
      refine T.ald_0 (q := 1417) dL_law__1416 rfl ?_
      refine T.ild_4 (q := 1419) dL_law__1417 rfl ?_
      refine T.iconst (q := 1420) (2) dL_law__1419 rfl (by decide) ?_
      refine T.iadd (q := 1421) dL_law__1420 rfl ?_
      refine T.sld hv.2.2.1 hA2 dL_law__1421 (q := 1422) rfl ?_
      refine T.ald_0 (q := 1423) dL_law__1422 rfl ?_
      refine T.ild_4 (q := 1425) dL_law__1423 rfl ?_
      refine T.iconst (q := 1426) (3) dL_law__1425 rfl (by decide) ?_
      refine T.iadd (q := 1427) dL_law__1426 rfl ?_
      refine T.sld hv.2.2.2.1 hA3 dL_law__1427 (q := 1428) rfl ?_
      refine T.ald_0 (q := 1429) dL_law__1428 rfl ?_
      refine T.ild_4 (q := 1431) dL_law__1429 rfl ?_
      refine T.iconst (q := 1432) (4) dL_law__1431 rfl (by decide) ?_
      refine T.iadd (q := 1433) dL_law__1432 rfl ?_
      refine T.sld hv.2.2.2.2.1 hA4 dL_law__1433 (q := 1434) rfl ?_
      refine T.if_eq (tgt := 1441) (q := 1437) dL_law__1434 (by decide) rfl (fun _ => ?_) (fun h8 => absurd z1395 h8)
      refine T.iconst (q := 1442) (0) dL_law__1441 rfl (by decide) ?_
      refine T.cV (As := [.int A1, .int A2, .int A3, .int (0 : Int32)]) (c := 140) (ci := 8) (C := RX8) (T := TX8) (N := 27) (t_X8_parts h9) w_L_202 cw_X8_parts np_X8_parts rfl (by decide) rfl (by decide) rfl (Nat.le_of_ble_eq_true rfl) (Nat.le_of_ble_eq_true rfl) (rm_c (by omega)) (rm_s (by omega)) rfl (Nat.le_of_ble_eq_true rfl) dL_law__1442 (q := 1445) rfl ?_
      rintro _ M2 ⟨b9, rfl, e0, hI⟩
      refine T.ist_6 (q := 1447) dL_law__1445 rfl (by decide) sk_ok_i ?_
      refine T.ald_2 (q := 1448) dL_law__1447 rfl ?_
      refine T.cV (As := []) (c := 140) (ci := 8) (C := RX8) (T := TX8) (N := 27) (t_X8_thrown (P := fun r9 => r9 = M2.1 140 0) rfl) w_L_149 cw_X8_thrown np_X8_thrown rfl (by decide) rfl (by decide) rfl (Nat.le_of_ble_eq_true rfl) (Nat.le_of_ble_eq_true rfl) (rm_c (by omega)) (rm_s (by omega)) rfl (Nat.le_of_ble_eq_true rfl) dL_law__1448 (q := 1451) rfl ?_
      rintro _ M3 ⟨r3, rfl, rfl, e9⟩
      obtain rfl := e9.symm
      refine T.ild_5 (q := 1453) dL_law__1451 rfl ?_
      refine T.ic_eq (tgt := 1458) (q := 1456) dL_law__1453 (by decide) rfl (fun _ => ?_) (fun h8 => absurd e0 h8)
      refine T.ild_5 (q := 1460) dL_law__1458 rfl ?_
      refine T.if_ne (tgt := 1475) (q := 1463) dL_law__1460 (by decide) rfl (fun _ => ?_) (fun h8 => absurd h8 (lnz hj))
      refine T.goto (tgt := 2945) dL_law__1475 (by decide) ?_
      exact T.drop_5 (T.drop_6 (TJ.wide (by omega) (by omega) (kk _ hI)))
  · skip
    refine T.iconst (q := 1399) (1) dL_law__1398 rfl (by decide) ?_
    refine T.goto (tgt := 1403) dL_law__1399 (by decide) ?_
    refine T.ald_3 (q := 1404) dL_law__1403 rfl ?_
    refine T.cSH (As := [.ref (G.2.2.1 120), .int A1, .int A2, .int A3, .int (1 : Int32), .ref (G.2.2.1 158)]) (rest := []) (t_L_parts (Q0 := fun M1 => w_X8_parts A1 A2 A3 (1 : Int32) M1 (fun b9 M2 => M2.1 140 0 = 0 ∧ M2.2 158 0 = b9.toInt64 ∧ Inv M2)) (QX := fun j M1 => w_X8_parts A1 A2 A3 (1 : Int32) M1 (fun _ M2 => M2.1 140 0 = nI (j + 1) ∧ Inv M2)) (st_parts h A1 A2 A3 (1 : Int32)).go) w_L_200 cw_L_parts np_L_parts (Nat.le_of_ble_eq_true rfl) (Nat.le_of_ble_eq_true rfl) (rm_c (by omega)) (rm_s (by omega)) rfl (Nat.le_of_ble_eq_true rfl) dL_law__1404 (q := 1407) rfl ?_
    rintro _ M9 ⟨k, rfl, h9⟩
    rcases h9 with ⟨rfl, h9⟩ | ⟨j, rfl, hj, h9⟩
    · skip
      refine T.ist_5 (q := 1409) dL_law__1407 rfl (by decide) sk_ok_i ?_
      refine T.ald_2 (q := 1410) dL_law__1409 rfl ?_
      refine T.ald_0 (q := 1411) dL_law__1410 rfl ?_
      refine T.ild_4 (q := 1413) dL_law__1411 rfl ?_
      refine T.iconst (q := 1414) (1) dL_law__1413 rfl (by decide) ?_
      refine T.iadd (q := 1415) dL_law__1414 rfl ?_
      refine T.sld hv.2.1 hA1 dL_law__1415 (q := 1416) rfl ?_
      refine T.ald_0 (q := 1417) dL_law__1416 rfl ?_
      refine T.ild_4 (q := 1419) dL_law__1417 rfl ?_
      refine T.iconst (q := 1420) (2) dL_law__1419 rfl (by decide) ?_
      refine T.iadd (q := 1421) dL_law__1420 rfl ?_
      refine T.sld hv.2.2.1 hA2 dL_law__1421 (q := 1422) rfl ?_
      refine T.ald_0 (q := 1423) dL_law__1422 rfl ?_
      refine T.ild_4 (q := 1425) dL_law__1423 rfl ?_
      refine T.iconst (q := 1426) (3) dL_law__1425 rfl (by decide) ?_
      refine T.iadd (q := 1427) dL_law__1426 rfl ?_
      refine T.sld hv.2.2.2.1 hA3 dL_law__1427 (q := 1428) rfl ?_
      refine T.ald_0 (q := 1429) dL_law__1428 rfl ?_
      refine T.ild_4 (q := 1431) dL_law__1429 rfl ?_
      refine T.iconst (q := 1432) (4) dL_law__1431 rfl (by decide) ?_
      refine T.iadd (q := 1433) dL_law__1432 rfl ?_
      refine T.sld hv.2.2.2.2.1 hA4 dL_law__1433 (q := 1434) rfl ?_
      refine T.if_eq (tgt := 1441) (q := 1437) dL_law__1434 (by decide) rfl (fun h8 => absurd h8 z1395) (fun _ => ?_)
      refine T.iconst (q := 1438) (1) dL_law__1437 rfl (by decide) ?_
      refine T.goto (tgt := 1442) dL_law__1438 (by decide) ?_
      refine T.cV (As := [.int A1, .int A2, .int A3, .int (1 : Int32)]) (c := 140) (ci := 8) (C := RX8) (T := TX8) (N := 27) (t_X8_parts h9) w_L_202 cw_X8_parts np_X8_parts rfl (by decide) rfl (by decide) rfl (Nat.le_of_ble_eq_true rfl) (Nat.le_of_ble_eq_true rfl) (rm_c (by omega)) (rm_s (by omega)) rfl (Nat.le_of_ble_eq_true rfl) dL_law__1442 (q := 1445) rfl ?_
      rintro _ M2 ⟨b9, rfl, e0, e1, hI⟩
      refine T.ist_6 (q := 1447) dL_law__1445 rfl (by decide) sk_ok_i ?_
      refine T.ald_2 (q := 1448) dL_law__1447 rfl ?_
      refine T.cV (As := []) (c := 140) (ci := 8) (C := RX8) (T := TX8) (N := 27) (t_X8_thrown (P := fun r9 => r9 = M2.1 140 0) rfl) w_L_149 cw_X8_thrown np_X8_thrown rfl (by decide) rfl (by decide) rfl (Nat.le_of_ble_eq_true rfl) (Nat.le_of_ble_eq_true rfl) (rm_c (by omega)) (rm_s (by omega)) rfl (Nat.le_of_ble_eq_true rfl) dL_law__1448 (q := 1451) rfl ?_
      rintro _ M3 ⟨r3, rfl, rfl, e9⟩
      obtain rfl := e9.symm
      refine T.ild_5 (q := 1453) dL_law__1451 rfl ?_
      refine T.ic_eq (tgt := 1458) (q := 1456) dL_law__1453 (by decide) rfl (fun _ => ?_) (fun h8 => absurd e0 h8)
      refine T.ild_5 (q := 1460) dL_law__1458 rfl ?_
      refine T.if_ne (tgt := 1475) (q := 1463) dL_law__1460 (by decide) rfl (fun h8 => absurd rfl h8) (fun _ => ?_)
      refine T.ald_3 (q := 1464) dL_law__1463 rfl ?_
      refine T.iconst (q := 1465) (0) dL_law__1464 rfl (by decide) ?_
      refine T.laldk (n := 1) rfl rfl (by decide) dL_law__1465 (q := 1466) rfl (k9 := 0) (by decide) ?_
      refine T.ild_6 (q := 1468) dL_law__1466 rfl ?_
      refine T.i2l (q := 1469) dL_law__1468 rfl ?_
      refine T.lcmp (q := 1470) dL_law__1469 rfl ?_
      refine T.if_eq (tgt := 1475) (q := 1473) dL_law__1470 (by decide) rfl (fun _ => ?_) (fun h8 => absurd (lgc e1) h8)
      refine T.goto (tgt := 2945) dL_law__1475 (by decide) ?_
      exact T.drop_5 (T.drop_6 (TJ.wide (by omega) (by omega) (kk _ hI)))
    · skip
      refine T.ist_5 (q := 1409) dL_law__1407 rfl (by decide) sk_ok_i ?_
      refine T.ald_2 (q := 1410) dL_law__1409 rfl ?_
      refine T.ald_0 (q := 1411) dL_law__1410 rfl ?_
      refine T.ild_4 (q := 1413) dL_law__1411 rfl ?_
      refine T.iconst (q := 1414) (1) dL_law__1413 rfl (by decide) ?_
      refine T.iadd (q := 1415) dL_law__1414 rfl ?_
      refine T.sld hv.2.1 hA1 dL_law__1415 (q := 1416) rfl ?_
      refine T.ald_0 (q := 1417) dL_law__1416 rfl ?_
      refine T.ild_4 (q := 1419) dL_law__1417 rfl ?_
      refine T.iconst (q := 1420) (2) dL_law__1419 rfl (by decide) ?_
      refine T.iadd (q := 1421) dL_law__1420 rfl ?_
      refine T.sld hv.2.2.1 hA2 dL_law__1421 (q := 1422) rfl ?_
      refine T.ald_0 (q := 1423) dL_law__1422 rfl ?_
      refine T.ild_4 (q := 1425) dL_law__1423 rfl ?_
      refine T.iconst (q := 1426) (3) dL_law__1425 rfl (by decide) ?_
      refine T.iadd (q := 1427) dL_law__1426 rfl ?_
      refine T.sld hv.2.2.2.1 hA3 dL_law__1427 (q := 1428) rfl ?_
      refine T.ald_0 (q := 1429) dL_law__1428 rfl ?_
      refine T.ild_4 (q := 1431) dL_law__1429 rfl ?_
      refine T.iconst (q := 1432) (4) dL_law__1431 rfl (by decide) ?_
      refine T.iadd (q := 1433) dL_law__1432 rfl ?_
      refine T.sld hv.2.2.2.2.1 hA4 dL_law__1433 (q := 1434) rfl ?_
      refine T.if_eq (tgt := 1441) (q := 1437) dL_law__1434 (by decide) rfl (fun h8 => absurd h8 z1395) (fun _ => ?_)
      refine T.iconst (q := 1438) (1) dL_law__1437 rfl (by decide) ?_
      refine T.goto (tgt := 1442) dL_law__1438 (by decide) ?_
      refine T.cV (As := [.int A1, .int A2, .int A3, .int (1 : Int32)]) (c := 140) (ci := 8) (C := RX8) (T := TX8) (N := 27) (t_X8_parts h9) w_L_202 cw_X8_parts np_X8_parts rfl (by decide) rfl (by decide) rfl (Nat.le_of_ble_eq_true rfl) (Nat.le_of_ble_eq_true rfl) (rm_c (by omega)) (rm_s (by omega)) rfl (Nat.le_of_ble_eq_true rfl) dL_law__1442 (q := 1445) rfl ?_
      rintro _ M2 ⟨b9, rfl, e0, hI⟩
      refine T.ist_6 (q := 1447) dL_law__1445 rfl (by decide) sk_ok_i ?_
      refine T.ald_2 (q := 1448) dL_law__1447 rfl ?_
      refine T.cV (As := []) (c := 140) (ci := 8) (C := RX8) (T := TX8) (N := 27) (t_X8_thrown (P := fun r9 => r9 = M2.1 140 0) rfl) w_L_149 cw_X8_thrown np_X8_thrown rfl (by decide) rfl (by decide) rfl (Nat.le_of_ble_eq_true rfl) (Nat.le_of_ble_eq_true rfl) (rm_c (by omega)) (rm_s (by omega)) rfl (Nat.le_of_ble_eq_true rfl) dL_law__1448 (q := 1451) rfl ?_
      rintro _ M3 ⟨r3, rfl, rfl, e9⟩
      obtain rfl := e9.symm
      refine T.ild_5 (q := 1453) dL_law__1451 rfl ?_
      refine T.ic_eq (tgt := 1458) (q := 1456) dL_law__1453 (by decide) rfl (fun _ => ?_) (fun h8 => absurd e0 h8)
      refine T.ild_5 (q := 1460) dL_law__1458 rfl ?_
      refine T.if_ne (tgt := 1475) (q := 1463) dL_law__1460 (by decide) rfl (fun _ => ?_) (fun h8 => absurd h8 (lnz hj))
      refine T.goto (tgt := 2945) dL_law__1475 (by decide) ?_
      exact T.drop_5 (T.drop_6 (TJ.wide (by omega) (by omega) (kk _ hI)))
theorem lwc_18 {G : sk_G} {b L : Nat} {ys : Nat → Int32} {M : sk_M} {i : Int32} {cells slots : Nat} (h : Inv M) (hv : lwv i L) (hc : cells + 8 ≤ 601024) (hs : slots + 48 ≤ 7293033) (kk : ∀ M0, Inv M0 → TJ G mL_law_ room_1 (lw_E G b L ys) (cells + 8) (slots + 48) 2945 [some (.ref b), some (.ref (G.2.2.1 120)), some (.ref (G.2.2.1 140)), some (.ref (G.2.2.1 158)), some (.int i), none, none] [] M0) : TJ G mL_law_ room_1 (lw_E G b L ys) cells slots 1478 [some (.ref b), some (.ref (G.2.2.1 120)), some (.ref (G.2.2.1 140)), some (.ref (G.2.2.1 158)), some (.int i), none, none] [] M := by
  obtain ⟨A1, hA1⟩ : ∃ z, z = ys (i + 1).toNatClampNeg := ⟨_, rfl⟩
  obtain ⟨A2, hA2⟩ : ∃ z, z = ys (i + 2).toNatClampNeg := ⟨_, rfl⟩
  obtain ⟨A3, hA3⟩ : ∃ z, z = ys (i + 3).toNatClampNeg := ⟨_, rfl⟩
  obtain ⟨A4, hA4⟩ : ∃ z, z = ys (i + 4).toNatClampNeg := ⟨_, rfl⟩
  obtain ⟨A5, hA5⟩ : ∃ z, z = ys (i + 5).toNatClampNeg := ⟨_, rfl⟩
  refine T.ald_1 (q := 1479) dL_law__1478 rfl ?_
  refine T.ald_0 (q := 1480) dL_law__1479 rfl ?_
  refine T.ild_4 (q := 1482) dL_law__1480 rfl ?_
  refine T.iconst (q := 1483) (1) dL_law__1482 rfl (by decide) ?_
  refine T.iadd (q := 1484) dL_law__1483 rfl ?_
  refine T.sld hv.2.1 hA1 dL_law__1484 (q := 1485) rfl ?_
  refine T.ald_0 (q := 1486) dL_law__1485 rfl ?_
  refine T.ild_4 (q := 1488) dL_law__1486 rfl ?_
  refine T.iconst (q := 1489) (2) dL_law__1488 rfl (by decide) ?_
  refine T.iadd (q := 1490) dL_law__1489 rfl ?_
  refine T.sld hv.2.2.1 hA2 dL_law__1490 (q := 1491) rfl ?_
  refine T.ald_3 (q := 1492) dL_law__1491 rfl ?_
  refine T.cSH (As := [.ref (G.2.2.1 120), .int A1, .int A2, .ref (G.2.2.1 158)]) (rest := []) (t_L_next (Q0 := fun M1 => w_X8_next A1 A2 M1 (fun b9 M2 => M2.1 140 0 = 0 ∧ M2.2 158 0 = b9.toInt64 ∧ Inv M2)) (QX := fun j M1 => w_X8_next A1 A2 M1 (fun _ M2 => M2.1 140 0 = nI (j + 1) ∧ Inv M2)) (st_next h A1 A2).go) w_L_203 cw_L_next np_L_next (Nat.le_of_ble_eq_true rfl) (Nat.le_of_ble_eq_true rfl) (rm_c (by omega)) (rm_s (by omega)) rfl (Nat.le_of_ble_eq_true rfl) dL_law__1492 (q := 1495) rfl ?_
  rintro _ M9 ⟨k, rfl, h9⟩
  rcases h9 with ⟨rfl, h9⟩ | ⟨j, rfl, hj, h9⟩
  · skip
    refine T.ist_5 (q := 1497) dL_law__1495 rfl (by decide) sk_ok_i ?_
    refine T.ald_2 (q := 1498) dL_law__1497 rfl ?_
    refine T.ald_0 (q := 1499) dL_law__1498 rfl ?_
    refine T.ild_4 (q := 1501) dL_law__1499 rfl ?_
    refine T.iconst (q := 1502) (1) dL_law__1501 rfl (by decide) ?_
    refine T.iadd (q := 1503) dL_law__1502 rfl ?_
    refine T.sld hv.2.1 hA1 dL_law__1503 (q := 1504) rfl ?_
    refine T.ald_0 (q := 1505) dL_law__1504 rfl ?_
    refine T.ild_4 (q := 1507) dL_law__1505 rfl ?_
    refine T.iconst (q := 1508) (2) dL_law__1507 rfl (by decide) ?_
    refine T.iadd (q := 1509) dL_law__1508 rfl ?_
    refine T.sld hv.2.2.1 hA2 dL_law__1509 (q := 1510) rfl ?_
    refine T.cV (As := [.int A1, .int A2]) (c := 140) (ci := 8) (C := RX8) (T := TX8) (N := 27) (t_X8_next h9) w_L_205 cw_X8_next np_X8_next rfl (by decide) rfl (by decide) rfl (Nat.le_of_ble_eq_true rfl) (Nat.le_of_ble_eq_true rfl) (rm_c (by omega)) (rm_s (by omega)) rfl (Nat.le_of_ble_eq_true rfl) dL_law__1510 (q := 1513) rfl ?_
    rintro _ M2 ⟨b9, rfl, e0, e1, hI⟩
    refine T.ist_6 (q := 1515) dL_law__1513 rfl (by decide) sk_ok_i ?_
    refine T.ald_2 (q := 1516) dL_law__1515 rfl ?_
    refine T.cV (As := []) (c := 140) (ci := 8) (C := RX8) (T := TX8) (N := 27) (t_X8_thrown (P := fun r9 => r9 = M2.1 140 0) rfl) w_L_149 cw_X8_thrown np_X8_thrown rfl (by decide) rfl (by decide) rfl (Nat.le_of_ble_eq_true rfl) (Nat.le_of_ble_eq_true rfl) (rm_c (by omega)) (rm_s (by omega)) rfl (Nat.le_of_ble_eq_true rfl) dL_law__1516 (q := 1519) rfl ?_
    rintro _ M3 ⟨r3, rfl, rfl, e9⟩
    obtain rfl := e9.symm
    refine T.ild_5 (q := 1521) dL_law__1519 rfl ?_
    refine T.ic_eq (tgt := 1526) (q := 1524) dL_law__1521 (by decide) rfl (fun _ => ?_) (fun h8 => absurd e0 h8)
    refine T.ild_5 (q := 1528) dL_law__1526 rfl ?_
    refine T.if_ne (tgt := 1543) (q := 1531) dL_law__1528 (by decide) rfl (fun h8 => absurd rfl h8) (fun _ => ?_)
    refine T.ald_3 (q := 1532) dL_law__1531 rfl ?_
    refine T.iconst (q := 1533) (0) dL_law__1532 rfl (by decide) ?_
    refine T.laldk (n := 1) rfl rfl (by decide) dL_law__1533 (q := 1534) rfl (k9 := 0) (by decide) ?_
    refine T.ild_6 (q := 1536) dL_law__1534 rfl ?_
    refine T.i2l (q := 1537) dL_law__1536 rfl ?_
    refine T.lcmp (q := 1538) dL_law__1537 rfl ?_
    refine T.if_eq (tgt := 1543) (q := 1541) dL_law__1538 (by decide) rfl (fun _ => ?_) (fun h8 => absurd (lgc e1) h8)
    refine T.goto (tgt := 2945) dL_law__1543 (by decide) ?_
    exact T.drop_5 (T.drop_6 (TJ.wide (by omega) (by omega) (kk _ hI)))
  · skip
    refine T.ist_5 (q := 1497) dL_law__1495 rfl (by decide) sk_ok_i ?_
    refine T.ald_2 (q := 1498) dL_law__1497 rfl ?_
    refine T.ald_0 (q := 1499) dL_law__1498 rfl ?_
    refine T.ild_4 (q := 1501) dL_law__1499 rfl ?_
    refine T.iconst (q := 1502) (1) dL_law__1501 rfl (by decide) ?_
    refine T.iadd (q := 1503) dL_law__1502 rfl ?_
    refine T.sld hv.2.1 hA1 dL_law__1503 (q := 1504) rfl ?_
    refine T.ald_0 (q := 1505) dL_law__1504 rfl ?_
    refine T.ild_4 (q := 1507) dL_law__1505 rfl ?_
    refine T.iconst (q := 1508) (2) dL_law__1507 rfl (by decide) ?_
    refine T.iadd (q := 1509) dL_law__1508 rfl ?_
    refine T.sld hv.2.2.1 hA2 dL_law__1509 (q := 1510) rfl ?_
    refine T.cV (As := [.int A1, .int A2]) (c := 140) (ci := 8) (C := RX8) (T := TX8) (N := 27) (t_X8_next h9) w_L_205 cw_X8_next np_X8_next rfl (by decide) rfl (by decide) rfl (Nat.le_of_ble_eq_true rfl) (Nat.le_of_ble_eq_true rfl) (rm_c (by omega)) (rm_s (by omega)) rfl (Nat.le_of_ble_eq_true rfl) dL_law__1510 (q := 1513) rfl ?_
    rintro _ M2 ⟨b9, rfl, e0, hI⟩
    refine T.ist_6 (q := 1515) dL_law__1513 rfl (by decide) sk_ok_i ?_
    refine T.ald_2 (q := 1516) dL_law__1515 rfl ?_
    refine T.cV (As := []) (c := 140) (ci := 8) (C := RX8) (T := TX8) (N := 27) (t_X8_thrown (P := fun r9 => r9 = M2.1 140 0) rfl) w_L_149 cw_X8_thrown np_X8_thrown rfl (by decide) rfl (by decide) rfl (Nat.le_of_ble_eq_true rfl) (Nat.le_of_ble_eq_true rfl) (rm_c (by omega)) (rm_s (by omega)) rfl (Nat.le_of_ble_eq_true rfl) dL_law__1516 (q := 1519) rfl ?_
    rintro _ M3 ⟨r3, rfl, rfl, e9⟩
    obtain rfl := e9.symm
    refine T.ild_5 (q := 1521) dL_law__1519 rfl ?_
    refine T.ic_eq (tgt := 1526) (q := 1524) dL_law__1521 (by decide) rfl (fun _ => ?_) (fun h8 => absurd e0 h8)
    refine T.ild_5 (q := 1528) dL_law__1526 rfl ?_
    refine T.if_ne (tgt := 1543) (q := 1531) dL_law__1528 (by decide) rfl (fun _ => ?_) (fun h8 => absurd h8 (lnz hj))
    refine T.goto (tgt := 2945) dL_law__1543 (by decide) ?_
    exact T.drop_5 (T.drop_6 (TJ.wide (by omega) (by omega) (kk _ hI)))
theorem lwc_19 {G : sk_G} {b L : Nat} {ys : Nat → Int32} {M : sk_M} {i : Int32} {cells slots : Nat} (h : Inv M) (hv : lwv i L) (hc : cells + 8 ≤ 601024) (hs : slots + 48 ≤ 7293033) (kk : ∀ M0, Inv M0 → TJ G mL_law_ room_1 (lw_E G b L ys) (cells + 8) (slots + 48) 2945 [some (.ref b), some (.ref (G.2.2.1 120)), some (.ref (G.2.2.1 140)), some (.ref (G.2.2.1 158)), some (.int i), none, none] [] M0) : TJ G mL_law_ room_1 (lw_E G b L ys) cells slots 1546 [some (.ref b), some (.ref (G.2.2.1 120)), some (.ref (G.2.2.1 140)), some (.ref (G.2.2.1 158)), some (.int i), none, none] [] M := by
  obtain ⟨A1, hA1⟩ : ∃ z, z = ys (i + 1).toNatClampNeg := ⟨_, rfl⟩
  obtain ⟨A2, hA2⟩ : ∃ z, z = ys (i + 2).toNatClampNeg := ⟨_, rfl⟩
  obtain ⟨A3, hA3⟩ : ∃ z, z = ys (i + 3).toNatClampNeg := ⟨_, rfl⟩
  obtain ⟨A4, hA4⟩ : ∃ z, z = ys (i + 4).toNatClampNeg := ⟨_, rfl⟩
  obtain ⟨A5, hA5⟩ : ∃ z, z = ys (i + 5).toNatClampNeg := ⟨_, rfl⟩
  refine T.ald_1 (q := 1547) dL_law__1546 rfl ?_
  refine T.ald_0 (q := 1548) dL_law__1547 rfl ?_
  refine T.ild_4 (q := 1550) dL_law__1548 rfl ?_
  refine T.iconst (q := 1551) (1) dL_law__1550 rfl (by decide) ?_
  refine T.iadd (q := 1552) dL_law__1551 rfl ?_
  refine T.sld hv.2.1 hA1 dL_law__1552 (q := 1553) rfl ?_
  refine T.ald_0 (q := 1554) dL_law__1553 rfl ?_
  refine T.ild_4 (q := 1556) dL_law__1554 rfl ?_
  refine T.iconst (q := 1557) (2) dL_law__1556 rfl (by decide) ?_
  refine T.iadd (q := 1558) dL_law__1557 rfl ?_
  refine T.sld hv.2.2.1 hA2 dL_law__1558 (q := 1559) rfl ?_
  refine T.ald_3 (q := 1560) dL_law__1559 rfl ?_
  refine T.cSH (As := [.ref (G.2.2.1 120), .int A1, .int A2, .ref (G.2.2.1 158)]) (rest := []) (t_L_outright (Q0 := fun M1 => w_X8_outright A1 A2 M1 (fun b9 M2 => M2.1 140 0 = 0 ∧ M2.2 158 0 = b9.toInt64 ∧ Inv M2)) (QX := fun j M1 => w_X8_outright A1 A2 M1 (fun _ M2 => M2.1 140 0 = nI (j + 1) ∧ Inv M2)) (st_outright h A1 A2).go) w_L_206 cw_L_outright np_L_outright (Nat.le_of_ble_eq_true rfl) (Nat.le_of_ble_eq_true rfl) (rm_c (by omega)) (rm_s (by omega)) rfl (Nat.le_of_ble_eq_true rfl) dL_law__1560 (q := 1563) rfl ?_
  rintro _ M9 ⟨k, rfl, h9⟩
  rcases h9 with ⟨rfl, h9⟩ | ⟨j, rfl, hj, h9⟩
  · skip
    refine T.ist_5 (q := 1565) dL_law__1563 rfl (by decide) sk_ok_i ?_
    refine T.ald_2 (q := 1566) dL_law__1565 rfl ?_
    refine T.ald_0 (q := 1567) dL_law__1566 rfl ?_
    refine T.ild_4 (q := 1569) dL_law__1567 rfl ?_
    refine T.iconst (q := 1570) (1) dL_law__1569 rfl (by decide) ?_
    refine T.iadd (q := 1571) dL_law__1570 rfl ?_
    refine T.sld hv.2.1 hA1 dL_law__1571 (q := 1572) rfl ?_
    refine T.ald_0 (q := 1573) dL_law__1572 rfl ?_
    refine T.ild_4 (q := 1575) dL_law__1573 rfl ?_
    refine T.iconst (q := 1576) (2) dL_law__1575 rfl (by decide) ?_
    refine T.iadd (q := 1577) dL_law__1576 rfl ?_
    refine T.sld hv.2.2.1 hA2 dL_law__1577 (q := 1578) rfl ?_
    refine T.cV (As := [.int A1, .int A2]) (c := 140) (ci := 8) (C := RX8) (T := TX8) (N := 27) (t_X8_outright h9) w_L_208 cw_X8_outright np_X8_outright rfl (by decide) rfl (by decide) rfl (Nat.le_of_ble_eq_true rfl) (Nat.le_of_ble_eq_true rfl) (rm_c (by omega)) (rm_s (by omega)) rfl (Nat.le_of_ble_eq_true rfl) dL_law__1578 (q := 1581) rfl ?_
    rintro _ M2 ⟨b9, rfl, e0, e1, hI⟩
    refine T.ist_6 (q := 1583) dL_law__1581 rfl (by decide) sk_ok_i ?_
    refine T.ald_2 (q := 1584) dL_law__1583 rfl ?_
    refine T.cV (As := []) (c := 140) (ci := 8) (C := RX8) (T := TX8) (N := 27) (t_X8_thrown (P := fun r9 => r9 = M2.1 140 0) rfl) w_L_149 cw_X8_thrown np_X8_thrown rfl (by decide) rfl (by decide) rfl (Nat.le_of_ble_eq_true rfl) (Nat.le_of_ble_eq_true rfl) (rm_c (by omega)) (rm_s (by omega)) rfl (Nat.le_of_ble_eq_true rfl) dL_law__1584 (q := 1587) rfl ?_
    rintro _ M3 ⟨r3, rfl, rfl, e9⟩
    obtain rfl := e9.symm
    refine T.ild_5 (q := 1589) dL_law__1587 rfl ?_
    refine T.ic_eq (tgt := 1594) (q := 1592) dL_law__1589 (by decide) rfl (fun _ => ?_) (fun h8 => absurd e0 h8)
    refine T.ild_5 (q := 1596) dL_law__1594 rfl ?_
    refine T.if_ne (tgt := 1611) (q := 1599) dL_law__1596 (by decide) rfl (fun h8 => absurd rfl h8) (fun _ => ?_)
    refine T.ald_3 (q := 1600) dL_law__1599 rfl ?_
    refine T.iconst (q := 1601) (0) dL_law__1600 rfl (by decide) ?_
    refine T.laldk (n := 1) rfl rfl (by decide) dL_law__1601 (q := 1602) rfl (k9 := 0) (by decide) ?_
    refine T.ild_6 (q := 1604) dL_law__1602 rfl ?_
    refine T.i2l (q := 1605) dL_law__1604 rfl ?_
    refine T.lcmp (q := 1606) dL_law__1605 rfl ?_
    refine T.if_eq (tgt := 1611) (q := 1609) dL_law__1606 (by decide) rfl (fun _ => ?_) (fun h8 => absurd (lgc e1) h8)
    refine T.goto (tgt := 2945) dL_law__1611 (by decide) ?_
    exact T.drop_5 (T.drop_6 (TJ.wide (by omega) (by omega) (kk _ hI)))
  · skip
    refine T.ist_5 (q := 1565) dL_law__1563 rfl (by decide) sk_ok_i ?_
    refine T.ald_2 (q := 1566) dL_law__1565 rfl ?_
    refine T.ald_0 (q := 1567) dL_law__1566 rfl ?_
    refine T.ild_4 (q := 1569) dL_law__1567 rfl ?_
    refine T.iconst (q := 1570) (1) dL_law__1569 rfl (by decide) ?_
    refine T.iadd (q := 1571) dL_law__1570 rfl ?_
    refine T.sld hv.2.1 hA1 dL_law__1571 (q := 1572) rfl ?_
    refine T.ald_0 (q := 1573) dL_law__1572 rfl ?_
    refine T.ild_4 (q := 1575) dL_law__1573 rfl ?_
    refine T.iconst (q := 1576) (2) dL_law__1575 rfl (by decide) ?_
    refine T.iadd (q := 1577) dL_law__1576 rfl ?_
    refine T.sld hv.2.2.1 hA2 dL_law__1577 (q := 1578) rfl ?_
    refine T.cV (As := [.int A1, .int A2]) (c := 140) (ci := 8) (C := RX8) (T := TX8) (N := 27) (t_X8_outright h9) w_L_208 cw_X8_outright np_X8_outright rfl (by decide) rfl (by decide) rfl (Nat.le_of_ble_eq_true rfl) (Nat.le_of_ble_eq_true rfl) (rm_c (by omega)) (rm_s (by omega)) rfl (Nat.le_of_ble_eq_true rfl) dL_law__1578 (q := 1581) rfl ?_
    rintro _ M2 ⟨b9, rfl, e0, hI⟩
    refine T.ist_6 (q := 1583) dL_law__1581 rfl (by decide) sk_ok_i ?_
    refine T.ald_2 (q := 1584) dL_law__1583 rfl ?_
    refine T.cV (As := []) (c := 140) (ci := 8) (C := RX8) (T := TX8) (N := 27) (t_X8_thrown (P := fun r9 => r9 = M2.1 140 0) rfl) w_L_149 cw_X8_thrown np_X8_thrown rfl (by decide) rfl (by decide) rfl (Nat.le_of_ble_eq_true rfl) (Nat.le_of_ble_eq_true rfl) (rm_c (by omega)) (rm_s (by omega)) rfl (Nat.le_of_ble_eq_true rfl) dL_law__1584 (q := 1587) rfl ?_
    rintro _ M3 ⟨r3, rfl, rfl, e9⟩
    obtain rfl := e9.symm
    refine T.ild_5 (q := 1589) dL_law__1587 rfl ?_
    refine T.ic_eq (tgt := 1594) (q := 1592) dL_law__1589 (by decide) rfl (fun _ => ?_) (fun h8 => absurd e0 h8)
    refine T.ild_5 (q := 1596) dL_law__1594 rfl ?_
    refine T.if_ne (tgt := 1611) (q := 1599) dL_law__1596 (by decide) rfl (fun _ => ?_) (fun h8 => absurd h8 (lnz hj))
    refine T.goto (tgt := 2945) dL_law__1611 (by decide) ?_
    exact T.drop_5 (T.drop_6 (TJ.wide (by omega) (by omega) (kk _ hI)))
theorem lwc_20 {G : sk_G} {b L : Nat} {ys : Nat → Int32} {M : sk_M} {i : Int32} {cells slots : Nat} (h : Inv M) (hv : lwv i L) (hc : cells + 8 ≤ 601024) (hs : slots + 48 ≤ 7293033) (kk : ∀ M0, Inv M0 → TJ G mL_law_ room_1 (lw_E G b L ys) (cells + 8) (slots + 48) 2945 [some (.ref b), some (.ref (G.2.2.1 120)), some (.ref (G.2.2.1 140)), some (.ref (G.2.2.1 158)), some (.int i), none, none] [] M0) : TJ G mL_law_ room_1 (lw_E G b L ys) cells slots 1614 [some (.ref b), some (.ref (G.2.2.1 120)), some (.ref (G.2.2.1 140)), some (.ref (G.2.2.1 158)), some (.int i), none, none] [] M := by
  obtain ⟨A1, hA1⟩ : ∃ z, z = ys (i + 1).toNatClampNeg := ⟨_, rfl⟩
  obtain ⟨A2, hA2⟩ : ∃ z, z = ys (i + 2).toNatClampNeg := ⟨_, rfl⟩
  obtain ⟨A3, hA3⟩ : ∃ z, z = ys (i + 3).toNatClampNeg := ⟨_, rfl⟩
  obtain ⟨A4, hA4⟩ : ∃ z, z = ys (i + 4).toNatClampNeg := ⟨_, rfl⟩
  obtain ⟨A5, hA5⟩ : ∃ z, z = ys (i + 5).toNatClampNeg := ⟨_, rfl⟩
  refine T.ald_1 (q := 1615) dL_law__1614 rfl ?_
  refine T.ald_0 (q := 1616) dL_law__1615 rfl ?_
  refine T.ild_4 (q := 1618) dL_law__1616 rfl ?_
  refine T.iconst (q := 1619) (1) dL_law__1618 rfl (by decide) ?_
  refine T.iadd (q := 1620) dL_law__1619 rfl ?_
  refine T.sld hv.2.1 hA1 dL_law__1620 (q := 1621) rfl ?_
  refine T.ald_0 (q := 1622) dL_law__1621 rfl ?_
  refine T.ild_4 (q := 1624) dL_law__1622 rfl ?_
  refine T.iconst (q := 1625) (2) dL_law__1624 rfl (by decide) ?_
  refine T.iadd (q := 1626) dL_law__1625 rfl ?_
  refine T.sld hv.2.2.1 hA2 dL_law__1626 (q := 1627) rfl ?_
  refine T.ald_3 (q := 1628) dL_law__1627 rfl ?_
  refine T.cSH (As := [.ref (G.2.2.1 120), .int A1, .int A2, .ref (G.2.2.1 158)]) (rest := []) (t_L_worst (Q0 := fun M1 => w_X8_worst A1 A2 M1 (fun b9 M2 => M2.1 140 0 = 0 ∧ M2.2 158 0 = b9.toInt64 ∧ Inv M2)) (QX := fun j M1 => w_X8_worst A1 A2 M1 (fun _ M2 => M2.1 140 0 = nI (j + 1) ∧ Inv M2)) (st_worst h A1 A2).go) w_L_209 cw_L_worst np_L_worst (Nat.le_of_ble_eq_true rfl) (Nat.le_of_ble_eq_true rfl) (rm_c (by omega)) (rm_s (by omega)) rfl (Nat.le_of_ble_eq_true rfl) dL_law__1628 (q := 1631) rfl ?_
  rintro _ M9 ⟨k, rfl, h9⟩
  rcases h9 with ⟨rfl, h9⟩ | ⟨j, rfl, hj, h9⟩
  · skip
    refine T.ist_5 (q := 1633) dL_law__1631 rfl (by decide) sk_ok_i ?_
    refine T.ald_2 (q := 1634) dL_law__1633 rfl ?_
    refine T.ald_0 (q := 1635) dL_law__1634 rfl ?_
    refine T.ild_4 (q := 1637) dL_law__1635 rfl ?_
    refine T.iconst (q := 1638) (1) dL_law__1637 rfl (by decide) ?_
    refine T.iadd (q := 1639) dL_law__1638 rfl ?_
    refine T.sld hv.2.1 hA1 dL_law__1639 (q := 1640) rfl ?_
    refine T.ald_0 (q := 1641) dL_law__1640 rfl ?_
    refine T.ild_4 (q := 1643) dL_law__1641 rfl ?_
    refine T.iconst (q := 1644) (2) dL_law__1643 rfl (by decide) ?_
    refine T.iadd (q := 1645) dL_law__1644 rfl ?_
    refine T.sld hv.2.2.1 hA2 dL_law__1645 (q := 1646) rfl ?_
    refine T.cV (As := [.int A1, .int A2]) (c := 140) (ci := 8) (C := RX8) (T := TX8) (N := 27) (t_X8_worst h9) w_L_211 cw_X8_worst np_X8_worst rfl (by decide) rfl (by decide) rfl (Nat.le_of_ble_eq_true rfl) (Nat.le_of_ble_eq_true rfl) (rm_c (by omega)) (rm_s (by omega)) rfl (Nat.le_of_ble_eq_true rfl) dL_law__1646 (q := 1649) rfl ?_
    rintro _ M2 ⟨b9, rfl, e0, e1, hI⟩
    refine T.ist_6 (q := 1651) dL_law__1649 rfl (by decide) sk_ok_i ?_
    refine T.ald_2 (q := 1652) dL_law__1651 rfl ?_
    refine T.cV (As := []) (c := 140) (ci := 8) (C := RX8) (T := TX8) (N := 27) (t_X8_thrown (P := fun r9 => r9 = M2.1 140 0) rfl) w_L_149 cw_X8_thrown np_X8_thrown rfl (by decide) rfl (by decide) rfl (Nat.le_of_ble_eq_true rfl) (Nat.le_of_ble_eq_true rfl) (rm_c (by omega)) (rm_s (by omega)) rfl (Nat.le_of_ble_eq_true rfl) dL_law__1652 (q := 1655) rfl ?_
    rintro _ M3 ⟨r3, rfl, rfl, e9⟩
    obtain rfl := e9.symm
    refine T.ild_5 (q := 1657) dL_law__1655 rfl ?_
    refine T.ic_eq (tgt := 1662) (q := 1660) dL_law__1657 (by decide) rfl (fun _ => ?_) (fun h8 => absurd e0 h8)
    refine T.ild_5 (q := 1664) dL_law__1662 rfl ?_
    refine T.if_ne (tgt := 1679) (q := 1667) dL_law__1664 (by decide) rfl (fun h8 => absurd rfl h8) (fun _ => ?_)
    refine T.ald_3 (q := 1668) dL_law__1667 rfl ?_
    refine T.iconst (q := 1669) (0) dL_law__1668 rfl (by decide) ?_
    refine T.laldk (n := 1) rfl rfl (by decide) dL_law__1669 (q := 1670) rfl (k9 := 0) (by decide) ?_
    refine T.ild_6 (q := 1672) dL_law__1670 rfl ?_
    refine T.i2l (q := 1673) dL_law__1672 rfl ?_
    refine T.lcmp (q := 1674) dL_law__1673 rfl ?_
    refine T.if_eq (tgt := 1679) (q := 1677) dL_law__1674 (by decide) rfl (fun _ => ?_) (fun h8 => absurd (lgc e1) h8)
    refine T.goto (tgt := 2945) dL_law__1679 (by decide) ?_
    exact T.drop_5 (T.drop_6 (TJ.wide (by omega) (by omega) (kk _ hI)))
  · skip
    refine T.ist_5 (q := 1633) dL_law__1631 rfl (by decide) sk_ok_i ?_
    refine T.ald_2 (q := 1634) dL_law__1633 rfl ?_
    refine T.ald_0 (q := 1635) dL_law__1634 rfl ?_
    refine T.ild_4 (q := 1637) dL_law__1635 rfl ?_
    refine T.iconst (q := 1638) (1) dL_law__1637 rfl (by decide) ?_
    refine T.iadd (q := 1639) dL_law__1638 rfl ?_
    refine T.sld hv.2.1 hA1 dL_law__1639 (q := 1640) rfl ?_
    refine T.ald_0 (q := 1641) dL_law__1640 rfl ?_
    refine T.ild_4 (q := 1643) dL_law__1641 rfl ?_
    refine T.iconst (q := 1644) (2) dL_law__1643 rfl (by decide) ?_
    refine T.iadd (q := 1645) dL_law__1644 rfl ?_
    refine T.sld hv.2.2.1 hA2 dL_law__1645 (q := 1646) rfl ?_
    refine T.cV (As := [.int A1, .int A2]) (c := 140) (ci := 8) (C := RX8) (T := TX8) (N := 27) (t_X8_worst h9) w_L_211 cw_X8_worst np_X8_worst rfl (by decide) rfl (by decide) rfl (Nat.le_of_ble_eq_true rfl) (Nat.le_of_ble_eq_true rfl) (rm_c (by omega)) (rm_s (by omega)) rfl (Nat.le_of_ble_eq_true rfl) dL_law__1646 (q := 1649) rfl ?_
    rintro _ M2 ⟨b9, rfl, e0, hI⟩
    refine T.ist_6 (q := 1651) dL_law__1649 rfl (by decide) sk_ok_i ?_
    refine T.ald_2 (q := 1652) dL_law__1651 rfl ?_
    refine T.cV (As := []) (c := 140) (ci := 8) (C := RX8) (T := TX8) (N := 27) (t_X8_thrown (P := fun r9 => r9 = M2.1 140 0) rfl) w_L_149 cw_X8_thrown np_X8_thrown rfl (by decide) rfl (by decide) rfl (Nat.le_of_ble_eq_true rfl) (Nat.le_of_ble_eq_true rfl) (rm_c (by omega)) (rm_s (by omega)) rfl (Nat.le_of_ble_eq_true rfl) dL_law__1652 (q := 1655) rfl ?_
    rintro _ M3 ⟨r3, rfl, rfl, e9⟩
    obtain rfl := e9.symm
    refine T.ild_5 (q := 1657) dL_law__1655 rfl ?_
    refine T.ic_eq (tgt := 1662) (q := 1660) dL_law__1657 (by decide) rfl (fun _ => ?_) (fun h8 => absurd e0 h8)
    refine T.ild_5 (q := 1664) dL_law__1662 rfl ?_
    refine T.if_ne (tgt := 1679) (q := 1667) dL_law__1664 (by decide) rfl (fun _ => ?_) (fun h8 => absurd h8 (lnz hj))
    refine T.goto (tgt := 2945) dL_law__1679 (by decide) ?_
    exact T.drop_5 (T.drop_6 (TJ.wide (by omega) (by omega) (kk _ hI)))
theorem lwc_21 {G : sk_G} {b L : Nat} {ys : Nat → Int32} {M : sk_M} {i : Int32} {cells slots : Nat} (h : Inv M) (hv : lwv i L) (hc : cells + 8 ≤ 601024) (hs : slots + 48 ≤ 7293033) (kk : ∀ M0, Inv M0 → TJ G mL_law_ room_1 (lw_E G b L ys) (cells + 8) (slots + 48) 2945 [some (.ref b), some (.ref (G.2.2.1 120)), some (.ref (G.2.2.1 140)), some (.ref (G.2.2.1 158)), some (.int i), none, none] [] M0) : TJ G mL_law_ room_1 (lw_E G b L ys) cells slots 1682 [some (.ref b), some (.ref (G.2.2.1 120)), some (.ref (G.2.2.1 140)), some (.ref (G.2.2.1 158)), some (.int i), none, none] [] M := by
  obtain ⟨A1, hA1⟩ : ∃ z, z = ys (i + 1).toNatClampNeg := ⟨_, rfl⟩
  obtain ⟨A2, hA2⟩ : ∃ z, z = ys (i + 2).toNatClampNeg := ⟨_, rfl⟩
  obtain ⟨A3, hA3⟩ : ∃ z, z = ys (i + 3).toNatClampNeg := ⟨_, rfl⟩
  obtain ⟨A4, hA4⟩ : ∃ z, z = ys (i + 4).toNatClampNeg := ⟨_, rfl⟩
  obtain ⟨A5, hA5⟩ : ∃ z, z = ys (i + 5).toNatClampNeg := ⟨_, rfl⟩
  refine T.ald_1 (q := 1683) dL_law__1682 rfl ?_
  refine T.ald_0 (q := 1684) dL_law__1683 rfl ?_
  refine T.ild_4 (q := 1686) dL_law__1684 rfl ?_
  refine T.iconst (q := 1687) (1) dL_law__1686 rfl (by decide) ?_
  refine T.iadd (q := 1688) dL_law__1687 rfl ?_
  refine T.sld hv.2.1 hA1 dL_law__1688 (q := 1689) rfl ?_
  refine T.ald_3 (q := 1690) dL_law__1689 rfl ?_
  refine T.cSH (As := [.ref (G.2.2.1 120), .int A1, .ref (G.2.2.1 158)]) (rest := []) (t_L_quietest (Q0 := fun M1 => w_X8_quietest A1 M1 (fun b9 M2 => M2.1 140 0 = 0 ∧ M2.2 158 0 = b9.toInt64 ∧ Inv M2)) (QX := fun j M1 => w_X8_quietest A1 M1 (fun _ M2 => M2.1 140 0 = nI (j + 1) ∧ Inv M2)) (st_quietest h A1).go) w_L_212 cw_L_quietest np_L_quietest (Nat.le_of_ble_eq_true rfl) (Nat.le_of_ble_eq_true rfl) (rm_c (by omega)) (rm_s (by omega)) rfl (Nat.le_of_ble_eq_true rfl) dL_law__1690 (q := 1693) rfl ?_
  rintro _ M9 ⟨k, rfl, h9⟩
  rcases h9 with ⟨rfl, h9⟩ | ⟨j, rfl, hj, h9⟩
  · skip
    refine T.ist_5 (q := 1695) dL_law__1693 rfl (by decide) sk_ok_i ?_
    refine T.ald_2 (q := 1696) dL_law__1695 rfl ?_
    refine T.ald_0 (q := 1697) dL_law__1696 rfl ?_
    refine T.ild_4 (q := 1699) dL_law__1697 rfl ?_
    refine T.iconst (q := 1700) (1) dL_law__1699 rfl (by decide) ?_
    refine T.iadd (q := 1701) dL_law__1700 rfl ?_
    refine T.sld hv.2.1 hA1 dL_law__1701 (q := 1702) rfl ?_
    refine T.cV (As := [.int A1]) (c := 140) (ci := 8) (C := RX8) (T := TX8) (N := 27) (t_X8_quietest h9) w_L_214 cw_X8_quietest np_X8_quietest rfl (by decide) rfl (by decide) rfl (Nat.le_of_ble_eq_true rfl) (Nat.le_of_ble_eq_true rfl) (rm_c (by omega)) (rm_s (by omega)) rfl (Nat.le_of_ble_eq_true rfl) dL_law__1702 (q := 1705) rfl ?_
    rintro _ M2 ⟨b9, rfl, e0, e1, hI⟩
    refine T.ist_6 (q := 1707) dL_law__1705 rfl (by decide) sk_ok_i ?_
    refine T.ald_2 (q := 1708) dL_law__1707 rfl ?_
    refine T.cV (As := []) (c := 140) (ci := 8) (C := RX8) (T := TX8) (N := 27) (t_X8_thrown (P := fun r9 => r9 = M2.1 140 0) rfl) w_L_149 cw_X8_thrown np_X8_thrown rfl (by decide) rfl (by decide) rfl (Nat.le_of_ble_eq_true rfl) (Nat.le_of_ble_eq_true rfl) (rm_c (by omega)) (rm_s (by omega)) rfl (Nat.le_of_ble_eq_true rfl) dL_law__1708 (q := 1711) rfl ?_
    rintro _ M3 ⟨r3, rfl, rfl, e9⟩
    obtain rfl := e9.symm
    refine T.ild_5 (q := 1713) dL_law__1711 rfl ?_
    refine T.ic_eq (tgt := 1718) (q := 1716) dL_law__1713 (by decide) rfl (fun _ => ?_) (fun h8 => absurd e0 h8)
    refine T.ild_5 (q := 1720) dL_law__1718 rfl ?_
    refine T.if_ne (tgt := 1735) (q := 1723) dL_law__1720 (by decide) rfl (fun h8 => absurd rfl h8) (fun _ => ?_)
    refine T.ald_3 (q := 1724) dL_law__1723 rfl ?_
    refine T.iconst (q := 1725) (0) dL_law__1724 rfl (by decide) ?_
    refine T.laldk (n := 1) rfl rfl (by decide) dL_law__1725 (q := 1726) rfl (k9 := 0) (by decide) ?_
    refine T.ild_6 (q := 1728) dL_law__1726 rfl ?_
    refine T.i2l (q := 1729) dL_law__1728 rfl ?_
    refine T.lcmp (q := 1730) dL_law__1729 rfl ?_
    refine T.if_eq (tgt := 1735) (q := 1733) dL_law__1730 (by decide) rfl (fun _ => ?_) (fun h8 => absurd (lgc e1) h8)
    refine T.goto (tgt := 2945) dL_law__1735 (by decide) ?_
    exact T.drop_5 (T.drop_6 (TJ.wide (by omega) (by omega) (kk _ hI)))
  · skip
    refine T.ist_5 (q := 1695) dL_law__1693 rfl (by decide) sk_ok_i ?_
    refine T.ald_2 (q := 1696) dL_law__1695 rfl ?_
    refine T.ald_0 (q := 1697) dL_law__1696 rfl ?_
    refine T.ild_4 (q := 1699) dL_law__1697 rfl ?_
    refine T.iconst (q := 1700) (1) dL_law__1699 rfl (by decide) ?_
    refine T.iadd (q := 1701) dL_law__1700 rfl ?_
    refine T.sld hv.2.1 hA1 dL_law__1701 (q := 1702) rfl ?_
    refine T.cV (As := [.int A1]) (c := 140) (ci := 8) (C := RX8) (T := TX8) (N := 27) (t_X8_quietest h9) w_L_214 cw_X8_quietest np_X8_quietest rfl (by decide) rfl (by decide) rfl (Nat.le_of_ble_eq_true rfl) (Nat.le_of_ble_eq_true rfl) (rm_c (by omega)) (rm_s (by omega)) rfl (Nat.le_of_ble_eq_true rfl) dL_law__1702 (q := 1705) rfl ?_
    rintro _ M2 ⟨b9, rfl, e0, hI⟩
    refine T.ist_6 (q := 1707) dL_law__1705 rfl (by decide) sk_ok_i ?_
    refine T.ald_2 (q := 1708) dL_law__1707 rfl ?_
    refine T.cV (As := []) (c := 140) (ci := 8) (C := RX8) (T := TX8) (N := 27) (t_X8_thrown (P := fun r9 => r9 = M2.1 140 0) rfl) w_L_149 cw_X8_thrown np_X8_thrown rfl (by decide) rfl (by decide) rfl (Nat.le_of_ble_eq_true rfl) (Nat.le_of_ble_eq_true rfl) (rm_c (by omega)) (rm_s (by omega)) rfl (Nat.le_of_ble_eq_true rfl) dL_law__1708 (q := 1711) rfl ?_
    rintro _ M3 ⟨r3, rfl, rfl, e9⟩
    obtain rfl := e9.symm
    refine T.ild_5 (q := 1713) dL_law__1711 rfl ?_
    refine T.ic_eq (tgt := 1718) (q := 1716) dL_law__1713 (by decide) rfl (fun _ => ?_) (fun h8 => absurd e0 h8)
    refine T.ild_5 (q := 1720) dL_law__1718 rfl ?_
    refine T.if_ne (tgt := 1735) (q := 1723) dL_law__1720 (by decide) rfl (fun _ => ?_) (fun h8 => absurd h8 (lnz hj))
    refine T.goto (tgt := 2945) dL_law__1735 (by decide) ?_
    exact T.drop_5 (T.drop_6 (TJ.wide (by omega) (by omega) (kk _ hI)))
theorem lwc_22 {G : sk_G} {b L : Nat} {ys : Nat → Int32} {M : sk_M} {i : Int32} {cells slots : Nat} (h : Inv M) (hv : lwv i L) (hc : cells + 8 ≤ 601024) (hs : slots + 48 ≤ 7293033) (kk : ∀ M0, Inv M0 → TJ G mL_law_ room_1 (lw_E G b L ys) (cells + 8) (slots + 48) 2945 [some (.ref b), some (.ref (G.2.2.1 120)), some (.ref (G.2.2.1 140)), some (.ref (G.2.2.1 158)), some (.int i), none, none] [] M0) : TJ G mL_law_ room_1 (lw_E G b L ys) cells slots 1738 [some (.ref b), some (.ref (G.2.2.1 120)), some (.ref (G.2.2.1 140)), some (.ref (G.2.2.1 158)), some (.int i), none, none] [] M := by
  obtain ⟨A1, hA1⟩ : ∃ z, z = ys (i + 1).toNatClampNeg := ⟨_, rfl⟩
  obtain ⟨A2, hA2⟩ : ∃ z, z = ys (i + 2).toNatClampNeg := ⟨_, rfl⟩
  obtain ⟨A3, hA3⟩ : ∃ z, z = ys (i + 3).toNatClampNeg := ⟨_, rfl⟩
  obtain ⟨A4, hA4⟩ : ∃ z, z = ys (i + 4).toNatClampNeg := ⟨_, rfl⟩
  obtain ⟨A5, hA5⟩ : ∃ z, z = ys (i + 5).toNatClampNeg := ⟨_, rfl⟩
  refine T.ald_1 (q := 1739) dL_law__1738 rfl ?_
  refine T.cV (As := []) (c := 120) (ci := 7) (C := RX7) (T := TX7) (N := 9) (t_X7_loudest (Q := fun r => w_X8_loudest M (fun b9 M2 => r = b9 ∧ Inv M2)) (st_loudest h ).go) w_L_215 cw_X7_loudest np_X7_loudest rfl (by decide) rfl (by decide) rfl (Nat.le_of_ble_eq_true rfl) (Nat.le_of_ble_eq_true rfl) (rm_c (by omega)) (rm_s (by omega)) rfl (Nat.le_of_ble_eq_true rfl) dL_law__1739 (q := 1742) rfl ?_
  rintro _ M9 ⟨r, rfl, h9, e9⟩
  obtain rfl := e9.symm
  refine T.ald_2 (q := 1743) dL_law__1742 rfl ?_
  refine T.cV (As := []) (c := 140) (ci := 8) (C := RX8) (T := TX8) (N := 27) (t_X8_loudest h9) w_L_218 cw_X8_loudest np_X8_loudest rfl (by decide) rfl (by decide) rfl (Nat.le_of_ble_eq_true rfl) (Nat.le_of_ble_eq_true rfl) (rm_c (by omega)) (rm_s (by omega)) rfl (Nat.le_of_ble_eq_true rfl) dL_law__1743 (q := 1746) rfl ?_
  rintro _ M2 ⟨b9, rfl, e0, hI⟩
  refine T.ic_eq (tgt := 2945) (q := 1749) dL_law__1746 (by decide) rfl (fun _ => ?_) (fun h8 => absurd e0 h8)
  exact TJ.wide (by omega) (by omega) (kk _ hI)
theorem lwc_23 {G : sk_G} {b L : Nat} {ys : Nat → Int32} {M : sk_M} {i : Int32} {cells slots : Nat} (h : Inv M) (hv : lwv i L) (hc : cells + 8 ≤ 601024) (hs : slots + 48 ≤ 7293033) (kk : ∀ M0, Inv M0 → TJ G mL_law_ room_1 (lw_E G b L ys) (cells + 8) (slots + 48) 2945 [some (.ref b), some (.ref (G.2.2.1 120)), some (.ref (G.2.2.1 140)), some (.ref (G.2.2.1 158)), some (.int i), none, none] [] M0) : TJ G mL_law_ room_1 (lw_E G b L ys) cells slots 1751 [some (.ref b), some (.ref (G.2.2.1 120)), some (.ref (G.2.2.1 140)), some (.ref (G.2.2.1 158)), some (.int i), none, none] [] M := by
  obtain ⟨A1, hA1⟩ : ∃ z, z = ys (i + 1).toNatClampNeg := ⟨_, rfl⟩
  obtain ⟨A2, hA2⟩ : ∃ z, z = ys (i + 2).toNatClampNeg := ⟨_, rfl⟩
  obtain ⟨A3, hA3⟩ : ∃ z, z = ys (i + 3).toNatClampNeg := ⟨_, rfl⟩
  obtain ⟨A4, hA4⟩ : ∃ z, z = ys (i + 4).toNatClampNeg := ⟨_, rfl⟩
  obtain ⟨A5, hA5⟩ : ∃ z, z = ys (i + 5).toNatClampNeg := ⟨_, rfl⟩
  refine T.ald_1 (q := 1752) dL_law__1751 rfl ?_
  refine T.cV (As := []) (c := 120) (ci := 7) (C := RX7) (T := TX7) (N := 9) (t_X7_deaf (Q := fun r => w_X8_deaf M (fun b9 M2 => r = b9 ∧ Inv M2)) (st_deaf h ).go) w_L_219 cw_X7_deaf np_X7_deaf rfl (by decide) rfl (by decide) rfl (Nat.le_of_ble_eq_true rfl) (Nat.le_of_ble_eq_true rfl) (rm_c (by omega)) (rm_s (by omega)) rfl (Nat.le_of_ble_eq_true rfl) dL_law__1752 (q := 1755) rfl ?_
  rintro _ M9 ⟨r, rfl, h9, e9⟩
  obtain rfl := e9.symm
  refine T.ald_2 (q := 1756) dL_law__1755 rfl ?_
  refine T.cV (As := []) (c := 140) (ci := 8) (C := RX8) (T := TX8) (N := 27) (t_X8_deaf h9) w_L_222 cw_X8_deaf np_X8_deaf rfl (by decide) rfl (by decide) rfl (Nat.le_of_ble_eq_true rfl) (Nat.le_of_ble_eq_true rfl) (rm_c (by omega)) (rm_s (by omega)) rfl (Nat.le_of_ble_eq_true rfl) dL_law__1756 (q := 1759) rfl ?_
  rintro _ M2 ⟨b9, rfl, e0, hI⟩
  refine T.ic_eq (tgt := 2945) (q := 1762) dL_law__1759 (by decide) rfl (fun _ => ?_) (fun h8 => absurd e0 h8)
  exact TJ.wide (by omega) (by omega) (kk _ hI)
theorem lwc_24 {G : sk_G} {b L : Nat} {ys : Nat → Int32} {M : sk_M} {i : Int32} {cells slots : Nat} (h : Inv M) (hv : lwv i L) (hc : cells + 8 ≤ 601024) (hs : slots + 48 ≤ 7293033) (kk : ∀ M0, Inv M0 → TJ G mL_law_ room_1 (lw_E G b L ys) (cells + 8) (slots + 48) 2945 [some (.ref b), some (.ref (G.2.2.1 120)), some (.ref (G.2.2.1 140)), some (.ref (G.2.2.1 158)), some (.int i), none, none] [] M0) : TJ G mL_law_ room_1 (lw_E G b L ys) cells slots 1764 [some (.ref b), some (.ref (G.2.2.1 120)), some (.ref (G.2.2.1 140)), some (.ref (G.2.2.1 158)), some (.int i), none, none] [] M := by
  obtain ⟨A1, hA1⟩ : ∃ z, z = ys (i + 1).toNatClampNeg := ⟨_, rfl⟩
  obtain ⟨A2, hA2⟩ : ∃ z, z = ys (i + 2).toNatClampNeg := ⟨_, rfl⟩
  obtain ⟨A3, hA3⟩ : ∃ z, z = ys (i + 3).toNatClampNeg := ⟨_, rfl⟩
  obtain ⟨A4, hA4⟩ : ∃ z, z = ys (i + 4).toNatClampNeg := ⟨_, rfl⟩
  obtain ⟨A5, hA5⟩ : ∃ z, z = ys (i + 5).toNatClampNeg := ⟨_, rfl⟩
  refine T.ald_1 (q := 1765) dL_law__1764 rfl ?_
  refine T.ald_0 (q := 1766) dL_law__1765 rfl ?_
  refine T.ild_4 (q := 1768) dL_law__1766 rfl ?_
  refine T.iconst (q := 1769) (1) dL_law__1768 rfl (by decide) ?_
  refine T.iadd (q := 1770) dL_law__1769 rfl ?_
  refine T.sld hv.2.1 hA1 dL_law__1770 (q := 1771) rfl ?_
  refine T.ald_3 (q := 1772) dL_law__1771 rfl ?_
  refine T.cSH (As := [.ref (G.2.2.1 120), .int A1, .ref (G.2.2.1 158)]) (rest := []) (t_L_alone (Q0 := fun M1 => w_X8_alone A1 M1 (fun b9 M2 => M2.1 140 0 = 0 ∧ M2.2 158 0 = b9.toInt64 ∧ Inv M2)) (QX := fun j M1 => w_X8_alone A1 M1 (fun _ M2 => M2.1 140 0 = nI (j + 1) ∧ Inv M2)) (st_alone h A1).go) w_L_223 cw_L_alone np_L_alone (Nat.le_of_ble_eq_true rfl) (Nat.le_of_ble_eq_true rfl) (rm_c (by omega)) (rm_s (by omega)) rfl (Nat.le_of_ble_eq_true rfl) dL_law__1772 (q := 1775) rfl ?_
  rintro _ M9 ⟨k, rfl, h9⟩
  rcases h9 with ⟨rfl, h9⟩ | ⟨j, rfl, hj, h9⟩
  · skip
    refine T.ist_5 (q := 1777) dL_law__1775 rfl (by decide) sk_ok_i ?_
    refine T.ald_2 (q := 1778) dL_law__1777 rfl ?_
    refine T.ald_0 (q := 1779) dL_law__1778 rfl ?_
    refine T.ild_4 (q := 1781) dL_law__1779 rfl ?_
    refine T.iconst (q := 1782) (1) dL_law__1781 rfl (by decide) ?_
    refine T.iadd (q := 1783) dL_law__1782 rfl ?_
    refine T.sld hv.2.1 hA1 dL_law__1783 (q := 1784) rfl ?_
    refine T.cV (As := [.int A1]) (c := 140) (ci := 8) (C := RX8) (T := TX8) (N := 27) (t_X8_alone h9) w_L_225 cw_X8_alone np_X8_alone rfl (by decide) rfl (by decide) rfl (Nat.le_of_ble_eq_true rfl) (Nat.le_of_ble_eq_true rfl) (rm_c (by omega)) (rm_s (by omega)) rfl (Nat.le_of_ble_eq_true rfl) dL_law__1784 (q := 1787) rfl ?_
    rintro _ M2 ⟨b9, rfl, e0, e1, hI⟩
    refine T.ist_6 (q := 1789) dL_law__1787 rfl (by decide) sk_ok_i ?_
    refine T.ald_2 (q := 1790) dL_law__1789 rfl ?_
    refine T.cV (As := []) (c := 140) (ci := 8) (C := RX8) (T := TX8) (N := 27) (t_X8_thrown (P := fun r9 => r9 = M2.1 140 0) rfl) w_L_149 cw_X8_thrown np_X8_thrown rfl (by decide) rfl (by decide) rfl (Nat.le_of_ble_eq_true rfl) (Nat.le_of_ble_eq_true rfl) (rm_c (by omega)) (rm_s (by omega)) rfl (Nat.le_of_ble_eq_true rfl) dL_law__1790 (q := 1793) rfl ?_
    rintro _ M3 ⟨r3, rfl, rfl, e9⟩
    obtain rfl := e9.symm
    refine T.ild_5 (q := 1795) dL_law__1793 rfl ?_
    refine T.ic_eq (tgt := 1800) (q := 1798) dL_law__1795 (by decide) rfl (fun _ => ?_) (fun h8 => absurd e0 h8)
    refine T.ild_5 (q := 1802) dL_law__1800 rfl ?_
    refine T.if_ne (tgt := 1817) (q := 1805) dL_law__1802 (by decide) rfl (fun h8 => absurd rfl h8) (fun _ => ?_)
    refine T.ald_3 (q := 1806) dL_law__1805 rfl ?_
    refine T.iconst (q := 1807) (0) dL_law__1806 rfl (by decide) ?_
    refine T.laldk (n := 1) rfl rfl (by decide) dL_law__1807 (q := 1808) rfl (k9 := 0) (by decide) ?_
    refine T.ild_6 (q := 1810) dL_law__1808 rfl ?_
    refine T.i2l (q := 1811) dL_law__1810 rfl ?_
    refine T.lcmp (q := 1812) dL_law__1811 rfl ?_
    refine T.if_eq (tgt := 1817) (q := 1815) dL_law__1812 (by decide) rfl (fun _ => ?_) (fun h8 => absurd (lgc e1) h8)
    refine T.goto (tgt := 2945) dL_law__1817 (by decide) ?_
    exact T.drop_5 (T.drop_6 (TJ.wide (by omega) (by omega) (kk _ hI)))
  · skip
    refine T.ist_5 (q := 1777) dL_law__1775 rfl (by decide) sk_ok_i ?_
    refine T.ald_2 (q := 1778) dL_law__1777 rfl ?_
    refine T.ald_0 (q := 1779) dL_law__1778 rfl ?_
    refine T.ild_4 (q := 1781) dL_law__1779 rfl ?_
    refine T.iconst (q := 1782) (1) dL_law__1781 rfl (by decide) ?_
    refine T.iadd (q := 1783) dL_law__1782 rfl ?_
    refine T.sld hv.2.1 hA1 dL_law__1783 (q := 1784) rfl ?_
    refine T.cV (As := [.int A1]) (c := 140) (ci := 8) (C := RX8) (T := TX8) (N := 27) (t_X8_alone h9) w_L_225 cw_X8_alone np_X8_alone rfl (by decide) rfl (by decide) rfl (Nat.le_of_ble_eq_true rfl) (Nat.le_of_ble_eq_true rfl) (rm_c (by omega)) (rm_s (by omega)) rfl (Nat.le_of_ble_eq_true rfl) dL_law__1784 (q := 1787) rfl ?_
    rintro _ M2 ⟨b9, rfl, e0, hI⟩
    refine T.ist_6 (q := 1789) dL_law__1787 rfl (by decide) sk_ok_i ?_
    refine T.ald_2 (q := 1790) dL_law__1789 rfl ?_
    refine T.cV (As := []) (c := 140) (ci := 8) (C := RX8) (T := TX8) (N := 27) (t_X8_thrown (P := fun r9 => r9 = M2.1 140 0) rfl) w_L_149 cw_X8_thrown np_X8_thrown rfl (by decide) rfl (by decide) rfl (Nat.le_of_ble_eq_true rfl) (Nat.le_of_ble_eq_true rfl) (rm_c (by omega)) (rm_s (by omega)) rfl (Nat.le_of_ble_eq_true rfl) dL_law__1790 (q := 1793) rfl ?_
    rintro _ M3 ⟨r3, rfl, rfl, e9⟩
    obtain rfl := e9.symm
    refine T.ild_5 (q := 1795) dL_law__1793 rfl ?_
    refine T.ic_eq (tgt := 1800) (q := 1798) dL_law__1795 (by decide) rfl (fun _ => ?_) (fun h8 => absurd e0 h8)
    refine T.ild_5 (q := 1802) dL_law__1800 rfl ?_
    refine T.if_ne (tgt := 1817) (q := 1805) dL_law__1802 (by decide) rfl (fun _ => ?_) (fun h8 => absurd h8 (lnz hj))
    refine T.goto (tgt := 2945) dL_law__1817 (by decide) ?_
    exact T.drop_5 (T.drop_6 (TJ.wide (by omega) (by omega) (kk _ hI)))
theorem lwc_25 {G : sk_G} {b L : Nat} {ys : Nat → Int32} {M : sk_M} {i : Int32} {cells slots : Nat} (h : Inv M) (hv : lwv i L) (hc : cells + 8 ≤ 601024) (hs : slots + 48 ≤ 7293033) (kk : ∀ M0, Inv M0 → TJ G mL_law_ room_1 (lw_E G b L ys) (cells + 8) (slots + 48) 2945 [some (.ref b), some (.ref (G.2.2.1 120)), some (.ref (G.2.2.1 140)), some (.ref (G.2.2.1 158)), some (.int i), none, none] [] M0) : TJ G mL_law_ room_1 (lw_E G b L ys) cells slots 1820 [some (.ref b), some (.ref (G.2.2.1 120)), some (.ref (G.2.2.1 140)), some (.ref (G.2.2.1 158)), some (.int i), none, none] [] M := by
  obtain ⟨A1, hA1⟩ : ∃ z, z = ys (i + 1).toNatClampNeg := ⟨_, rfl⟩
  obtain ⟨A2, hA2⟩ : ∃ z, z = ys (i + 2).toNatClampNeg := ⟨_, rfl⟩
  obtain ⟨A3, hA3⟩ : ∃ z, z = ys (i + 3).toNatClampNeg := ⟨_, rfl⟩
  obtain ⟨A4, hA4⟩ : ∃ z, z = ys (i + 4).toNatClampNeg := ⟨_, rfl⟩
  obtain ⟨A5, hA5⟩ : ∃ z, z = ys (i + 5).toNatClampNeg := ⟨_, rfl⟩
  refine T.ald_1 (q := 1821) dL_law__1820 rfl ?_
  refine T.ald_0 (q := 1822) dL_law__1821 rfl ?_
  refine T.ild_4 (q := 1824) dL_law__1822 rfl ?_
  refine T.iconst (q := 1825) (1) dL_law__1824 rfl (by decide) ?_
  refine T.iadd (q := 1826) dL_law__1825 rfl ?_
  refine T.sld hv.2.1 hA1 dL_law__1826 (q := 1827) rfl ?_
  refine T.ald_0 (q := 1828) dL_law__1827 rfl ?_
  refine T.ild_4 (q := 1830) dL_law__1828 rfl ?_
  refine T.iconst (q := 1831) (2) dL_law__1830 rfl (by decide) ?_
  refine T.iadd (q := 1832) dL_law__1831 rfl ?_
  refine T.sld hv.2.2.1 hA2 dL_law__1832 (q := 1833) rfl ?_
  refine T.ald_3 (q := 1834) dL_law__1833 rfl ?_
  refine T.cSH (As := [.ref (G.2.2.1 120), .int A1, .int A2, .ref (G.2.2.1 158)]) (rest := []) (t_L_together (Q0 := fun M1 => w_X8_together A1 A2 M1 (fun b9 M2 => M2.1 140 0 = 0 ∧ M2.2 158 0 = (if b9 = 0 then 0 else 1) ∧ Inv M2)) (QX := fun j M1 => w_X8_together A1 A2 M1 (fun _ M2 => M2.1 140 0 = nI (j + 1) ∧ Inv M2)) (st_together h A1 A2).go) w_L_226 cw_L_together np_L_together (Nat.le_of_ble_eq_true rfl) (Nat.le_of_ble_eq_true rfl) (rm_c (by omega)) (rm_s (by omega)) rfl (Nat.le_of_ble_eq_true rfl) dL_law__1834 (q := 1837) rfl ?_
  rintro _ M9 ⟨k, rfl, h9⟩
  rcases h9 with ⟨rfl, h9⟩ | ⟨j, rfl, hj, h9⟩
  · skip
    refine T.ist_5 (q := 1839) dL_law__1837 rfl (by decide) sk_ok_i ?_
    refine T.ald_2 (q := 1840) dL_law__1839 rfl ?_
    refine T.ald_0 (q := 1841) dL_law__1840 rfl ?_
    refine T.ild_4 (q := 1843) dL_law__1841 rfl ?_
    refine T.iconst (q := 1844) (1) dL_law__1843 rfl (by decide) ?_
    refine T.iadd (q := 1845) dL_law__1844 rfl ?_
    refine T.sld hv.2.1 hA1 dL_law__1845 (q := 1846) rfl ?_
    refine T.ald_0 (q := 1847) dL_law__1846 rfl ?_
    refine T.ild_4 (q := 1849) dL_law__1847 rfl ?_
    refine T.iconst (q := 1850) (2) dL_law__1849 rfl (by decide) ?_
    refine T.iadd (q := 1851) dL_law__1850 rfl ?_
    refine T.sld hv.2.2.1 hA2 dL_law__1851 (q := 1852) rfl ?_
    refine T.cV (As := [.int A1, .int A2]) (c := 140) (ci := 8) (C := RX8) (T := TX8) (N := 27) (t_X8_together h9) w_L_228 cw_X8_together np_X8_together rfl (by decide) rfl (by decide) rfl (Nat.le_of_ble_eq_true rfl) (Nat.le_of_ble_eq_true rfl) (rm_c (by omega)) (rm_s (by omega)) rfl (Nat.le_of_ble_eq_true rfl) dL_law__1852 (q := 1855) rfl ?_
    rintro _ M2 ⟨b9, rfl, e0, e1, hI⟩
    refine T.ist_6 (q := 1857) dL_law__1855 rfl (by decide) sk_ok_i ?_
    refine T.ald_2 (q := 1858) dL_law__1857 rfl ?_
    refine T.cV (As := []) (c := 140) (ci := 8) (C := RX8) (T := TX8) (N := 27) (t_X8_thrown (P := fun r9 => r9 = M2.1 140 0) rfl) w_L_149 cw_X8_thrown np_X8_thrown rfl (by decide) rfl (by decide) rfl (Nat.le_of_ble_eq_true rfl) (Nat.le_of_ble_eq_true rfl) (rm_c (by omega)) (rm_s (by omega)) rfl (Nat.le_of_ble_eq_true rfl) dL_law__1858 (q := 1861) rfl ?_
    rintro _ M3 ⟨r3, rfl, rfl, e9⟩
    obtain rfl := e9.symm
    refine T.ild_5 (q := 1863) dL_law__1861 rfl ?_
    refine T.ic_eq (tgt := 1868) (q := 1866) dL_law__1863 (by decide) rfl (fun _ => ?_) (fun h8 => absurd e0 h8)
    refine T.ild_5 (q := 1870) dL_law__1868 rfl ?_
    refine T.if_ne (tgt := 1892) (q := 1873) dL_law__1870 (by decide) rfl (fun h8 => absurd rfl h8) (fun _ => ?_)
    refine T.ald_3 (q := 1874) dL_law__1873 rfl ?_
    refine T.iconst (q := 1875) (0) dL_law__1874 rfl (by decide) ?_
    refine T.laldk (n := 1) rfl rfl (by decide) dL_law__1875 (q := 1876) rfl (k9 := 0) (by decide) ?_
    refine T.ild_6 (q := 1878) dL_law__1876 rfl ?_
    refine T.if_eq (tgt := 1885) (q := 1881) dL_law__1878 (by decide) rfl (fun z1878 => ?_) (fun z1878 => ?_)
    · skip
      rw [if_pos z1878] at e1
      refine T.lconst (q := 1886) (0) dL_law__1885 rfl (by decide) ?_
      refine T.lcmp (q := 1887) dL_law__1886 rfl ?_
      refine T.if_eq (tgt := 1892) (q := 1890) dL_law__1887 (by decide) rfl (fun _ => ?_) (fun h8 => absurd (lgc e1) h8)
      refine T.goto (tgt := 2945) dL_law__1892 (by decide) ?_
      exact T.drop_5 (T.drop_6 (TJ.wide (by omega) (by omega) (kk _ hI)))
    · skip
      rw [if_neg z1878] at e1
      refine T.lconst (q := 1882) (1) dL_law__1881 rfl (by decide) ?_
      refine T.goto (tgt := 1886) dL_law__1882 (by decide) ?_
      refine T.lcmp (q := 1887) dL_law__1886 rfl ?_
      refine T.if_eq (tgt := 1892) (q := 1890) dL_law__1887 (by decide) rfl (fun _ => ?_) (fun h8 => absurd (lgc e1) h8)
      refine T.goto (tgt := 2945) dL_law__1892 (by decide) ?_
      exact T.drop_5 (T.drop_6 (TJ.wide (by omega) (by omega) (kk _ hI)))
  · skip
    refine T.ist_5 (q := 1839) dL_law__1837 rfl (by decide) sk_ok_i ?_
    refine T.ald_2 (q := 1840) dL_law__1839 rfl ?_
    refine T.ald_0 (q := 1841) dL_law__1840 rfl ?_
    refine T.ild_4 (q := 1843) dL_law__1841 rfl ?_
    refine T.iconst (q := 1844) (1) dL_law__1843 rfl (by decide) ?_
    refine T.iadd (q := 1845) dL_law__1844 rfl ?_
    refine T.sld hv.2.1 hA1 dL_law__1845 (q := 1846) rfl ?_
    refine T.ald_0 (q := 1847) dL_law__1846 rfl ?_
    refine T.ild_4 (q := 1849) dL_law__1847 rfl ?_
    refine T.iconst (q := 1850) (2) dL_law__1849 rfl (by decide) ?_
    refine T.iadd (q := 1851) dL_law__1850 rfl ?_
    refine T.sld hv.2.2.1 hA2 dL_law__1851 (q := 1852) rfl ?_
    refine T.cV (As := [.int A1, .int A2]) (c := 140) (ci := 8) (C := RX8) (T := TX8) (N := 27) (t_X8_together h9) w_L_228 cw_X8_together np_X8_together rfl (by decide) rfl (by decide) rfl (Nat.le_of_ble_eq_true rfl) (Nat.le_of_ble_eq_true rfl) (rm_c (by omega)) (rm_s (by omega)) rfl (Nat.le_of_ble_eq_true rfl) dL_law__1852 (q := 1855) rfl ?_
    rintro _ M2 ⟨b9, rfl, e0, hI⟩
    refine T.ist_6 (q := 1857) dL_law__1855 rfl (by decide) sk_ok_i ?_
    refine T.ald_2 (q := 1858) dL_law__1857 rfl ?_
    refine T.cV (As := []) (c := 140) (ci := 8) (C := RX8) (T := TX8) (N := 27) (t_X8_thrown (P := fun r9 => r9 = M2.1 140 0) rfl) w_L_149 cw_X8_thrown np_X8_thrown rfl (by decide) rfl (by decide) rfl (Nat.le_of_ble_eq_true rfl) (Nat.le_of_ble_eq_true rfl) (rm_c (by omega)) (rm_s (by omega)) rfl (Nat.le_of_ble_eq_true rfl) dL_law__1858 (q := 1861) rfl ?_
    rintro _ M3 ⟨r3, rfl, rfl, e9⟩
    obtain rfl := e9.symm
    refine T.ild_5 (q := 1863) dL_law__1861 rfl ?_
    refine T.ic_eq (tgt := 1868) (q := 1866) dL_law__1863 (by decide) rfl (fun _ => ?_) (fun h8 => absurd e0 h8)
    refine T.ild_5 (q := 1870) dL_law__1868 rfl ?_
    refine T.if_ne (tgt := 1892) (q := 1873) dL_law__1870 (by decide) rfl (fun _ => ?_) (fun h8 => absurd h8 (lnz hj))
    refine T.goto (tgt := 2945) dL_law__1892 (by decide) ?_
    exact T.drop_5 (T.drop_6 (TJ.wide (by omega) (by omega) (kk _ hI)))
theorem lwc_26 {G : sk_G} {b L : Nat} {ys : Nat → Int32} {M : sk_M} {i : Int32} {cells slots : Nat} (h : Inv M) (hv : lwv i L) (hc : cells + 8 ≤ 601024) (hs : slots + 48 ≤ 7293033) (kk : ∀ M0, Inv M0 → TJ G mL_law_ room_1 (lw_E G b L ys) (cells + 8) (slots + 48) 2945 [some (.ref b), some (.ref (G.2.2.1 120)), some (.ref (G.2.2.1 140)), some (.ref (G.2.2.1 158)), some (.int i), none, none] [] M0) : TJ G mL_law_ room_1 (lw_E G b L ys) cells slots 1895 [some (.ref b), some (.ref (G.2.2.1 120)), some (.ref (G.2.2.1 140)), some (.ref (G.2.2.1 158)), some (.int i), none, none] [] M := by
  obtain ⟨A1, hA1⟩ : ∃ z, z = ys (i + 1).toNatClampNeg := ⟨_, rfl⟩
  obtain ⟨A2, hA2⟩ : ∃ z, z = ys (i + 2).toNatClampNeg := ⟨_, rfl⟩
  obtain ⟨A3, hA3⟩ : ∃ z, z = ys (i + 3).toNatClampNeg := ⟨_, rfl⟩
  obtain ⟨A4, hA4⟩ : ∃ z, z = ys (i + 4).toNatClampNeg := ⟨_, rfl⟩
  obtain ⟨A5, hA5⟩ : ∃ z, z = ys (i + 5).toNatClampNeg := ⟨_, rfl⟩
  refine T.ald_1 (q := 1896) dL_law__1895 rfl ?_
  refine T.ald_0 (q := 1897) dL_law__1896 rfl ?_
  refine T.ild_4 (q := 1899) dL_law__1897 rfl ?_
  refine T.iconst (q := 1900) (1) dL_law__1899 rfl (by decide) ?_
  refine T.iadd (q := 1901) dL_law__1900 rfl ?_
  refine T.sld hv.2.1 hA1 dL_law__1901 (q := 1902) rfl ?_
  refine T.ald_0 (q := 1903) dL_law__1902 rfl ?_
  refine T.ild_4 (q := 1905) dL_law__1903 rfl ?_
  refine T.iconst (q := 1906) (2) dL_law__1905 rfl (by decide) ?_
  refine T.iadd (q := 1907) dL_law__1906 rfl ?_
  refine T.sld hv.2.2.1 hA2 dL_law__1907 (q := 1908) rfl ?_
  refine T.if_eq (tgt := 1915) (q := 1911) dL_law__1908 (by decide) rfl (fun z1908 => ?_) (fun z1908 => ?_)
  · skip
    refine T.iconst (q := 1916) (0) dL_law__1915 rfl (by decide) ?_
    refine T.ald_3 (q := 1917) dL_law__1916 rfl ?_
    refine T.cSH (As := [.ref (G.2.2.1 120), .int A1, .int (0 : Int32), .ref (G.2.2.1 158)]) (rest := []) (t_L_fewest (Q0 := fun M1 => w_X8_fewest A1 (0 : Int32) M1 (fun b9 M2 => M2.1 140 0 = 0 ∧ M2.2 158 0 = b9.toInt64 ∧ Inv M2)) (QX := fun j M1 => w_X8_fewest A1 (0 : Int32) M1 (fun _ M2 => M2.1 140 0 = nI (j + 1) ∧ Inv M2)) (st_fewest h A1 (0 : Int32) (Or.inl rfl)).go) w_L_229 cw_L_fewest np_L_fewest (Nat.le_of_ble_eq_true rfl) (Nat.le_of_ble_eq_true rfl) (rm_c (by omega)) (rm_s (by omega)) rfl (Nat.le_of_ble_eq_true rfl) dL_law__1917 (q := 1920) rfl ?_
    rintro _ M9 ⟨k, rfl, h9⟩
    rcases h9 with ⟨rfl, h9⟩ | ⟨j, rfl, hj, h9⟩
    · skip
      refine T.ist_5 (q := 1922) dL_law__1920 rfl (by decide) sk_ok_i ?_
      refine T.ald_2 (q := 1923) dL_law__1922 rfl ?_
      refine T.ald_0 (q := 1924) dL_law__1923 rfl ?_
      refine T.ild_4 (q := 1926) dL_law__1924 rfl ?_
      refine T.iconst (q := 1927) (1) dL_law__1926 rfl (by decide) ?_
      refine T.iadd (q := 1928) dL_law__1927 rfl ?_
      refine T.sld hv.2.1 hA1 dL_law__1928 (q := 1929) rfl ?_
      refine T.ald_0 (q := 1930) dL_law__1929 rfl ?_
      refine T.ild_4 (q := 1932) dL_law__1930 rfl ?_
      refine T.iconst (q := 1933) (2) dL_law__1932 rfl (by decide) ?_
      refine T.iadd (q := 1934) dL_law__1933 rfl ?_
      refine T.sld hv.2.2.1 hA2 dL_law__1934 (q := 1935) rfl ?_
      refine T.if_eq (tgt := 1942) (q := 1938) dL_law__1935 (by decide) rfl (fun _ => ?_) (fun h8 => absurd z1908 h8)
      refine T.iconst (q := 1943) (0) dL_law__1942 rfl (by decide) ?_
      refine T.cV (As := [.int A1, .int (0 : Int32)]) (c := 140) (ci := 8) (C := RX8) (T := TX8) (N := 27) (t_X8_fewest h9) w_L_232 cw_X8_fewest np_X8_fewest rfl (by decide) rfl (by decide) rfl (Nat.le_of_ble_eq_true rfl) (Nat.le_of_ble_eq_true rfl) (rm_c (by omega)) (rm_s (by omega)) rfl (Nat.le_of_ble_eq_true rfl) dL_law__1943 (q := 1946) rfl ?_
      rintro _ M2 ⟨b9, rfl, e0, e1, hI⟩
      refine T.ist_6 (q := 1948) dL_law__1946 rfl (by decide) sk_ok_i ?_
      refine T.ald_2 (q := 1949) dL_law__1948 rfl ?_
      refine T.cV (As := []) (c := 140) (ci := 8) (C := RX8) (T := TX8) (N := 27) (t_X8_thrown (P := fun r9 => r9 = M2.1 140 0) rfl) w_L_149 cw_X8_thrown np_X8_thrown rfl (by decide) rfl (by decide) rfl (Nat.le_of_ble_eq_true rfl) (Nat.le_of_ble_eq_true rfl) (rm_c (by omega)) (rm_s (by omega)) rfl (Nat.le_of_ble_eq_true rfl) dL_law__1949 (q := 1952) rfl ?_
      rintro _ M3 ⟨r3, rfl, rfl, e9⟩
      obtain rfl := e9.symm
      refine T.ild_5 (q := 1954) dL_law__1952 rfl ?_
      refine T.ic_eq (tgt := 1959) (q := 1957) dL_law__1954 (by decide) rfl (fun _ => ?_) (fun h8 => absurd e0 h8)
      refine T.ild_5 (q := 1961) dL_law__1959 rfl ?_
      refine T.if_ne (tgt := 1976) (q := 1964) dL_law__1961 (by decide) rfl (fun h8 => absurd rfl h8) (fun _ => ?_)
      refine T.ald_3 (q := 1965) dL_law__1964 rfl ?_
      refine T.iconst (q := 1966) (0) dL_law__1965 rfl (by decide) ?_
      refine T.laldk (n := 1) rfl rfl (by decide) dL_law__1966 (q := 1967) rfl (k9 := 0) (by decide) ?_
      refine T.ild_6 (q := 1969) dL_law__1967 rfl ?_
      refine T.i2l (q := 1970) dL_law__1969 rfl ?_
      refine T.lcmp (q := 1971) dL_law__1970 rfl ?_
      refine T.if_eq (tgt := 1976) (q := 1974) dL_law__1971 (by decide) rfl (fun _ => ?_) (fun h8 => absurd (lgc e1) h8)
      refine T.goto (tgt := 2945) dL_law__1976 (by decide) ?_
      exact T.drop_5 (T.drop_6 (TJ.wide (by omega) (by omega) (kk _ hI)))
    · skip
      refine T.ist_5 (q := 1922) dL_law__1920 rfl (by decide) sk_ok_i ?_
      refine T.ald_2 (q := 1923) dL_law__1922 rfl ?_
      refine T.ald_0 (q := 1924) dL_law__1923 rfl ?_
      refine T.ild_4 (q := 1926) dL_law__1924 rfl ?_
      refine T.iconst (q := 1927) (1) dL_law__1926 rfl (by decide) ?_
      refine T.iadd (q := 1928) dL_law__1927 rfl ?_
      refine T.sld hv.2.1 hA1 dL_law__1928 (q := 1929) rfl ?_
      refine T.ald_0 (q := 1930) dL_law__1929 rfl ?_
      refine T.ild_4 (q := 1932) dL_law__1930 rfl ?_
      refine T.iconst (q := 1933) (2) dL_law__1932 rfl (by decide) ?_
      refine T.iadd (q := 1934) dL_law__1933 rfl ?_
      refine T.sld hv.2.2.1 hA2 dL_law__1934 (q := 1935) rfl ?_
      refine T.if_eq (tgt := 1942) (q := 1938) dL_law__1935 (by decide) rfl (fun _ => ?_) (fun h8 => absurd z1908 h8)
      refine T.iconst (q := 1943) (0) dL_law__1942 rfl (by decide) ?_
      refine T.cV (As := [.int A1, .int (0 : Int32)]) (c := 140) (ci := 8) (C := RX8) (T := TX8) (N := 27) (t_X8_fewest h9) w_L_232 cw_X8_fewest np_X8_fewest rfl (by decide) rfl (by decide) rfl (Nat.le_of_ble_eq_true rfl) (Nat.le_of_ble_eq_true rfl) (rm_c (by omega)) (rm_s (by omega)) rfl (Nat.le_of_ble_eq_true rfl) dL_law__1943 (q := 1946) rfl ?_
      rintro _ M2 ⟨b9, rfl, e0, hI⟩
      refine T.ist_6 (q := 1948) dL_law__1946 rfl (by decide) sk_ok_i ?_
      refine T.ald_2 (q := 1949) dL_law__1948 rfl ?_
      refine T.cV (As := []) (c := 140) (ci := 8) (C := RX8) (T := TX8) (N := 27) (t_X8_thrown (P := fun r9 => r9 = M2.1 140 0) rfl) w_L_149 cw_X8_thrown np_X8_thrown rfl (by decide) rfl (by decide) rfl (Nat.le_of_ble_eq_true rfl) (Nat.le_of_ble_eq_true rfl) (rm_c (by omega)) (rm_s (by omega)) rfl (Nat.le_of_ble_eq_true rfl) dL_law__1949 (q := 1952) rfl ?_
      rintro _ M3 ⟨r3, rfl, rfl, e9⟩
      obtain rfl := e9.symm
      refine T.ild_5 (q := 1954) dL_law__1952 rfl ?_
      refine T.ic_eq (tgt := 1959) (q := 1957) dL_law__1954 (by decide) rfl (fun _ => ?_) (fun h8 => absurd e0 h8)
      refine T.ild_5 (q := 1961) dL_law__1959 rfl ?_
      refine T.if_ne (tgt := 1976) (q := 1964) dL_law__1961 (by decide) rfl (fun _ => ?_) (fun h8 => absurd h8 (lnz hj))
      refine T.goto (tgt := 2945) dL_law__1976 (by decide) ?_
      exact T.drop_5 (T.drop_6 (TJ.wide (by omega) (by omega) (kk _ hI)))
  · skip
    refine T.iconst (q := 1912) (1) dL_law__1911 rfl (by decide) ?_
    refine T.goto (tgt := 1916) dL_law__1912 (by decide) ?_
    refine T.ald_3 (q := 1917) dL_law__1916 rfl ?_
    refine T.cSH (As := [.ref (G.2.2.1 120), .int A1, .int (1 : Int32), .ref (G.2.2.1 158)]) (rest := []) (t_L_fewest (Q0 := fun M1 => w_X8_fewest A1 (1 : Int32) M1 (fun b9 M2 => M2.1 140 0 = 0 ∧ M2.2 158 0 = b9.toInt64 ∧ Inv M2)) (QX := fun j M1 => w_X8_fewest A1 (1 : Int32) M1 (fun _ M2 => M2.1 140 0 = nI (j + 1) ∧ Inv M2)) (st_fewest h A1 (1 : Int32) (Or.inr rfl)).go) w_L_229 cw_L_fewest np_L_fewest (Nat.le_of_ble_eq_true rfl) (Nat.le_of_ble_eq_true rfl) (rm_c (by omega)) (rm_s (by omega)) rfl (Nat.le_of_ble_eq_true rfl) dL_law__1917 (q := 1920) rfl ?_
    rintro _ M9 ⟨k, rfl, h9⟩
    rcases h9 with ⟨rfl, h9⟩ | ⟨j, rfl, hj, h9⟩
    · skip
      refine T.ist_5 (q := 1922) dL_law__1920 rfl (by decide) sk_ok_i ?_
      refine T.ald_2 (q := 1923) dL_law__1922 rfl ?_
      refine T.ald_0 (q := 1924) dL_law__1923 rfl ?_
      refine T.ild_4 (q := 1926) dL_law__1924 rfl ?_
      refine T.iconst (q := 1927) (1) dL_law__1926 rfl (by decide) ?_
      refine T.iadd (q := 1928) dL_law__1927 rfl ?_
      refine T.sld hv.2.1 hA1 dL_law__1928 (q := 1929) rfl ?_
      refine T.ald_0 (q := 1930) dL_law__1929 rfl ?_
      refine T.ild_4 (q := 1932) dL_law__1930 rfl ?_
      refine T.iconst (q := 1933) (2) dL_law__1932 rfl (by decide) ?_
      refine T.iadd (q := 1934) dL_law__1933 rfl ?_
      refine T.sld hv.2.2.1 hA2 dL_law__1934 (q := 1935) rfl ?_
      refine T.if_eq (tgt := 1942) (q := 1938) dL_law__1935 (by decide) rfl (fun h8 => absurd h8 z1908) (fun _ => ?_)
      refine T.iconst (q := 1939) (1) dL_law__1938 rfl (by decide) ?_
      refine T.goto (tgt := 1943) dL_law__1939 (by decide) ?_
      refine T.cV (As := [.int A1, .int (1 : Int32)]) (c := 140) (ci := 8) (C := RX8) (T := TX8) (N := 27) (t_X8_fewest h9) w_L_232 cw_X8_fewest np_X8_fewest rfl (by decide) rfl (by decide) rfl (Nat.le_of_ble_eq_true rfl) (Nat.le_of_ble_eq_true rfl) (rm_c (by omega)) (rm_s (by omega)) rfl (Nat.le_of_ble_eq_true rfl) dL_law__1943 (q := 1946) rfl ?_
      rintro _ M2 ⟨b9, rfl, e0, e1, hI⟩
      refine T.ist_6 (q := 1948) dL_law__1946 rfl (by decide) sk_ok_i ?_
      refine T.ald_2 (q := 1949) dL_law__1948 rfl ?_
      refine T.cV (As := []) (c := 140) (ci := 8) (C := RX8) (T := TX8) (N := 27) (t_X8_thrown (P := fun r9 => r9 = M2.1 140 0) rfl) w_L_149 cw_X8_thrown np_X8_thrown rfl (by decide) rfl (by decide) rfl (Nat.le_of_ble_eq_true rfl) (Nat.le_of_ble_eq_true rfl) (rm_c (by omega)) (rm_s (by omega)) rfl (Nat.le_of_ble_eq_true rfl) dL_law__1949 (q := 1952) rfl ?_
      rintro _ M3 ⟨r3, rfl, rfl, e9⟩
      obtain rfl := e9.symm
      refine T.ild_5 (q := 1954) dL_law__1952 rfl ?_
      refine T.ic_eq (tgt := 1959) (q := 1957) dL_law__1954 (by decide) rfl (fun _ => ?_) (fun h8 => absurd e0 h8)
      refine T.ild_5 (q := 1961) dL_law__1959 rfl ?_
      refine T.if_ne (tgt := 1976) (q := 1964) dL_law__1961 (by decide) rfl (fun h8 => absurd rfl h8) (fun _ => ?_)
      refine T.ald_3 (q := 1965) dL_law__1964 rfl ?_
      refine T.iconst (q := 1966) (0) dL_law__1965 rfl (by decide) ?_
      refine T.laldk (n := 1) rfl rfl (by decide) dL_law__1966 (q := 1967) rfl (k9 := 0) (by decide) ?_
      refine T.ild_6 (q := 1969) dL_law__1967 rfl ?_
      refine T.i2l (q := 1970) dL_law__1969 rfl ?_
      refine T.lcmp (q := 1971) dL_law__1970 rfl ?_
      refine T.if_eq (tgt := 1976) (q := 1974) dL_law__1971 (by decide) rfl (fun _ => ?_) (fun h8 => absurd (lgc e1) h8)
      refine T.goto (tgt := 2945) dL_law__1976 (by decide) ?_
      exact T.drop_5 (T.drop_6 (TJ.wide (by omega) (by omega) (kk _ hI)))
    · skip
      refine T.ist_5 (q := 1922) dL_law__1920 rfl (by decide) sk_ok_i ?_
      refine T.ald_2 (q := 1923) dL_law__1922 rfl ?_
      refine T.ald_0 (q := 1924) dL_law__1923 rfl ?_
      refine T.ild_4 (q := 1926) dL_law__1924 rfl ?_
      refine T.iconst (q := 1927) (1) dL_law__1926 rfl (by decide) ?_
      refine T.iadd (q := 1928) dL_law__1927 rfl ?_
      refine T.sld hv.2.1 hA1 dL_law__1928 (q := 1929) rfl ?_
      refine T.ald_0 (q := 1930) dL_law__1929 rfl ?_
      refine T.ild_4 (q := 1932) dL_law__1930 rfl ?_
      refine T.iconst (q := 1933) (2) dL_law__1932 rfl (by decide) ?_
      refine T.iadd (q := 1934) dL_law__1933 rfl ?_
      refine T.sld hv.2.2.1 hA2 dL_law__1934 (q := 1935) rfl ?_
      refine T.if_eq (tgt := 1942) (q := 1938) dL_law__1935 (by decide) rfl (fun h8 => absurd h8 z1908) (fun _ => ?_)
      refine T.iconst (q := 1939) (1) dL_law__1938 rfl (by decide) ?_
      refine T.goto (tgt := 1943) dL_law__1939 (by decide) ?_
      refine T.cV (As := [.int A1, .int (1 : Int32)]) (c := 140) (ci := 8) (C := RX8) (T := TX8) (N := 27) (t_X8_fewest h9) w_L_232 cw_X8_fewest np_X8_fewest rfl (by decide) rfl (by decide) rfl (Nat.le_of_ble_eq_true rfl) (Nat.le_of_ble_eq_true rfl) (rm_c (by omega)) (rm_s (by omega)) rfl (Nat.le_of_ble_eq_true rfl) dL_law__1943 (q := 1946) rfl ?_
      rintro _ M2 ⟨b9, rfl, e0, hI⟩
      refine T.ist_6 (q := 1948) dL_law__1946 rfl (by decide) sk_ok_i ?_
      refine T.ald_2 (q := 1949) dL_law__1948 rfl ?_
      refine T.cV (As := []) (c := 140) (ci := 8) (C := RX8) (T := TX8) (N := 27) (t_X8_thrown (P := fun r9 => r9 = M2.1 140 0) rfl) w_L_149 cw_X8_thrown np_X8_thrown rfl (by decide) rfl (by decide) rfl (Nat.le_of_ble_eq_true rfl) (Nat.le_of_ble_eq_true rfl) (rm_c (by omega)) (rm_s (by omega)) rfl (Nat.le_of_ble_eq_true rfl) dL_law__1949 (q := 1952) rfl ?_
      rintro _ M3 ⟨r3, rfl, rfl, e9⟩
      obtain rfl := e9.symm
      refine T.ild_5 (q := 1954) dL_law__1952 rfl ?_
      refine T.ic_eq (tgt := 1959) (q := 1957) dL_law__1954 (by decide) rfl (fun _ => ?_) (fun h8 => absurd e0 h8)
      refine T.ild_5 (q := 1961) dL_law__1959 rfl ?_
      refine T.if_ne (tgt := 1976) (q := 1964) dL_law__1961 (by decide) rfl (fun _ => ?_) (fun h8 => absurd h8 (lnz hj))
      refine T.goto (tgt := 2945) dL_law__1976 (by decide) ?_
      exact T.drop_5 (T.drop_6 (TJ.wide (by omega) (by omega) (kk _ hI)))
theorem lwc_27 {G : sk_G} {b L : Nat} {ys : Nat → Int32} {M : sk_M} {i : Int32} {cells slots : Nat} (h : Inv M) (hv : lwv i L) (hc : cells + 8 ≤ 601024) (hs : slots + 48 ≤ 7293033) (kk : ∀ M0, Inv M0 → TJ G mL_law_ room_1 (lw_E G b L ys) (cells + 8) (slots + 48) 2945 [some (.ref b), some (.ref (G.2.2.1 120)), some (.ref (G.2.2.1 140)), some (.ref (G.2.2.1 158)), some (.int i), none, none] [] M0) : TJ G mL_law_ room_1 (lw_E G b L ys) cells slots 1979 [some (.ref b), some (.ref (G.2.2.1 120)), some (.ref (G.2.2.1 140)), some (.ref (G.2.2.1 158)), some (.int i), none, none] [] M := by
  obtain ⟨A1, hA1⟩ : ∃ z, z = ys (i + 1).toNatClampNeg := ⟨_, rfl⟩
  obtain ⟨A2, hA2⟩ : ∃ z, z = ys (i + 2).toNatClampNeg := ⟨_, rfl⟩
  obtain ⟨A3, hA3⟩ : ∃ z, z = ys (i + 3).toNatClampNeg := ⟨_, rfl⟩
  obtain ⟨A4, hA4⟩ : ∃ z, z = ys (i + 4).toNatClampNeg := ⟨_, rfl⟩
  obtain ⟨A5, hA5⟩ : ∃ z, z = ys (i + 5).toNatClampNeg := ⟨_, rfl⟩
  refine T.ald_1 (q := 1980) dL_law__1979 rfl ?_
  refine T.ald_0 (q := 1981) dL_law__1980 rfl ?_
  refine T.ild_4 (q := 1983) dL_law__1981 rfl ?_
  refine T.iconst (q := 1984) (1) dL_law__1983 rfl (by decide) ?_
  refine T.iadd (q := 1985) dL_law__1984 rfl ?_
  refine T.sld hv.2.1 hA1 dL_law__1985 (q := 1986) rfl ?_
  refine T.ald_3 (q := 1987) dL_law__1986 rfl ?_
  refine T.cSH (As := [.ref (G.2.2.1 120), .int A1, .ref (G.2.2.1 158)]) (rest := []) (t_L_pair (Q0 := fun M1 => w_X8_pair A1 M1 (fun b9 M2 => M2.1 140 0 = 0 ∧ M2.2 158 0 = b9.toInt64 ∧ Inv M2)) (QX := fun j M1 => w_X8_pair A1 M1 (fun _ M2 => M2.1 140 0 = nI (j + 1) ∧ Inv M2)) (st_pair h A1).go) w_L_233 cw_L_pair np_L_pair (Nat.le_of_ble_eq_true rfl) (Nat.le_of_ble_eq_true rfl) (rm_c (by omega)) (rm_s (by omega)) rfl (Nat.le_of_ble_eq_true rfl) dL_law__1987 (q := 1990) rfl ?_
  rintro _ M9 ⟨k, rfl, h9⟩
  rcases h9 with ⟨rfl, h9⟩ | ⟨j, rfl, hj, h9⟩
  · skip
    refine T.ist_5 (q := 1992) dL_law__1990 rfl (by decide) sk_ok_i ?_
    refine T.ald_2 (q := 1993) dL_law__1992 rfl ?_
    refine T.ald_0 (q := 1994) dL_law__1993 rfl ?_
    refine T.ild_4 (q := 1996) dL_law__1994 rfl ?_
    refine T.iconst (q := 1997) (1) dL_law__1996 rfl (by decide) ?_
    refine T.iadd (q := 1998) dL_law__1997 rfl ?_
    refine T.sld hv.2.1 hA1 dL_law__1998 (q := 1999) rfl ?_
    refine T.cV (As := [.int A1]) (c := 140) (ci := 8) (C := RX8) (T := TX8) (N := 27) (t_X8_pair h9) w_L_235 cw_X8_pair np_X8_pair rfl (by decide) rfl (by decide) rfl (Nat.le_of_ble_eq_true rfl) (Nat.le_of_ble_eq_true rfl) (rm_c (by omega)) (rm_s (by omega)) rfl (Nat.le_of_ble_eq_true rfl) dL_law__1999 (q := 2002) rfl ?_
    rintro _ M2 ⟨b9, rfl, e0, e1, hI⟩
    refine T.ist_6 (q := 2004) dL_law__2002 rfl (by decide) sk_ok_i ?_
    refine T.ald_2 (q := 2005) dL_law__2004 rfl ?_
    refine T.cV (As := []) (c := 140) (ci := 8) (C := RX8) (T := TX8) (N := 27) (t_X8_thrown (P := fun r9 => r9 = M2.1 140 0) rfl) w_L_149 cw_X8_thrown np_X8_thrown rfl (by decide) rfl (by decide) rfl (Nat.le_of_ble_eq_true rfl) (Nat.le_of_ble_eq_true rfl) (rm_c (by omega)) (rm_s (by omega)) rfl (Nat.le_of_ble_eq_true rfl) dL_law__2005 (q := 2008) rfl ?_
    rintro _ M3 ⟨r3, rfl, rfl, e9⟩
    obtain rfl := e9.symm
    refine T.ild_5 (q := 2010) dL_law__2008 rfl ?_
    refine T.ic_eq (tgt := 2015) (q := 2013) dL_law__2010 (by decide) rfl (fun _ => ?_) (fun h8 => absurd e0 h8)
    refine T.ild_5 (q := 2017) dL_law__2015 rfl ?_
    refine T.if_ne (tgt := 2032) (q := 2020) dL_law__2017 (by decide) rfl (fun h8 => absurd rfl h8) (fun _ => ?_)
    refine T.ald_3 (q := 2021) dL_law__2020 rfl ?_
    refine T.iconst (q := 2022) (0) dL_law__2021 rfl (by decide) ?_
    refine T.laldk (n := 1) rfl rfl (by decide) dL_law__2022 (q := 2023) rfl (k9 := 0) (by decide) ?_
    refine T.ild_6 (q := 2025) dL_law__2023 rfl ?_
    refine T.i2l (q := 2026) dL_law__2025 rfl ?_
    refine T.lcmp (q := 2027) dL_law__2026 rfl ?_
    refine T.if_eq (tgt := 2032) (q := 2030) dL_law__2027 (by decide) rfl (fun _ => ?_) (fun h8 => absurd (lgc e1) h8)
    refine T.goto (tgt := 2945) dL_law__2032 (by decide) ?_
    exact T.drop_5 (T.drop_6 (TJ.wide (by omega) (by omega) (kk _ hI)))
  · skip
    refine T.ist_5 (q := 1992) dL_law__1990 rfl (by decide) sk_ok_i ?_
    refine T.ald_2 (q := 1993) dL_law__1992 rfl ?_
    refine T.ald_0 (q := 1994) dL_law__1993 rfl ?_
    refine T.ild_4 (q := 1996) dL_law__1994 rfl ?_
    refine T.iconst (q := 1997) (1) dL_law__1996 rfl (by decide) ?_
    refine T.iadd (q := 1998) dL_law__1997 rfl ?_
    refine T.sld hv.2.1 hA1 dL_law__1998 (q := 1999) rfl ?_
    refine T.cV (As := [.int A1]) (c := 140) (ci := 8) (C := RX8) (T := TX8) (N := 27) (t_X8_pair h9) w_L_235 cw_X8_pair np_X8_pair rfl (by decide) rfl (by decide) rfl (Nat.le_of_ble_eq_true rfl) (Nat.le_of_ble_eq_true rfl) (rm_c (by omega)) (rm_s (by omega)) rfl (Nat.le_of_ble_eq_true rfl) dL_law__1999 (q := 2002) rfl ?_
    rintro _ M2 ⟨b9, rfl, e0, hI⟩
    refine T.ist_6 (q := 2004) dL_law__2002 rfl (by decide) sk_ok_i ?_
    refine T.ald_2 (q := 2005) dL_law__2004 rfl ?_
    refine T.cV (As := []) (c := 140) (ci := 8) (C := RX8) (T := TX8) (N := 27) (t_X8_thrown (P := fun r9 => r9 = M2.1 140 0) rfl) w_L_149 cw_X8_thrown np_X8_thrown rfl (by decide) rfl (by decide) rfl (Nat.le_of_ble_eq_true rfl) (Nat.le_of_ble_eq_true rfl) (rm_c (by omega)) (rm_s (by omega)) rfl (Nat.le_of_ble_eq_true rfl) dL_law__2005 (q := 2008) rfl ?_
    rintro _ M3 ⟨r3, rfl, rfl, e9⟩
    obtain rfl := e9.symm
    refine T.ild_5 (q := 2010) dL_law__2008 rfl ?_
    refine T.ic_eq (tgt := 2015) (q := 2013) dL_law__2010 (by decide) rfl (fun _ => ?_) (fun h8 => absurd e0 h8)
    refine T.ild_5 (q := 2017) dL_law__2015 rfl ?_
    refine T.if_ne (tgt := 2032) (q := 2020) dL_law__2017 (by decide) rfl (fun _ => ?_) (fun h8 => absurd h8 (lnz hj))
    refine T.goto (tgt := 2945) dL_law__2032 (by decide) ?_
    exact T.drop_5 (T.drop_6 (TJ.wide (by omega) (by omega) (kk _ hI)))
theorem lwc_28 {G : sk_G} {b L : Nat} {ys : Nat → Int32} {M : sk_M} {i : Int32} {cells slots : Nat} (h : Inv M) (hv : lwv i L) (hc : cells + 8 ≤ 601024) (hs : slots + 48 ≤ 7293033) (kk : ∀ M0, Inv M0 → TJ G mL_law_ room_1 (lw_E G b L ys) (cells + 8) (slots + 48) 2945 [some (.ref b), some (.ref (G.2.2.1 120)), some (.ref (G.2.2.1 140)), some (.ref (G.2.2.1 158)), some (.int i), none, none] [] M0) : TJ G mL_law_ room_1 (lw_E G b L ys) cells slots 2035 [some (.ref b), some (.ref (G.2.2.1 120)), some (.ref (G.2.2.1 140)), some (.ref (G.2.2.1 158)), some (.int i), none, none] [] M := by
  obtain ⟨A1, hA1⟩ : ∃ z, z = ys (i + 1).toNatClampNeg := ⟨_, rfl⟩
  obtain ⟨A2, hA2⟩ : ∃ z, z = ys (i + 2).toNatClampNeg := ⟨_, rfl⟩
  obtain ⟨A3, hA3⟩ : ∃ z, z = ys (i + 3).toNatClampNeg := ⟨_, rfl⟩
  obtain ⟨A4, hA4⟩ : ∃ z, z = ys (i + 4).toNatClampNeg := ⟨_, rfl⟩
  obtain ⟨A5, hA5⟩ : ∃ z, z = ys (i + 5).toNatClampNeg := ⟨_, rfl⟩
  refine T.ald_1 (q := 2036) dL_law__2035 rfl ?_
  refine T.ald_0 (q := 2037) dL_law__2036 rfl ?_
  refine T.ild_4 (q := 2039) dL_law__2037 rfl ?_
  refine T.iconst (q := 2040) (1) dL_law__2039 rfl (by decide) ?_
  refine T.iadd (q := 2041) dL_law__2040 rfl ?_
  refine T.sld hv.2.1 hA1 dL_law__2041 (q := 2042) rfl ?_
  refine T.ald_0 (q := 2043) dL_law__2042 rfl ?_
  refine T.ild_4 (q := 2045) dL_law__2043 rfl ?_
  refine T.iconst (q := 2046) (2) dL_law__2045 rfl (by decide) ?_
  refine T.iadd (q := 2047) dL_law__2046 rfl ?_
  refine T.sld hv.2.2.1 hA2 dL_law__2047 (q := 2048) rfl ?_
  refine T.ald_0 (q := 2049) dL_law__2048 rfl ?_
  refine T.ild_4 (q := 2051) dL_law__2049 rfl ?_
  refine T.iconst (q := 2052) (3) dL_law__2051 rfl (by decide) ?_
  refine T.iadd (q := 2053) dL_law__2052 rfl ?_
  refine T.sld hv.2.2.2.1 hA3 dL_law__2053 (q := 2054) rfl ?_
  refine T.ald_3 (q := 2055) dL_law__2054 rfl ?_
  refine T.cSH (As := [.ref (G.2.2.1 120), .int A1, .int A2, .int A3, .ref (G.2.2.1 158)]) (rest := []) (t_L_gains (Q0 := fun M1 => w_X8_gains A1 A2 A3 M1 (fun b9 M2 => M2.1 140 0 = 0 ∧ M2.2 158 0 = b9.toInt64 ∧ Inv M2)) (QX := fun j M1 => w_X8_gains A1 A2 A3 M1 (fun _ M2 => M2.1 140 0 = nI (j + 1) ∧ Inv M2)) (st_gains h A1 A2 A3).go) w_L_236 cw_L_gains np_L_gains (Nat.le_of_ble_eq_true rfl) (Nat.le_of_ble_eq_true rfl) (rm_c (by omega)) (rm_s (by omega)) rfl (Nat.le_of_ble_eq_true rfl) dL_law__2055 (q := 2058) rfl ?_
  rintro _ M9 ⟨k, rfl, h9⟩
  rcases h9 with ⟨rfl, h9⟩ | ⟨j, rfl, hj, h9⟩
  · skip
    refine T.ist_5 (q := 2060) dL_law__2058 rfl (by decide) sk_ok_i ?_
    refine T.ald_2 (q := 2061) dL_law__2060 rfl ?_
    refine T.ald_0 (q := 2062) dL_law__2061 rfl ?_
    refine T.ild_4 (q := 2064) dL_law__2062 rfl ?_
    refine T.iconst (q := 2065) (1) dL_law__2064 rfl (by decide) ?_
    refine T.iadd (q := 2066) dL_law__2065 rfl ?_
    refine T.sld hv.2.1 hA1 dL_law__2066 (q := 2067) rfl ?_
    refine T.ald_0 (q := 2068) dL_law__2067 rfl ?_
    refine T.ild_4 (q := 2070) dL_law__2068 rfl ?_
    refine T.iconst (q := 2071) (2) dL_law__2070 rfl (by decide) ?_
    refine T.iadd (q := 2072) dL_law__2071 rfl ?_
    refine T.sld hv.2.2.1 hA2 dL_law__2072 (q := 2073) rfl ?_
    refine T.ald_0 (q := 2074) dL_law__2073 rfl ?_
    refine T.ild_4 (q := 2076) dL_law__2074 rfl ?_
    refine T.iconst (q := 2077) (3) dL_law__2076 rfl (by decide) ?_
    refine T.iadd (q := 2078) dL_law__2077 rfl ?_
    refine T.sld hv.2.2.2.1 hA3 dL_law__2078 (q := 2079) rfl ?_
    refine T.cV (As := [.int A1, .int A2, .int A3]) (c := 140) (ci := 8) (C := RX8) (T := TX8) (N := 27) (t_X8_gains h9) w_L_238 cw_X8_gains np_X8_gains rfl (by decide) rfl (by decide) rfl (Nat.le_of_ble_eq_true rfl) (Nat.le_of_ble_eq_true rfl) (rm_c (by omega)) (rm_s (by omega)) rfl (Nat.le_of_ble_eq_true rfl) dL_law__2079 (q := 2082) rfl ?_
    rintro _ M2 ⟨b9, rfl, e0, e1, hI⟩
    refine T.ist_6 (q := 2084) dL_law__2082 rfl (by decide) sk_ok_i ?_
    refine T.ald_2 (q := 2085) dL_law__2084 rfl ?_
    refine T.cV (As := []) (c := 140) (ci := 8) (C := RX8) (T := TX8) (N := 27) (t_X8_thrown (P := fun r9 => r9 = M2.1 140 0) rfl) w_L_149 cw_X8_thrown np_X8_thrown rfl (by decide) rfl (by decide) rfl (Nat.le_of_ble_eq_true rfl) (Nat.le_of_ble_eq_true rfl) (rm_c (by omega)) (rm_s (by omega)) rfl (Nat.le_of_ble_eq_true rfl) dL_law__2085 (q := 2088) rfl ?_
    rintro _ M3 ⟨r3, rfl, rfl, e9⟩
    obtain rfl := e9.symm
    refine T.ild_5 (q := 2090) dL_law__2088 rfl ?_
    refine T.ic_eq (tgt := 2095) (q := 2093) dL_law__2090 (by decide) rfl (fun _ => ?_) (fun h8 => absurd e0 h8)
    refine T.ild_5 (q := 2097) dL_law__2095 rfl ?_
    refine T.if_ne (tgt := 2112) (q := 2100) dL_law__2097 (by decide) rfl (fun h8 => absurd rfl h8) (fun _ => ?_)
    refine T.ald_3 (q := 2101) dL_law__2100 rfl ?_
    refine T.iconst (q := 2102) (0) dL_law__2101 rfl (by decide) ?_
    refine T.laldk (n := 1) rfl rfl (by decide) dL_law__2102 (q := 2103) rfl (k9 := 0) (by decide) ?_
    refine T.ild_6 (q := 2105) dL_law__2103 rfl ?_
    refine T.i2l (q := 2106) dL_law__2105 rfl ?_
    refine T.lcmp (q := 2107) dL_law__2106 rfl ?_
    refine T.if_eq (tgt := 2112) (q := 2110) dL_law__2107 (by decide) rfl (fun _ => ?_) (fun h8 => absurd (lgc e1) h8)
    refine T.goto (tgt := 2945) dL_law__2112 (by decide) ?_
    exact T.drop_5 (T.drop_6 (TJ.wide (by omega) (by omega) (kk _ hI)))
  · skip
    refine T.ist_5 (q := 2060) dL_law__2058 rfl (by decide) sk_ok_i ?_
    refine T.ald_2 (q := 2061) dL_law__2060 rfl ?_
    refine T.ald_0 (q := 2062) dL_law__2061 rfl ?_
    refine T.ild_4 (q := 2064) dL_law__2062 rfl ?_
    refine T.iconst (q := 2065) (1) dL_law__2064 rfl (by decide) ?_
    refine T.iadd (q := 2066) dL_law__2065 rfl ?_
    refine T.sld hv.2.1 hA1 dL_law__2066 (q := 2067) rfl ?_
    refine T.ald_0 (q := 2068) dL_law__2067 rfl ?_
    refine T.ild_4 (q := 2070) dL_law__2068 rfl ?_
    refine T.iconst (q := 2071) (2) dL_law__2070 rfl (by decide) ?_
    refine T.iadd (q := 2072) dL_law__2071 rfl ?_
    refine T.sld hv.2.2.1 hA2 dL_law__2072 (q := 2073) rfl ?_
    refine T.ald_0 (q := 2074) dL_law__2073 rfl ?_
    refine T.ild_4 (q := 2076) dL_law__2074 rfl ?_
    refine T.iconst (q := 2077) (3) dL_law__2076 rfl (by decide) ?_
    refine T.iadd (q := 2078) dL_law__2077 rfl ?_
    refine T.sld hv.2.2.2.1 hA3 dL_law__2078 (q := 2079) rfl ?_
    refine T.cV (As := [.int A1, .int A2, .int A3]) (c := 140) (ci := 8) (C := RX8) (T := TX8) (N := 27) (t_X8_gains h9) w_L_238 cw_X8_gains np_X8_gains rfl (by decide) rfl (by decide) rfl (Nat.le_of_ble_eq_true rfl) (Nat.le_of_ble_eq_true rfl) (rm_c (by omega)) (rm_s (by omega)) rfl (Nat.le_of_ble_eq_true rfl) dL_law__2079 (q := 2082) rfl ?_
    rintro _ M2 ⟨b9, rfl, e0, hI⟩
    refine T.ist_6 (q := 2084) dL_law__2082 rfl (by decide) sk_ok_i ?_
    refine T.ald_2 (q := 2085) dL_law__2084 rfl ?_
    refine T.cV (As := []) (c := 140) (ci := 8) (C := RX8) (T := TX8) (N := 27) (t_X8_thrown (P := fun r9 => r9 = M2.1 140 0) rfl) w_L_149 cw_X8_thrown np_X8_thrown rfl (by decide) rfl (by decide) rfl (Nat.le_of_ble_eq_true rfl) (Nat.le_of_ble_eq_true rfl) (rm_c (by omega)) (rm_s (by omega)) rfl (Nat.le_of_ble_eq_true rfl) dL_law__2085 (q := 2088) rfl ?_
    rintro _ M3 ⟨r3, rfl, rfl, e9⟩
    obtain rfl := e9.symm
    refine T.ild_5 (q := 2090) dL_law__2088 rfl ?_
    refine T.ic_eq (tgt := 2095) (q := 2093) dL_law__2090 (by decide) rfl (fun _ => ?_) (fun h8 => absurd e0 h8)
    refine T.ild_5 (q := 2097) dL_law__2095 rfl ?_
    refine T.if_ne (tgt := 2112) (q := 2100) dL_law__2097 (by decide) rfl (fun _ => ?_) (fun h8 => absurd h8 (lnz hj))
    refine T.goto (tgt := 2945) dL_law__2112 (by decide) ?_
    exact T.drop_5 (T.drop_6 (TJ.wide (by omega) (by omega) (kk _ hI)))
theorem lwc_29 {G : sk_G} {b L : Nat} {ys : Nat → Int32} {M : sk_M} {i : Int32} {cells slots : Nat} (h : Inv M) (hv : lwv i L) (hc : cells + 8 ≤ 601024) (hs : slots + 48 ≤ 7293033) (kk : ∀ M0, Inv M0 → TJ G mL_law_ room_1 (lw_E G b L ys) (cells + 8) (slots + 48) 2945 [some (.ref b), some (.ref (G.2.2.1 120)), some (.ref (G.2.2.1 140)), some (.ref (G.2.2.1 158)), some (.int i), none, none] [] M0) : TJ G mL_law_ room_1 (lw_E G b L ys) cells slots 2115 [some (.ref b), some (.ref (G.2.2.1 120)), some (.ref (G.2.2.1 140)), some (.ref (G.2.2.1 158)), some (.int i), none, none] [] M := by
  obtain ⟨A1, hA1⟩ : ∃ z, z = ys (i + 1).toNatClampNeg := ⟨_, rfl⟩
  obtain ⟨A2, hA2⟩ : ∃ z, z = ys (i + 2).toNatClampNeg := ⟨_, rfl⟩
  obtain ⟨A3, hA3⟩ : ∃ z, z = ys (i + 3).toNatClampNeg := ⟨_, rfl⟩
  obtain ⟨A4, hA4⟩ : ∃ z, z = ys (i + 4).toNatClampNeg := ⟨_, rfl⟩
  obtain ⟨A5, hA5⟩ : ∃ z, z = ys (i + 5).toNatClampNeg := ⟨_, rfl⟩
  refine T.ald_1 (q := 2116) dL_law__2115 rfl ?_
  refine T.ald_0 (q := 2117) dL_law__2116 rfl ?_
  refine T.ild_4 (q := 2119) dL_law__2117 rfl ?_
  refine T.iconst (q := 2120) (1) dL_law__2119 rfl (by decide) ?_
  refine T.iadd (q := 2121) dL_law__2120 rfl ?_
  refine T.sld hv.2.1 hA1 dL_law__2121 (q := 2122) rfl ?_
  refine T.ald_0 (q := 2123) dL_law__2122 rfl ?_
  refine T.ild_4 (q := 2125) dL_law__2123 rfl ?_
  refine T.iconst (q := 2126) (2) dL_law__2125 rfl (by decide) ?_
  refine T.iadd (q := 2127) dL_law__2126 rfl ?_
  refine T.sld hv.2.2.1 hA2 dL_law__2127 (q := 2128) rfl ?_
  refine T.ald_3 (q := 2129) dL_law__2128 rfl ?_
  refine T.cSH (As := [.ref (G.2.2.1 120), .int A1, .int A2, .ref (G.2.2.1 158)]) (rest := []) (t_L_contract (Q0 := fun M1 => w_X8_contract A1 A2 M1 (fun b9 M2 => M2.1 140 0 = 0 ∧ M2.2 158 0 = b9.toInt64 ∧ Inv M2)) (QX := fun j M1 => w_X8_contract A1 A2 M1 (fun _ M2 => M2.1 140 0 = nI (j + 1) ∧ Inv M2)) (st_contract h A1 A2).go) w_L_239 cw_L_contract np_L_contract (Nat.le_of_ble_eq_true rfl) (Nat.le_of_ble_eq_true rfl) (rm_c (by omega)) (rm_s (by omega)) rfl (Nat.le_of_ble_eq_true rfl) dL_law__2129 (q := 2132) rfl ?_
  rintro _ M9 ⟨k, rfl, h9⟩
  rcases h9 with ⟨rfl, h9⟩ | ⟨j, rfl, hj, h9⟩
  · skip
    refine T.ist_5 (q := 2134) dL_law__2132 rfl (by decide) sk_ok_i ?_
    refine T.ald_2 (q := 2135) dL_law__2134 rfl ?_
    refine T.ald_0 (q := 2136) dL_law__2135 rfl ?_
    refine T.ild_4 (q := 2138) dL_law__2136 rfl ?_
    refine T.iconst (q := 2139) (1) dL_law__2138 rfl (by decide) ?_
    refine T.iadd (q := 2140) dL_law__2139 rfl ?_
    refine T.sld hv.2.1 hA1 dL_law__2140 (q := 2141) rfl ?_
    refine T.ald_0 (q := 2142) dL_law__2141 rfl ?_
    refine T.ild_4 (q := 2144) dL_law__2142 rfl ?_
    refine T.iconst (q := 2145) (2) dL_law__2144 rfl (by decide) ?_
    refine T.iadd (q := 2146) dL_law__2145 rfl ?_
    refine T.sld hv.2.2.1 hA2 dL_law__2146 (q := 2147) rfl ?_
    refine T.cV (As := [.int A1, .int A2]) (c := 140) (ci := 8) (C := RX8) (T := TX8) (N := 27) (t_X8_contract h9) w_L_241 cw_X8_contract np_X8_contract rfl (by decide) rfl (by decide) rfl (Nat.le_of_ble_eq_true rfl) (Nat.le_of_ble_eq_true rfl) (rm_c (by omega)) (rm_s (by omega)) rfl (Nat.le_of_ble_eq_true rfl) dL_law__2147 (q := 2150) rfl ?_
    rintro _ M2 ⟨b9, rfl, e0, e1, hI⟩
    refine T.ist_6 (q := 2152) dL_law__2150 rfl (by decide) sk_ok_i ?_
    refine T.ald_2 (q := 2153) dL_law__2152 rfl ?_
    refine T.cV (As := []) (c := 140) (ci := 8) (C := RX8) (T := TX8) (N := 27) (t_X8_thrown (P := fun r9 => r9 = M2.1 140 0) rfl) w_L_149 cw_X8_thrown np_X8_thrown rfl (by decide) rfl (by decide) rfl (Nat.le_of_ble_eq_true rfl) (Nat.le_of_ble_eq_true rfl) (rm_c (by omega)) (rm_s (by omega)) rfl (Nat.le_of_ble_eq_true rfl) dL_law__2153 (q := 2156) rfl ?_
    rintro _ M3 ⟨r3, rfl, rfl, e9⟩
    obtain rfl := e9.symm
    refine T.ild_5 (q := 2158) dL_law__2156 rfl ?_
    refine T.ic_eq (tgt := 2163) (q := 2161) dL_law__2158 (by decide) rfl (fun _ => ?_) (fun h8 => absurd e0 h8)
    refine T.ild_5 (q := 2165) dL_law__2163 rfl ?_
    refine T.if_ne (tgt := 2180) (q := 2168) dL_law__2165 (by decide) rfl (fun h8 => absurd rfl h8) (fun _ => ?_)
    refine T.ald_3 (q := 2169) dL_law__2168 rfl ?_
    refine T.iconst (q := 2170) (0) dL_law__2169 rfl (by decide) ?_
    refine T.laldk (n := 1) rfl rfl (by decide) dL_law__2170 (q := 2171) rfl (k9 := 0) (by decide) ?_
    refine T.ild_6 (q := 2173) dL_law__2171 rfl ?_
    refine T.i2l (q := 2174) dL_law__2173 rfl ?_
    refine T.lcmp (q := 2175) dL_law__2174 rfl ?_
    refine T.if_eq (tgt := 2180) (q := 2178) dL_law__2175 (by decide) rfl (fun _ => ?_) (fun h8 => absurd (lgc e1) h8)
    refine T.goto (tgt := 2945) dL_law__2180 (by decide) ?_
    exact T.drop_5 (T.drop_6 (TJ.wide (by omega) (by omega) (kk _ hI)))
  · skip
    refine T.ist_5 (q := 2134) dL_law__2132 rfl (by decide) sk_ok_i ?_
    refine T.ald_2 (q := 2135) dL_law__2134 rfl ?_
    refine T.ald_0 (q := 2136) dL_law__2135 rfl ?_
    refine T.ild_4 (q := 2138) dL_law__2136 rfl ?_
    refine T.iconst (q := 2139) (1) dL_law__2138 rfl (by decide) ?_
    refine T.iadd (q := 2140) dL_law__2139 rfl ?_
    refine T.sld hv.2.1 hA1 dL_law__2140 (q := 2141) rfl ?_
    refine T.ald_0 (q := 2142) dL_law__2141 rfl ?_
    refine T.ild_4 (q := 2144) dL_law__2142 rfl ?_
    refine T.iconst (q := 2145) (2) dL_law__2144 rfl (by decide) ?_
    refine T.iadd (q := 2146) dL_law__2145 rfl ?_
    refine T.sld hv.2.2.1 hA2 dL_law__2146 (q := 2147) rfl ?_
    refine T.cV (As := [.int A1, .int A2]) (c := 140) (ci := 8) (C := RX8) (T := TX8) (N := 27) (t_X8_contract h9) w_L_241 cw_X8_contract np_X8_contract rfl (by decide) rfl (by decide) rfl (Nat.le_of_ble_eq_true rfl) (Nat.le_of_ble_eq_true rfl) (rm_c (by omega)) (rm_s (by omega)) rfl (Nat.le_of_ble_eq_true rfl) dL_law__2147 (q := 2150) rfl ?_
    rintro _ M2 ⟨b9, rfl, e0, hI⟩
    refine T.ist_6 (q := 2152) dL_law__2150 rfl (by decide) sk_ok_i ?_
    refine T.ald_2 (q := 2153) dL_law__2152 rfl ?_
    refine T.cV (As := []) (c := 140) (ci := 8) (C := RX8) (T := TX8) (N := 27) (t_X8_thrown (P := fun r9 => r9 = M2.1 140 0) rfl) w_L_149 cw_X8_thrown np_X8_thrown rfl (by decide) rfl (by decide) rfl (Nat.le_of_ble_eq_true rfl) (Nat.le_of_ble_eq_true rfl) (rm_c (by omega)) (rm_s (by omega)) rfl (Nat.le_of_ble_eq_true rfl) dL_law__2153 (q := 2156) rfl ?_
    rintro _ M3 ⟨r3, rfl, rfl, e9⟩
    obtain rfl := e9.symm
    refine T.ild_5 (q := 2158) dL_law__2156 rfl ?_
    refine T.ic_eq (tgt := 2163) (q := 2161) dL_law__2158 (by decide) rfl (fun _ => ?_) (fun h8 => absurd e0 h8)
    refine T.ild_5 (q := 2165) dL_law__2163 rfl ?_
    refine T.if_ne (tgt := 2180) (q := 2168) dL_law__2165 (by decide) rfl (fun _ => ?_) (fun h8 => absurd h8 (lnz hj))
    refine T.goto (tgt := 2945) dL_law__2180 (by decide) ?_
    exact T.drop_5 (T.drop_6 (TJ.wide (by omega) (by omega) (kk _ hI)))
theorem lwc_30 {G : sk_G} {b L : Nat} {ys : Nat → Int32} {M : sk_M} {i : Int32} {cells slots : Nat} (h : Inv M) (hv : lwv i L) (hc : cells + 8 ≤ 601024) (hs : slots + 48 ≤ 7293033) (kk : ∀ M0, Inv M0 → TJ G mL_law_ room_1 (lw_E G b L ys) (cells + 8) (slots + 48) 2945 [some (.ref b), some (.ref (G.2.2.1 120)), some (.ref (G.2.2.1 140)), some (.ref (G.2.2.1 158)), some (.int i), none, none] [] M0) : TJ G mL_law_ room_1 (lw_E G b L ys) cells slots 2183 [some (.ref b), some (.ref (G.2.2.1 120)), some (.ref (G.2.2.1 140)), some (.ref (G.2.2.1 158)), some (.int i), none, none] [] M := by
  obtain ⟨A1, hA1⟩ : ∃ z, z = ys (i + 1).toNatClampNeg := ⟨_, rfl⟩
  obtain ⟨A2, hA2⟩ : ∃ z, z = ys (i + 2).toNatClampNeg := ⟨_, rfl⟩
  obtain ⟨A3, hA3⟩ : ∃ z, z = ys (i + 3).toNatClampNeg := ⟨_, rfl⟩
  obtain ⟨A4, hA4⟩ : ∃ z, z = ys (i + 4).toNatClampNeg := ⟨_, rfl⟩
  obtain ⟨A5, hA5⟩ : ∃ z, z = ys (i + 5).toNatClampNeg := ⟨_, rfl⟩
  refine T.ald_1 (q := 2184) dL_law__2183 rfl ?_
  refine T.cV (As := []) (c := 120) (ci := 7) (C := RX7) (T := TX7) (N := 9) (t_X7_broken (Q := fun r => w_X8_broken M (fun b9 M2 => r = b9 ∧ Inv M2)) (st_broken h ).go) w_L_242 cw_X7_broken np_X7_broken rfl (by decide) rfl (by decide) rfl (Nat.le_of_ble_eq_true rfl) (Nat.le_of_ble_eq_true rfl) (rm_c (by omega)) (rm_s (by omega)) rfl (Nat.le_of_ble_eq_true rfl) dL_law__2184 (q := 2187) rfl ?_
  rintro _ M9 ⟨r, rfl, h9, e9⟩
  obtain rfl := e9.symm
  refine T.ald_2 (q := 2188) dL_law__2187 rfl ?_
  refine T.cV (As := []) (c := 140) (ci := 8) (C := RX8) (T := TX8) (N := 27) (t_X8_broken h9) w_L_245 cw_X8_broken np_X8_broken rfl (by decide) rfl (by decide) rfl (Nat.le_of_ble_eq_true rfl) (Nat.le_of_ble_eq_true rfl) (rm_c (by omega)) (rm_s (by omega)) rfl (Nat.le_of_ble_eq_true rfl) dL_law__2188 (q := 2191) rfl ?_
  rintro _ M2 ⟨b9, rfl, e0, hI⟩
  refine T.ic_eq (tgt := 2945) (q := 2194) dL_law__2191 (by decide) rfl (fun _ => ?_) (fun h8 => absurd e0 h8)
  exact TJ.wide (by omega) (by omega) (kk _ hI)
theorem lwc_31 {G : sk_G} {b L : Nat} {ys : Nat → Int32} {M : sk_M} {i : Int32} {cells slots : Nat} (h : Inv M) (hv : lwv i L) (hc : cells + 8 ≤ 601024) (hs : slots + 48 ≤ 7293033) (kk : ∀ M0, Inv M0 → TJ G mL_law_ room_1 (lw_E G b L ys) (cells + 8) (slots + 48) 2945 [some (.ref b), some (.ref (G.2.2.1 120)), some (.ref (G.2.2.1 140)), some (.ref (G.2.2.1 158)), some (.int i), none, none] [] M0) : TJ G mL_law_ room_1 (lw_E G b L ys) cells slots 2196 [some (.ref b), some (.ref (G.2.2.1 120)), some (.ref (G.2.2.1 140)), some (.ref (G.2.2.1 158)), some (.int i), none, none] [] M := by
  obtain ⟨A1, hA1⟩ : ∃ z, z = ys (i + 1).toNatClampNeg := ⟨_, rfl⟩
  obtain ⟨A2, hA2⟩ : ∃ z, z = ys (i + 2).toNatClampNeg := ⟨_, rfl⟩
  obtain ⟨A3, hA3⟩ : ∃ z, z = ys (i + 3).toNatClampNeg := ⟨_, rfl⟩
  obtain ⟨A4, hA4⟩ : ∃ z, z = ys (i + 4).toNatClampNeg := ⟨_, rfl⟩
  obtain ⟨A5, hA5⟩ : ∃ z, z = ys (i + 5).toNatClampNeg := ⟨_, rfl⟩
  refine T.ald_1 (q := 2197) dL_law__2196 rfl ?_
  refine T.cV (As := []) (c := 120) (ci := 7) (C := RX7) (T := TX7) (N := 9) (t_X7_breaks (Q := fun r => w_X8_breaks M (fun b9 M2 => r = b9 ∧ Inv M2)) (st_breaks h ).go) w_L_246 cw_X7_breaks np_X7_breaks rfl (by decide) rfl (by decide) rfl (Nat.le_of_ble_eq_true rfl) (Nat.le_of_ble_eq_true rfl) (rm_c (by omega)) (rm_s (by omega)) rfl (Nat.le_of_ble_eq_true rfl) dL_law__2197 (q := 2200) rfl ?_
  rintro _ M9 ⟨r, rfl, h9, e9⟩
  obtain rfl := e9.symm
  refine T.ald_2 (q := 2201) dL_law__2200 rfl ?_
  refine T.cV (As := []) (c := 140) (ci := 8) (C := RX8) (T := TX8) (N := 27) (t_X8_breaks h9) w_L_249 cw_X8_breaks np_X8_breaks rfl (by decide) rfl (by decide) rfl (Nat.le_of_ble_eq_true rfl) (Nat.le_of_ble_eq_true rfl) (rm_c (by omega)) (rm_s (by omega)) rfl (Nat.le_of_ble_eq_true rfl) dL_law__2201 (q := 2204) rfl ?_
  rintro _ M2 ⟨b9, rfl, e0, hI⟩
  refine T.ic_eq (tgt := 2945) (q := 2207) dL_law__2204 (by decide) rfl (fun _ => ?_) (fun h8 => absurd e0 h8)
  exact TJ.wide (by omega) (by omega) (kk _ hI)
