/-! the law's cases 32 to 46 -/
theorem lwc_32 {G : sk_G} {b L : Nat} {ys : Nat → Int32} {M : sk_M} {i : Int32} {cells slots : Nat} (h : Inv M) (hv : lwv i L) (hc : cells + 8 ≤ 601024) (hs : slots + 48 ≤ 7293033) (kk : ∀ M0, Inv M0 → TJ G mL_law_ room_1 (lw_E G b L ys) (cells + 8) (slots + 48) 2945 [some (.ref b), some (.ref (G.2.2.1 120)), some (.ref (G.2.2.1 140)), some (.ref (G.2.2.1 158)), some (.int i), none, none] [] M0) : TJ G mL_law_ room_1 (lw_E G b L ys) cells slots 2209 [some (.ref b), some (.ref (G.2.2.1 120)), some (.ref (G.2.2.1 140)), some (.ref (G.2.2.1 158)), some (.int i), none, none] [] M := by
  obtain ⟨A1, hA1⟩ : ∃ z, z = ys (i + 1).toNatClampNeg := ⟨_, rfl⟩
  obtain ⟨A2, hA2⟩ : ∃ z, z = ys (i + 2).toNatClampNeg := ⟨_, rfl⟩
  obtain ⟨A3, hA3⟩ : ∃ z, z = ys (i + 3).toNatClampNeg := ⟨_, rfl⟩
  obtain ⟨A4, hA4⟩ : ∃ z, z = ys (i + 4).toNatClampNeg := ⟨_, rfl⟩
  obtain ⟨A5, hA5⟩ : ∃ z, z = ys (i + 5).toNatClampNeg := ⟨_, rfl⟩
  refine T.ald_1 (q := 2210) dL_law__2209 rfl ?_
  refine T.ald_0 (q := 2211) dL_law__2210 rfl ?_
  refine T.ild_4 (q := 2213) dL_law__2211 rfl ?_
  refine T.iconst (q := 2214) (1) dL_law__2213 rfl (by decide) ?_
  refine T.iadd (q := 2215) dL_law__2214 rfl ?_
  refine T.sld hv.2.1 hA1 dL_law__2215 (q := 2216) rfl ?_
  refine T.ald_0 (q := 2217) dL_law__2216 rfl ?_
  refine T.ild_4 (q := 2219) dL_law__2217 rfl ?_
  refine T.iconst (q := 2220) (2) dL_law__2219 rfl (by decide) ?_
  refine T.iadd (q := 2221) dL_law__2220 rfl ?_
  refine T.sld hv.2.2.1 hA2 dL_law__2221 (q := 2222) rfl ?_
  refine T.ald_3 (q := 2223) dL_law__2222 rfl ?_
  refine T.cSH (As := [.ref (G.2.2.1 120), .int A1, .int A2, .ref (G.2.2.1 158)]) (rest := []) (t_L_rota (Q0 := fun M1 => w_X8_rota A1 A2 M1 (fun b9 M2 => M2.1 140 0 = 0 ∧ M2.2 158 0 = b9.toInt64 ∧ Inv M2)) (QX := fun j M1 => w_X8_rota A1 A2 M1 (fun _ M2 => M2.1 140 0 = nI (j + 1) ∧ Inv M2)) (st_rota h A1 A2).go) w_L_250 cw_L_rota np_L_rota (Nat.le_of_ble_eq_true rfl) (Nat.le_of_ble_eq_true rfl) (rm_c (by omega)) (rm_s (by omega)) rfl (Nat.le_of_ble_eq_true rfl) dL_law__2223 (q := 2226) rfl ?_
  rintro _ M9 ⟨k, rfl, h9⟩
  rcases h9 with ⟨rfl, h9⟩ | ⟨j, rfl, hj, h9⟩
  · skip
    refine T.ist_5 (q := 2228) dL_law__2226 rfl (by decide) sk_ok_i ?_
    refine T.ald_2 (q := 2229) dL_law__2228 rfl ?_
    refine T.ald_0 (q := 2230) dL_law__2229 rfl ?_
    refine T.ild_4 (q := 2232) dL_law__2230 rfl ?_
    refine T.iconst (q := 2233) (1) dL_law__2232 rfl (by decide) ?_
    refine T.iadd (q := 2234) dL_law__2233 rfl ?_
    refine T.sld hv.2.1 hA1 dL_law__2234 (q := 2235) rfl ?_
    refine T.ald_0 (q := 2236) dL_law__2235 rfl ?_
    refine T.ild_4 (q := 2238) dL_law__2236 rfl ?_
    refine T.iconst (q := 2239) (2) dL_law__2238 rfl (by decide) ?_
    refine T.iadd (q := 2240) dL_law__2239 rfl ?_
    refine T.sld hv.2.2.1 hA2 dL_law__2240 (q := 2241) rfl ?_
    refine T.cV (As := [.int A1, .int A2]) (c := 140) (ci := 8) (C := RX8) (T := TX8) (N := 27) (t_X8_rota h9) w_L_252 cw_X8_rota np_X8_rota rfl (by decide) rfl (by decide) rfl (Nat.le_of_ble_eq_true rfl) (Nat.le_of_ble_eq_true rfl) (rm_c (by omega)) (rm_s (by omega)) rfl (Nat.le_of_ble_eq_true rfl) dL_law__2241 (q := 2244) rfl ?_
    rintro _ M2 ⟨b9, rfl, e0, e1, hI⟩
    refine T.ist_6 (q := 2246) dL_law__2244 rfl (by decide) sk_ok_i ?_
    refine T.ald_2 (q := 2247) dL_law__2246 rfl ?_
    refine T.cV (As := []) (c := 140) (ci := 8) (C := RX8) (T := TX8) (N := 27) (t_X8_thrown (P := fun r9 => r9 = M2.1 140 0) rfl) w_L_149 cw_X8_thrown np_X8_thrown rfl (by decide) rfl (by decide) rfl (Nat.le_of_ble_eq_true rfl) (Nat.le_of_ble_eq_true rfl) (rm_c (by omega)) (rm_s (by omega)) rfl (Nat.le_of_ble_eq_true rfl) dL_law__2247 (q := 2250) rfl ?_
    rintro _ M3 ⟨r3, rfl, rfl, e9⟩
    obtain rfl := e9.symm
    refine T.ild_5 (q := 2252) dL_law__2250 rfl ?_
    refine T.ic_eq (tgt := 2257) (q := 2255) dL_law__2252 (by decide) rfl (fun _ => ?_) (fun h8 => absurd e0 h8)
    refine T.ild_5 (q := 2259) dL_law__2257 rfl ?_
    refine T.if_ne (tgt := 2274) (q := 2262) dL_law__2259 (by decide) rfl (fun h8 => absurd rfl h8) (fun _ => ?_)
    refine T.ald_3 (q := 2263) dL_law__2262 rfl ?_
    refine T.iconst (q := 2264) (0) dL_law__2263 rfl (by decide) ?_
    refine T.laldk (n := 1) rfl rfl (by decide) dL_law__2264 (q := 2265) rfl (k9 := 0) (by decide) ?_
    refine T.ild_6 (q := 2267) dL_law__2265 rfl ?_
    refine T.i2l (q := 2268) dL_law__2267 rfl ?_
    refine T.lcmp (q := 2269) dL_law__2268 rfl ?_
    refine T.if_eq (tgt := 2274) (q := 2272) dL_law__2269 (by decide) rfl (fun _ => ?_) (fun h8 => absurd (lgc e1) h8)
    refine T.goto (tgt := 2945) dL_law__2274 (by decide) ?_
    exact T.drop_5 (T.drop_6 (TJ.wide (by omega) (by omega) (kk _ hI)))
  · skip
    refine T.ist_5 (q := 2228) dL_law__2226 rfl (by decide) sk_ok_i ?_
    refine T.ald_2 (q := 2229) dL_law__2228 rfl ?_
    refine T.ald_0 (q := 2230) dL_law__2229 rfl ?_
    refine T.ild_4 (q := 2232) dL_law__2230 rfl ?_
    refine T.iconst (q := 2233) (1) dL_law__2232 rfl (by decide) ?_
    refine T.iadd (q := 2234) dL_law__2233 rfl ?_
    refine T.sld hv.2.1 hA1 dL_law__2234 (q := 2235) rfl ?_
    refine T.ald_0 (q := 2236) dL_law__2235 rfl ?_
    refine T.ild_4 (q := 2238) dL_law__2236 rfl ?_
    refine T.iconst (q := 2239) (2) dL_law__2238 rfl (by decide) ?_
    refine T.iadd (q := 2240) dL_law__2239 rfl ?_
    refine T.sld hv.2.2.1 hA2 dL_law__2240 (q := 2241) rfl ?_
    refine T.cV (As := [.int A1, .int A2]) (c := 140) (ci := 8) (C := RX8) (T := TX8) (N := 27) (t_X8_rota h9) w_L_252 cw_X8_rota np_X8_rota rfl (by decide) rfl (by decide) rfl (Nat.le_of_ble_eq_true rfl) (Nat.le_of_ble_eq_true rfl) (rm_c (by omega)) (rm_s (by omega)) rfl (Nat.le_of_ble_eq_true rfl) dL_law__2241 (q := 2244) rfl ?_
    rintro _ M2 ⟨b9, rfl, e0, hI⟩
    refine T.ist_6 (q := 2246) dL_law__2244 rfl (by decide) sk_ok_i ?_
    refine T.ald_2 (q := 2247) dL_law__2246 rfl ?_
    refine T.cV (As := []) (c := 140) (ci := 8) (C := RX8) (T := TX8) (N := 27) (t_X8_thrown (P := fun r9 => r9 = M2.1 140 0) rfl) w_L_149 cw_X8_thrown np_X8_thrown rfl (by decide) rfl (by decide) rfl (Nat.le_of_ble_eq_true rfl) (Nat.le_of_ble_eq_true rfl) (rm_c (by omega)) (rm_s (by omega)) rfl (Nat.le_of_ble_eq_true rfl) dL_law__2247 (q := 2250) rfl ?_
    rintro _ M3 ⟨r3, rfl, rfl, e9⟩
    obtain rfl := e9.symm
    refine T.ild_5 (q := 2252) dL_law__2250 rfl ?_
    refine T.ic_eq (tgt := 2257) (q := 2255) dL_law__2252 (by decide) rfl (fun _ => ?_) (fun h8 => absurd e0 h8)
    refine T.ild_5 (q := 2259) dL_law__2257 rfl ?_
    refine T.if_ne (tgt := 2274) (q := 2262) dL_law__2259 (by decide) rfl (fun _ => ?_) (fun h8 => absurd h8 (lnz hj))
    refine T.goto (tgt := 2945) dL_law__2274 (by decide) ?_
    exact T.drop_5 (T.drop_6 (TJ.wide (by omega) (by omega) (kk _ hI)))
theorem lwc_33 {G : sk_G} {b L : Nat} {ys : Nat → Int32} {M : sk_M} {i : Int32} {cells slots : Nat} (h : Inv M) (hv : lwv i L) (hc : cells + 8 ≤ 601024) (hs : slots + 48 ≤ 7293033) (kk : ∀ M0, Inv M0 → TJ G mL_law_ room_1 (lw_E G b L ys) (cells + 8) (slots + 48) 2945 [some (.ref b), some (.ref (G.2.2.1 120)), some (.ref (G.2.2.1 140)), some (.ref (G.2.2.1 158)), some (.int i), none, none] [] M0) : TJ G mL_law_ room_1 (lw_E G b L ys) cells slots 2277 [some (.ref b), some (.ref (G.2.2.1 120)), some (.ref (G.2.2.1 140)), some (.ref (G.2.2.1 158)), some (.int i), none, none] [] M := by
  obtain ⟨A1, hA1⟩ : ∃ z, z = ys (i + 1).toNatClampNeg := ⟨_, rfl⟩
  obtain ⟨A2, hA2⟩ : ∃ z, z = ys (i + 2).toNatClampNeg := ⟨_, rfl⟩
  obtain ⟨A3, hA3⟩ : ∃ z, z = ys (i + 3).toNatClampNeg := ⟨_, rfl⟩
  obtain ⟨A4, hA4⟩ : ∃ z, z = ys (i + 4).toNatClampNeg := ⟨_, rfl⟩
  obtain ⟨A5, hA5⟩ : ∃ z, z = ys (i + 5).toNatClampNeg := ⟨_, rfl⟩
  refine T.ald_1 (q := 2278) dL_law__2277 rfl ?_
  refine T.ald_0 (q := 2279) dL_law__2278 rfl ?_
  refine T.ild_4 (q := 2281) dL_law__2279 rfl ?_
  refine T.iconst (q := 2282) (1) dL_law__2281 rfl (by decide) ?_
  refine T.iadd (q := 2283) dL_law__2282 rfl ?_
  refine T.sld hv.2.1 hA1 dL_law__2283 (q := 2284) rfl ?_
  refine T.ald_0 (q := 2285) dL_law__2284 rfl ?_
  refine T.ild_4 (q := 2287) dL_law__2285 rfl ?_
  refine T.iconst (q := 2288) (2) dL_law__2287 rfl (by decide) ?_
  refine T.iadd (q := 2289) dL_law__2288 rfl ?_
  refine T.sld hv.2.2.1 hA2 dL_law__2289 (q := 2290) rfl ?_
  refine T.if_eq (tgt := 2297) (q := 2293) dL_law__2290 (by decide) rfl (fun z2290 => ?_) (fun z2290 => ?_)
  · skip
    refine T.iconst (q := 2298) (0) dL_law__2297 rfl (by decide) ?_
    refine T.ald_3 (q := 2299) dL_law__2298 rfl ?_
    refine T.cSH (As := [.ref (G.2.2.1 120), .int A1, .int (0 : Int32), .ref (G.2.2.1 158)]) (rest := []) (t_L_richest (Q0 := fun M1 => w_X8_richest A1 (0 : Int32) M1 (fun b9 M2 => M2.1 140 0 = 0 ∧ M2.2 158 0 = b9.toInt64 ∧ Inv M2)) (QX := fun j M1 => w_X8_richest A1 (0 : Int32) M1 (fun _ M2 => M2.1 140 0 = nI (j + 1) ∧ Inv M2)) (st_richest h A1 (0 : Int32)).go) w_L_253 cw_L_richest np_L_richest (Nat.le_of_ble_eq_true rfl) (Nat.le_of_ble_eq_true rfl) (rm_c (by omega)) (rm_s (by omega)) rfl (Nat.le_of_ble_eq_true rfl) dL_law__2299 (q := 2302) rfl ?_
    rintro _ M9 ⟨k, rfl, h9⟩
    rcases h9 with ⟨rfl, h9⟩ | ⟨j, rfl, hj, h9⟩
    · skip
      refine T.ist_5 (q := 2304) dL_law__2302 rfl (by decide) sk_ok_i ?_
      refine T.ald_2 (q := 2305) dL_law__2304 rfl ?_
      refine T.ald_0 (q := 2306) dL_law__2305 rfl ?_
      refine T.ild_4 (q := 2308) dL_law__2306 rfl ?_
      refine T.iconst (q := 2309) (1) dL_law__2308 rfl (by decide) ?_
      refine T.iadd (q := 2310) dL_law__2309 rfl ?_
      refine T.sld hv.2.1 hA1 dL_law__2310 (q := 2311) rfl ?_
      refine T.ald_0 (q := 2312) dL_law__2311 rfl ?_
      refine T.ild_4 (q := 2314) dL_law__2312 rfl ?_
      refine T.iconst (q := 2315) (2) dL_law__2314 rfl (by decide) ?_
      refine T.iadd (q := 2316) dL_law__2315 rfl ?_
      refine T.sld hv.2.2.1 hA2 dL_law__2316 (q := 2317) rfl ?_
      refine T.if_eq (tgt := 2324) (q := 2320) dL_law__2317 (by decide) rfl (fun _ => ?_) (fun h8 => absurd z2290 h8)
      refine T.iconst (q := 2325) (0) dL_law__2324 rfl (by decide) ?_
      refine T.cV (As := [.int A1, .int (0 : Int32)]) (c := 140) (ci := 8) (C := RX8) (T := TX8) (N := 27) (t_X8_richest h9) w_L_255 cw_X8_richest np_X8_richest rfl (by decide) rfl (by decide) rfl (Nat.le_of_ble_eq_true rfl) (Nat.le_of_ble_eq_true rfl) (rm_c (by omega)) (rm_s (by omega)) rfl (Nat.le_of_ble_eq_true rfl) dL_law__2325 (q := 2328) rfl ?_
      rintro _ M2 ⟨b9, rfl, e0, e1, hI⟩
      refine T.ist_6 (q := 2330) dL_law__2328 rfl (by decide) sk_ok_i ?_
      refine T.ald_2 (q := 2331) dL_law__2330 rfl ?_
      refine T.cV (As := []) (c := 140) (ci := 8) (C := RX8) (T := TX8) (N := 27) (t_X8_thrown (P := fun r9 => r9 = M2.1 140 0) rfl) w_L_149 cw_X8_thrown np_X8_thrown rfl (by decide) rfl (by decide) rfl (Nat.le_of_ble_eq_true rfl) (Nat.le_of_ble_eq_true rfl) (rm_c (by omega)) (rm_s (by omega)) rfl (Nat.le_of_ble_eq_true rfl) dL_law__2331 (q := 2334) rfl ?_
      rintro _ M3 ⟨r3, rfl, rfl, e9⟩
      obtain rfl := e9.symm
      refine T.ild_5 (q := 2336) dL_law__2334 rfl ?_
      refine T.ic_eq (tgt := 2341) (q := 2339) dL_law__2336 (by decide) rfl (fun _ => ?_) (fun h8 => absurd e0 h8)
      refine T.ild_5 (q := 2343) dL_law__2341 rfl ?_
      refine T.if_ne (tgt := 2358) (q := 2346) dL_law__2343 (by decide) rfl (fun h8 => absurd rfl h8) (fun _ => ?_)
      refine T.ald_3 (q := 2347) dL_law__2346 rfl ?_
      refine T.iconst (q := 2348) (0) dL_law__2347 rfl (by decide) ?_
      refine T.laldk (n := 1) rfl rfl (by decide) dL_law__2348 (q := 2349) rfl (k9 := 0) (by decide) ?_
      refine T.ild_6 (q := 2351) dL_law__2349 rfl ?_
      refine T.i2l (q := 2352) dL_law__2351 rfl ?_
      refine T.lcmp (q := 2353) dL_law__2352 rfl ?_
      refine T.if_eq (tgt := 2358) (q := 2356) dL_law__2353 (by decide) rfl (fun _ => ?_) (fun h8 => absurd (lgc e1) h8)
      refine T.goto (tgt := 2945) dL_law__2358 (by decide) ?_
      exact T.drop_5 (T.drop_6 (TJ.wide (by omega) (by omega) (kk _ hI)))
    · skip
      refine T.ist_5 (q := 2304) dL_law__2302 rfl (by decide) sk_ok_i ?_
      refine T.ald_2 (q := 2305) dL_law__2304 rfl ?_
      refine T.ald_0 (q := 2306) dL_law__2305 rfl ?_
      refine T.ild_4 (q := 2308) dL_law__2306 rfl ?_
      refine T.iconst (q := 2309) (1) dL_law__2308 rfl (by decide) ?_
      refine T.iadd (q := 2310) dL_law__2309 rfl ?_
      refine T.sld hv.2.1 hA1 dL_law__2310 (q := 2311) rfl ?_
      refine T.ald_0 (q := 2312) dL_law__2311 rfl ?_
      refine T.ild_4 (q := 2314) dL_law__2312 rfl ?_
      refine T.iconst (q := 2315) (2) dL_law__2314 rfl (by decide) ?_
      refine T.iadd (q := 2316) dL_law__2315 rfl ?_
      refine T.sld hv.2.2.1 hA2 dL_law__2316 (q := 2317) rfl ?_
      refine T.if_eq (tgt := 2324) (q := 2320) dL_law__2317 (by decide) rfl (fun _ => ?_) (fun h8 => absurd z2290 h8)
      refine T.iconst (q := 2325) (0) dL_law__2324 rfl (by decide) ?_
      refine T.cV (As := [.int A1, .int (0 : Int32)]) (c := 140) (ci := 8) (C := RX8) (T := TX8) (N := 27) (t_X8_richest h9) w_L_255 cw_X8_richest np_X8_richest rfl (by decide) rfl (by decide) rfl (Nat.le_of_ble_eq_true rfl) (Nat.le_of_ble_eq_true rfl) (rm_c (by omega)) (rm_s (by omega)) rfl (Nat.le_of_ble_eq_true rfl) dL_law__2325 (q := 2328) rfl ?_
      rintro _ M2 ⟨b9, rfl, e0, hI⟩
      refine T.ist_6 (q := 2330) dL_law__2328 rfl (by decide) sk_ok_i ?_
      refine T.ald_2 (q := 2331) dL_law__2330 rfl ?_
      refine T.cV (As := []) (c := 140) (ci := 8) (C := RX8) (T := TX8) (N := 27) (t_X8_thrown (P := fun r9 => r9 = M2.1 140 0) rfl) w_L_149 cw_X8_thrown np_X8_thrown rfl (by decide) rfl (by decide) rfl (Nat.le_of_ble_eq_true rfl) (Nat.le_of_ble_eq_true rfl) (rm_c (by omega)) (rm_s (by omega)) rfl (Nat.le_of_ble_eq_true rfl) dL_law__2331 (q := 2334) rfl ?_
      rintro _ M3 ⟨r3, rfl, rfl, e9⟩
      obtain rfl := e9.symm
      refine T.ild_5 (q := 2336) dL_law__2334 rfl ?_
      refine T.ic_eq (tgt := 2341) (q := 2339) dL_law__2336 (by decide) rfl (fun _ => ?_) (fun h8 => absurd e0 h8)
      refine T.ild_5 (q := 2343) dL_law__2341 rfl ?_
      refine T.if_ne (tgt := 2358) (q := 2346) dL_law__2343 (by decide) rfl (fun _ => ?_) (fun h8 => absurd h8 (lnz hj))
      refine T.goto (tgt := 2945) dL_law__2358 (by decide) ?_
      exact T.drop_5 (T.drop_6 (TJ.wide (by omega) (by omega) (kk _ hI)))
  · skip
    refine T.iconst (q := 2294) (1) dL_law__2293 rfl (by decide) ?_
    refine T.goto (tgt := 2298) dL_law__2294 (by decide) ?_
    refine T.ald_3 (q := 2299) dL_law__2298 rfl ?_
    refine T.cSH (As := [.ref (G.2.2.1 120), .int A1, .int (1 : Int32), .ref (G.2.2.1 158)]) (rest := []) (t_L_richest (Q0 := fun M1 => w_X8_richest A1 (1 : Int32) M1 (fun b9 M2 => M2.1 140 0 = 0 ∧ M2.2 158 0 = b9.toInt64 ∧ Inv M2)) (QX := fun j M1 => w_X8_richest A1 (1 : Int32) M1 (fun _ M2 => M2.1 140 0 = nI (j + 1) ∧ Inv M2)) (st_richest h A1 (1 : Int32)).go) w_L_253 cw_L_richest np_L_richest (Nat.le_of_ble_eq_true rfl) (Nat.le_of_ble_eq_true rfl) (rm_c (by omega)) (rm_s (by omega)) rfl (Nat.le_of_ble_eq_true rfl) dL_law__2299 (q := 2302) rfl ?_
    rintro _ M9 ⟨k, rfl, h9⟩
    rcases h9 with ⟨rfl, h9⟩ | ⟨j, rfl, hj, h9⟩
    · skip
      refine T.ist_5 (q := 2304) dL_law__2302 rfl (by decide) sk_ok_i ?_
      refine T.ald_2 (q := 2305) dL_law__2304 rfl ?_
      refine T.ald_0 (q := 2306) dL_law__2305 rfl ?_
      refine T.ild_4 (q := 2308) dL_law__2306 rfl ?_
      refine T.iconst (q := 2309) (1) dL_law__2308 rfl (by decide) ?_
      refine T.iadd (q := 2310) dL_law__2309 rfl ?_
      refine T.sld hv.2.1 hA1 dL_law__2310 (q := 2311) rfl ?_
      refine T.ald_0 (q := 2312) dL_law__2311 rfl ?_
      refine T.ild_4 (q := 2314) dL_law__2312 rfl ?_
      refine T.iconst (q := 2315) (2) dL_law__2314 rfl (by decide) ?_
      refine T.iadd (q := 2316) dL_law__2315 rfl ?_
      refine T.sld hv.2.2.1 hA2 dL_law__2316 (q := 2317) rfl ?_
      refine T.if_eq (tgt := 2324) (q := 2320) dL_law__2317 (by decide) rfl (fun h8 => absurd h8 z2290) (fun _ => ?_)
      refine T.iconst (q := 2321) (1) dL_law__2320 rfl (by decide) ?_
      refine T.goto (tgt := 2325) dL_law__2321 (by decide) ?_
      refine T.cV (As := [.int A1, .int (1 : Int32)]) (c := 140) (ci := 8) (C := RX8) (T := TX8) (N := 27) (t_X8_richest h9) w_L_255 cw_X8_richest np_X8_richest rfl (by decide) rfl (by decide) rfl (Nat.le_of_ble_eq_true rfl) (Nat.le_of_ble_eq_true rfl) (rm_c (by omega)) (rm_s (by omega)) rfl (Nat.le_of_ble_eq_true rfl) dL_law__2325 (q := 2328) rfl ?_
      rintro _ M2 ⟨b9, rfl, e0, e1, hI⟩
      refine T.ist_6 (q := 2330) dL_law__2328 rfl (by decide) sk_ok_i ?_
      refine T.ald_2 (q := 2331) dL_law__2330 rfl ?_
      refine T.cV (As := []) (c := 140) (ci := 8) (C := RX8) (T := TX8) (N := 27) (t_X8_thrown (P := fun r9 => r9 = M2.1 140 0) rfl) w_L_149 cw_X8_thrown np_X8_thrown rfl (by decide) rfl (by decide) rfl (Nat.le_of_ble_eq_true rfl) (Nat.le_of_ble_eq_true rfl) (rm_c (by omega)) (rm_s (by omega)) rfl (Nat.le_of_ble_eq_true rfl) dL_law__2331 (q := 2334) rfl ?_
      rintro _ M3 ⟨r3, rfl, rfl, e9⟩
      obtain rfl := e9.symm
      refine T.ild_5 (q := 2336) dL_law__2334 rfl ?_
      refine T.ic_eq (tgt := 2341) (q := 2339) dL_law__2336 (by decide) rfl (fun _ => ?_) (fun h8 => absurd e0 h8)
      refine T.ild_5 (q := 2343) dL_law__2341 rfl ?_
      refine T.if_ne (tgt := 2358) (q := 2346) dL_law__2343 (by decide) rfl (fun h8 => absurd rfl h8) (fun _ => ?_)
      refine T.ald_3 (q := 2347) dL_law__2346 rfl ?_
      refine T.iconst (q := 2348) (0) dL_law__2347 rfl (by decide) ?_
      refine T.laldk (n := 1) rfl rfl (by decide) dL_law__2348 (q := 2349) rfl (k9 := 0) (by decide) ?_
      refine T.ild_6 (q := 2351) dL_law__2349 rfl ?_
      refine T.i2l (q := 2352) dL_law__2351 rfl ?_
      refine T.lcmp (q := 2353) dL_law__2352 rfl ?_
      refine T.if_eq (tgt := 2358) (q := 2356) dL_law__2353 (by decide) rfl (fun _ => ?_) (fun h8 => absurd (lgc e1) h8)
      refine T.goto (tgt := 2945) dL_law__2358 (by decide) ?_
      exact T.drop_5 (T.drop_6 (TJ.wide (by omega) (by omega) (kk _ hI)))
    · skip
      refine T.ist_5 (q := 2304) dL_law__2302 rfl (by decide) sk_ok_i ?_
      refine T.ald_2 (q := 2305) dL_law__2304 rfl ?_
      refine T.ald_0 (q := 2306) dL_law__2305 rfl ?_
      refine T.ild_4 (q := 2308) dL_law__2306 rfl ?_
      refine T.iconst (q := 2309) (1) dL_law__2308 rfl (by decide) ?_
      refine T.iadd (q := 2310) dL_law__2309 rfl ?_
      refine T.sld hv.2.1 hA1 dL_law__2310 (q := 2311) rfl ?_
      refine T.ald_0 (q := 2312) dL_law__2311 rfl ?_
      refine T.ild_4 (q := 2314) dL_law__2312 rfl ?_
      refine T.iconst (q := 2315) (2) dL_law__2314 rfl (by decide) ?_
      refine T.iadd (q := 2316) dL_law__2315 rfl ?_
      refine T.sld hv.2.2.1 hA2 dL_law__2316 (q := 2317) rfl ?_
      refine T.if_eq (tgt := 2324) (q := 2320) dL_law__2317 (by decide) rfl (fun h8 => absurd h8 z2290) (fun _ => ?_)
      refine T.iconst (q := 2321) (1) dL_law__2320 rfl (by decide) ?_
      refine T.goto (tgt := 2325) dL_law__2321 (by decide) ?_
      refine T.cV (As := [.int A1, .int (1 : Int32)]) (c := 140) (ci := 8) (C := RX8) (T := TX8) (N := 27) (t_X8_richest h9) w_L_255 cw_X8_richest np_X8_richest rfl (by decide) rfl (by decide) rfl (Nat.le_of_ble_eq_true rfl) (Nat.le_of_ble_eq_true rfl) (rm_c (by omega)) (rm_s (by omega)) rfl (Nat.le_of_ble_eq_true rfl) dL_law__2325 (q := 2328) rfl ?_
      rintro _ M2 ⟨b9, rfl, e0, hI⟩
      refine T.ist_6 (q := 2330) dL_law__2328 rfl (by decide) sk_ok_i ?_
      refine T.ald_2 (q := 2331) dL_law__2330 rfl ?_
      refine T.cV (As := []) (c := 140) (ci := 8) (C := RX8) (T := TX8) (N := 27) (t_X8_thrown (P := fun r9 => r9 = M2.1 140 0) rfl) w_L_149 cw_X8_thrown np_X8_thrown rfl (by decide) rfl (by decide) rfl (Nat.le_of_ble_eq_true rfl) (Nat.le_of_ble_eq_true rfl) (rm_c (by omega)) (rm_s (by omega)) rfl (Nat.le_of_ble_eq_true rfl) dL_law__2331 (q := 2334) rfl ?_
      rintro _ M3 ⟨r3, rfl, rfl, e9⟩
      obtain rfl := e9.symm
      refine T.ild_5 (q := 2336) dL_law__2334 rfl ?_
      refine T.ic_eq (tgt := 2341) (q := 2339) dL_law__2336 (by decide) rfl (fun _ => ?_) (fun h8 => absurd e0 h8)
      refine T.ild_5 (q := 2343) dL_law__2341 rfl ?_
      refine T.if_ne (tgt := 2358) (q := 2346) dL_law__2343 (by decide) rfl (fun _ => ?_) (fun h8 => absurd h8 (lnz hj))
      refine T.goto (tgt := 2945) dL_law__2358 (by decide) ?_
      exact T.drop_5 (T.drop_6 (TJ.wide (by omega) (by omega) (kk _ hI)))
theorem lwc_34 {G : sk_G} {b L : Nat} {ys : Nat → Int32} {M : sk_M} {i : Int32} {cells slots : Nat} (h : Inv M) (hv : lwv i L) (hc : cells + 8 ≤ 601024) (hs : slots + 48 ≤ 7293033) (kk : ∀ M0, Inv M0 → TJ G mL_law_ room_1 (lw_E G b L ys) (cells + 8) (slots + 48) 2945 [some (.ref b), some (.ref (G.2.2.1 120)), some (.ref (G.2.2.1 140)), some (.ref (G.2.2.1 158)), some (.int i), none, none] [] M0) : TJ G mL_law_ room_1 (lw_E G b L ys) cells slots 2361 [some (.ref b), some (.ref (G.2.2.1 120)), some (.ref (G.2.2.1 140)), some (.ref (G.2.2.1 158)), some (.int i), none, none] [] M := by
  obtain ⟨A1, hA1⟩ : ∃ z, z = ys (i + 1).toNatClampNeg := ⟨_, rfl⟩
  obtain ⟨A2, hA2⟩ : ∃ z, z = ys (i + 2).toNatClampNeg := ⟨_, rfl⟩
  obtain ⟨A3, hA3⟩ : ∃ z, z = ys (i + 3).toNatClampNeg := ⟨_, rfl⟩
  obtain ⟨A4, hA4⟩ : ∃ z, z = ys (i + 4).toNatClampNeg := ⟨_, rfl⟩
  obtain ⟨A5, hA5⟩ : ∃ z, z = ys (i + 5).toNatClampNeg := ⟨_, rfl⟩
  refine T.ald_1 (q := 2362) dL_law__2361 rfl ?_
  refine T.ald_0 (q := 2363) dL_law__2362 rfl ?_
  refine T.ild_4 (q := 2365) dL_law__2363 rfl ?_
  refine T.iconst (q := 2366) (1) dL_law__2365 rfl (by decide) ?_
  refine T.iadd (q := 2367) dL_law__2366 rfl ?_
  refine T.sld hv.2.1 hA1 dL_law__2367 (q := 2368) rfl ?_
  refine T.ald_3 (q := 2369) dL_law__2368 rfl ?_
  refine T.cSH (As := [.ref (G.2.2.1 120), .int A1, .ref (G.2.2.1 158)]) (rest := []) (t_L_first (Q0 := fun M1 => w_X8_first A1 M1 (fun b9 M2 => M2.1 140 0 = 0 ∧ M2.2 158 0 = b9.toInt64 ∧ Inv M2)) (QX := fun j M1 => w_X8_first A1 M1 (fun _ M2 => M2.1 140 0 = nI (j + 1) ∧ Inv M2)) (st_first h A1).go) w_L_256 cw_L_first np_L_first (Nat.le_of_ble_eq_true rfl) (Nat.le_of_ble_eq_true rfl) (rm_c (by omega)) (rm_s (by omega)) rfl (Nat.le_of_ble_eq_true rfl) dL_law__2369 (q := 2372) rfl ?_
  rintro _ M9 ⟨k, rfl, h9⟩
  rcases h9 with ⟨rfl, h9⟩ | ⟨j, rfl, hj, h9⟩
  · skip
    refine T.ist_5 (q := 2374) dL_law__2372 rfl (by decide) sk_ok_i ?_
    refine T.ald_2 (q := 2375) dL_law__2374 rfl ?_
    refine T.ald_0 (q := 2376) dL_law__2375 rfl ?_
    refine T.ild_4 (q := 2378) dL_law__2376 rfl ?_
    refine T.iconst (q := 2379) (1) dL_law__2378 rfl (by decide) ?_
    refine T.iadd (q := 2380) dL_law__2379 rfl ?_
    refine T.sld hv.2.1 hA1 dL_law__2380 (q := 2381) rfl ?_
    refine T.cV (As := [.int A1]) (c := 140) (ci := 8) (C := RX8) (T := TX8) (N := 27) (t_X8_first h9) w_L_258 cw_X8_first np_X8_first rfl (by decide) rfl (by decide) rfl (Nat.le_of_ble_eq_true rfl) (Nat.le_of_ble_eq_true rfl) (rm_c (by omega)) (rm_s (by omega)) rfl (Nat.le_of_ble_eq_true rfl) dL_law__2381 (q := 2384) rfl ?_
    rintro _ M2 ⟨b9, rfl, e0, e1, hI⟩
    refine T.ist_6 (q := 2386) dL_law__2384 rfl (by decide) sk_ok_i ?_
    refine T.ald_2 (q := 2387) dL_law__2386 rfl ?_
    refine T.cV (As := []) (c := 140) (ci := 8) (C := RX8) (T := TX8) (N := 27) (t_X8_thrown (P := fun r9 => r9 = M2.1 140 0) rfl) w_L_149 cw_X8_thrown np_X8_thrown rfl (by decide) rfl (by decide) rfl (Nat.le_of_ble_eq_true rfl) (Nat.le_of_ble_eq_true rfl) (rm_c (by omega)) (rm_s (by omega)) rfl (Nat.le_of_ble_eq_true rfl) dL_law__2387 (q := 2390) rfl ?_
    rintro _ M3 ⟨r3, rfl, rfl, e9⟩
    obtain rfl := e9.symm
    refine T.ild_5 (q := 2392) dL_law__2390 rfl ?_
    refine T.ic_eq (tgt := 2397) (q := 2395) dL_law__2392 (by decide) rfl (fun _ => ?_) (fun h8 => absurd e0 h8)
    refine T.ild_5 (q := 2399) dL_law__2397 rfl ?_
    refine T.if_ne (tgt := 2414) (q := 2402) dL_law__2399 (by decide) rfl (fun h8 => absurd rfl h8) (fun _ => ?_)
    refine T.ald_3 (q := 2403) dL_law__2402 rfl ?_
    refine T.iconst (q := 2404) (0) dL_law__2403 rfl (by decide) ?_
    refine T.laldk (n := 1) rfl rfl (by decide) dL_law__2404 (q := 2405) rfl (k9 := 0) (by decide) ?_
    refine T.ild_6 (q := 2407) dL_law__2405 rfl ?_
    refine T.i2l (q := 2408) dL_law__2407 rfl ?_
    refine T.lcmp (q := 2409) dL_law__2408 rfl ?_
    refine T.if_eq (tgt := 2414) (q := 2412) dL_law__2409 (by decide) rfl (fun _ => ?_) (fun h8 => absurd (lgc e1) h8)
    refine T.goto (tgt := 2945) dL_law__2414 (by decide) ?_
    exact T.drop_5 (T.drop_6 (TJ.wide (by omega) (by omega) (kk _ hI)))
  · skip
    refine T.ist_5 (q := 2374) dL_law__2372 rfl (by decide) sk_ok_i ?_
    refine T.ald_2 (q := 2375) dL_law__2374 rfl ?_
    refine T.ald_0 (q := 2376) dL_law__2375 rfl ?_
    refine T.ild_4 (q := 2378) dL_law__2376 rfl ?_
    refine T.iconst (q := 2379) (1) dL_law__2378 rfl (by decide) ?_
    refine T.iadd (q := 2380) dL_law__2379 rfl ?_
    refine T.sld hv.2.1 hA1 dL_law__2380 (q := 2381) rfl ?_
    refine T.cV (As := [.int A1]) (c := 140) (ci := 8) (C := RX8) (T := TX8) (N := 27) (t_X8_first h9) w_L_258 cw_X8_first np_X8_first rfl (by decide) rfl (by decide) rfl (Nat.le_of_ble_eq_true rfl) (Nat.le_of_ble_eq_true rfl) (rm_c (by omega)) (rm_s (by omega)) rfl (Nat.le_of_ble_eq_true rfl) dL_law__2381 (q := 2384) rfl ?_
    rintro _ M2 ⟨b9, rfl, e0, hI⟩
    refine T.ist_6 (q := 2386) dL_law__2384 rfl (by decide) sk_ok_i ?_
    refine T.ald_2 (q := 2387) dL_law__2386 rfl ?_
    refine T.cV (As := []) (c := 140) (ci := 8) (C := RX8) (T := TX8) (N := 27) (t_X8_thrown (P := fun r9 => r9 = M2.1 140 0) rfl) w_L_149 cw_X8_thrown np_X8_thrown rfl (by decide) rfl (by decide) rfl (Nat.le_of_ble_eq_true rfl) (Nat.le_of_ble_eq_true rfl) (rm_c (by omega)) (rm_s (by omega)) rfl (Nat.le_of_ble_eq_true rfl) dL_law__2387 (q := 2390) rfl ?_
    rintro _ M3 ⟨r3, rfl, rfl, e9⟩
    obtain rfl := e9.symm
    refine T.ild_5 (q := 2392) dL_law__2390 rfl ?_
    refine T.ic_eq (tgt := 2397) (q := 2395) dL_law__2392 (by decide) rfl (fun _ => ?_) (fun h8 => absurd e0 h8)
    refine T.ild_5 (q := 2399) dL_law__2397 rfl ?_
    refine T.if_ne (tgt := 2414) (q := 2402) dL_law__2399 (by decide) rfl (fun _ => ?_) (fun h8 => absurd h8 (lnz hj))
    refine T.goto (tgt := 2945) dL_law__2414 (by decide) ?_
    exact T.drop_5 (T.drop_6 (TJ.wide (by omega) (by omega) (kk _ hI)))
theorem lwc_35 {G : sk_G} {b L : Nat} {ys : Nat → Int32} {M : sk_M} {i : Int32} {cells slots : Nat} (h : Inv M) (hv : lwv i L) (hc : cells + 8 ≤ 601024) (hs : slots + 48 ≤ 7293033) (kk : ∀ M0, Inv M0 → TJ G mL_law_ room_1 (lw_E G b L ys) (cells + 8) (slots + 48) 2945 [some (.ref b), some (.ref (G.2.2.1 120)), some (.ref (G.2.2.1 140)), some (.ref (G.2.2.1 158)), some (.int i), none, none] [] M0) : TJ G mL_law_ room_1 (lw_E G b L ys) cells slots 2417 [some (.ref b), some (.ref (G.2.2.1 120)), some (.ref (G.2.2.1 140)), some (.ref (G.2.2.1 158)), some (.int i), none, none] [] M := by
  obtain ⟨A1, hA1⟩ : ∃ z, z = ys (i + 1).toNatClampNeg := ⟨_, rfl⟩
  obtain ⟨A2, hA2⟩ : ∃ z, z = ys (i + 2).toNatClampNeg := ⟨_, rfl⟩
  obtain ⟨A3, hA3⟩ : ∃ z, z = ys (i + 3).toNatClampNeg := ⟨_, rfl⟩
  obtain ⟨A4, hA4⟩ : ∃ z, z = ys (i + 4).toNatClampNeg := ⟨_, rfl⟩
  obtain ⟨A5, hA5⟩ : ∃ z, z = ys (i + 5).toNatClampNeg := ⟨_, rfl⟩
  refine T.ald_1 (q := 2418) dL_law__2417 rfl ?_
  refine T.ald_0 (q := 2419) dL_law__2418 rfl ?_
  refine T.ild_4 (q := 2421) dL_law__2419 rfl ?_
  refine T.iconst (q := 2422) (1) dL_law__2421 rfl (by decide) ?_
  refine T.iadd (q := 2423) dL_law__2422 rfl ?_
  refine T.sld hv.2.1 hA1 dL_law__2423 (q := 2424) rfl ?_
  refine T.ald_0 (q := 2425) dL_law__2424 rfl ?_
  refine T.ild_4 (q := 2427) dL_law__2425 rfl ?_
  refine T.iconst (q := 2428) (2) dL_law__2427 rfl (by decide) ?_
  refine T.iadd (q := 2429) dL_law__2428 rfl ?_
  refine T.sld hv.2.2.1 hA2 dL_law__2429 (q := 2430) rfl ?_
  refine T.ald_3 (q := 2431) dL_law__2430 rfl ?_
  refine T.cSH (As := [.ref (G.2.2.1 120), .int A1, .int A2, .ref (G.2.2.1 158)]) (rest := []) (t_L_turned (Q0 := fun M1 => w_X8_turned A1 A2 M1 (fun b9 M2 => M2.1 140 0 = 0 ∧ M2.2 158 0 = b9.toInt64 ∧ Inv M2)) (QX := fun j M1 => w_X8_turned A1 A2 M1 (fun _ M2 => M2.1 140 0 = nI (j + 1) ∧ Inv M2)) (st_turned h A1 A2).go) w_L_259 cw_L_turned np_L_turned (Nat.le_of_ble_eq_true rfl) (Nat.le_of_ble_eq_true rfl) (rm_c (by omega)) (rm_s (by omega)) rfl (Nat.le_of_ble_eq_true rfl) dL_law__2431 (q := 2434) rfl ?_
  rintro _ M9 ⟨k, rfl, h9⟩
  rcases h9 with ⟨rfl, h9⟩ | ⟨j, rfl, hj, h9⟩
  · skip
    refine T.ist_5 (q := 2436) dL_law__2434 rfl (by decide) sk_ok_i ?_
    refine T.ald_2 (q := 2437) dL_law__2436 rfl ?_
    refine T.ald_0 (q := 2438) dL_law__2437 rfl ?_
    refine T.ild_4 (q := 2440) dL_law__2438 rfl ?_
    refine T.iconst (q := 2441) (1) dL_law__2440 rfl (by decide) ?_
    refine T.iadd (q := 2442) dL_law__2441 rfl ?_
    refine T.sld hv.2.1 hA1 dL_law__2442 (q := 2443) rfl ?_
    refine T.ald_0 (q := 2444) dL_law__2443 rfl ?_
    refine T.ild_4 (q := 2446) dL_law__2444 rfl ?_
    refine T.iconst (q := 2447) (2) dL_law__2446 rfl (by decide) ?_
    refine T.iadd (q := 2448) dL_law__2447 rfl ?_
    refine T.sld hv.2.2.1 hA2 dL_law__2448 (q := 2449) rfl ?_
    refine T.cV (As := [.int A1, .int A2]) (c := 140) (ci := 8) (C := RX8) (T := TX8) (N := 27) (t_X8_turned h9) w_L_261 cw_X8_turned np_X8_turned rfl (by decide) rfl (by decide) rfl (Nat.le_of_ble_eq_true rfl) (Nat.le_of_ble_eq_true rfl) (rm_c (by omega)) (rm_s (by omega)) rfl (Nat.le_of_ble_eq_true rfl) dL_law__2449 (q := 2452) rfl ?_
    rintro _ M2 ⟨b9, rfl, e0, e1, hI⟩
    refine T.ist_6 (q := 2454) dL_law__2452 rfl (by decide) sk_ok_i ?_
    refine T.ald_2 (q := 2455) dL_law__2454 rfl ?_
    refine T.cV (As := []) (c := 140) (ci := 8) (C := RX8) (T := TX8) (N := 27) (t_X8_thrown (P := fun r9 => r9 = M2.1 140 0) rfl) w_L_149 cw_X8_thrown np_X8_thrown rfl (by decide) rfl (by decide) rfl (Nat.le_of_ble_eq_true rfl) (Nat.le_of_ble_eq_true rfl) (rm_c (by omega)) (rm_s (by omega)) rfl (Nat.le_of_ble_eq_true rfl) dL_law__2455 (q := 2458) rfl ?_
    rintro _ M3 ⟨r3, rfl, rfl, e9⟩
    obtain rfl := e9.symm
    refine T.ild_5 (q := 2460) dL_law__2458 rfl ?_
    refine T.ic_eq (tgt := 2465) (q := 2463) dL_law__2460 (by decide) rfl (fun _ => ?_) (fun h8 => absurd e0 h8)
    refine T.ild_5 (q := 2467) dL_law__2465 rfl ?_
    refine T.if_ne (tgt := 2482) (q := 2470) dL_law__2467 (by decide) rfl (fun h8 => absurd rfl h8) (fun _ => ?_)
    refine T.ald_3 (q := 2471) dL_law__2470 rfl ?_
    refine T.iconst (q := 2472) (0) dL_law__2471 rfl (by decide) ?_
    refine T.laldk (n := 1) rfl rfl (by decide) dL_law__2472 (q := 2473) rfl (k9 := 0) (by decide) ?_
    refine T.ild_6 (q := 2475) dL_law__2473 rfl ?_
    refine T.i2l (q := 2476) dL_law__2475 rfl ?_
    refine T.lcmp (q := 2477) dL_law__2476 rfl ?_
    refine T.if_eq (tgt := 2482) (q := 2480) dL_law__2477 (by decide) rfl (fun _ => ?_) (fun h8 => absurd (lgc e1) h8)
    refine T.goto (tgt := 2945) dL_law__2482 (by decide) ?_
    exact T.drop_5 (T.drop_6 (TJ.wide (by omega) (by omega) (kk _ hI)))
  · skip
    refine T.ist_5 (q := 2436) dL_law__2434 rfl (by decide) sk_ok_i ?_
    refine T.ald_2 (q := 2437) dL_law__2436 rfl ?_
    refine T.ald_0 (q := 2438) dL_law__2437 rfl ?_
    refine T.ild_4 (q := 2440) dL_law__2438 rfl ?_
    refine T.iconst (q := 2441) (1) dL_law__2440 rfl (by decide) ?_
    refine T.iadd (q := 2442) dL_law__2441 rfl ?_
    refine T.sld hv.2.1 hA1 dL_law__2442 (q := 2443) rfl ?_
    refine T.ald_0 (q := 2444) dL_law__2443 rfl ?_
    refine T.ild_4 (q := 2446) dL_law__2444 rfl ?_
    refine T.iconst (q := 2447) (2) dL_law__2446 rfl (by decide) ?_
    refine T.iadd (q := 2448) dL_law__2447 rfl ?_
    refine T.sld hv.2.2.1 hA2 dL_law__2448 (q := 2449) rfl ?_
    refine T.cV (As := [.int A1, .int A2]) (c := 140) (ci := 8) (C := RX8) (T := TX8) (N := 27) (t_X8_turned h9) w_L_261 cw_X8_turned np_X8_turned rfl (by decide) rfl (by decide) rfl (Nat.le_of_ble_eq_true rfl) (Nat.le_of_ble_eq_true rfl) (rm_c (by omega)) (rm_s (by omega)) rfl (Nat.le_of_ble_eq_true rfl) dL_law__2449 (q := 2452) rfl ?_
    rintro _ M2 ⟨b9, rfl, e0, hI⟩
    refine T.ist_6 (q := 2454) dL_law__2452 rfl (by decide) sk_ok_i ?_
    refine T.ald_2 (q := 2455) dL_law__2454 rfl ?_
    refine T.cV (As := []) (c := 140) (ci := 8) (C := RX8) (T := TX8) (N := 27) (t_X8_thrown (P := fun r9 => r9 = M2.1 140 0) rfl) w_L_149 cw_X8_thrown np_X8_thrown rfl (by decide) rfl (by decide) rfl (Nat.le_of_ble_eq_true rfl) (Nat.le_of_ble_eq_true rfl) (rm_c (by omega)) (rm_s (by omega)) rfl (Nat.le_of_ble_eq_true rfl) dL_law__2455 (q := 2458) rfl ?_
    rintro _ M3 ⟨r3, rfl, rfl, e9⟩
    obtain rfl := e9.symm
    refine T.ild_5 (q := 2460) dL_law__2458 rfl ?_
    refine T.ic_eq (tgt := 2465) (q := 2463) dL_law__2460 (by decide) rfl (fun _ => ?_) (fun h8 => absurd e0 h8)
    refine T.ild_5 (q := 2467) dL_law__2465 rfl ?_
    refine T.if_ne (tgt := 2482) (q := 2470) dL_law__2467 (by decide) rfl (fun _ => ?_) (fun h8 => absurd h8 (lnz hj))
    refine T.goto (tgt := 2945) dL_law__2482 (by decide) ?_
    exact T.drop_5 (T.drop_6 (TJ.wide (by omega) (by omega) (kk _ hI)))
theorem lwc_36 {G : sk_G} {b L : Nat} {ys : Nat → Int32} {M : sk_M} {i : Int32} {cells slots : Nat} (h : Inv M) (hv : lwv i L) (hc : cells + 8 ≤ 601024) (hs : slots + 48 ≤ 7293033) (kk : ∀ M0, Inv M0 → TJ G mL_law_ room_1 (lw_E G b L ys) (cells + 8) (slots + 48) 2945 [some (.ref b), some (.ref (G.2.2.1 120)), some (.ref (G.2.2.1 140)), some (.ref (G.2.2.1 158)), some (.int i), none, none] [] M0) : TJ G mL_law_ room_1 (lw_E G b L ys) cells slots 2485 [some (.ref b), some (.ref (G.2.2.1 120)), some (.ref (G.2.2.1 140)), some (.ref (G.2.2.1 158)), some (.int i), none, none] [] M := by
  obtain ⟨A1, hA1⟩ : ∃ z, z = ys (i + 1).toNatClampNeg := ⟨_, rfl⟩
  obtain ⟨A2, hA2⟩ : ∃ z, z = ys (i + 2).toNatClampNeg := ⟨_, rfl⟩
  obtain ⟨A3, hA3⟩ : ∃ z, z = ys (i + 3).toNatClampNeg := ⟨_, rfl⟩
  obtain ⟨A4, hA4⟩ : ∃ z, z = ys (i + 4).toNatClampNeg := ⟨_, rfl⟩
  obtain ⟨A5, hA5⟩ : ∃ z, z = ys (i + 5).toNatClampNeg := ⟨_, rfl⟩
  refine T.ald_1 (q := 2486) dL_law__2485 rfl ?_
  refine T.ald_0 (q := 2487) dL_law__2486 rfl ?_
  refine T.ild_4 (q := 2489) dL_law__2487 rfl ?_
  refine T.iconst (q := 2490) (1) dL_law__2489 rfl (by decide) ?_
  refine T.iadd (q := 2491) dL_law__2490 rfl ?_
  refine T.sld hv.2.1 hA1 dL_law__2491 (q := 2492) rfl ?_
  refine T.ald_3 (q := 2493) dL_law__2492 rfl ?_
  refine T.cSH (As := [.ref (G.2.2.1 120), .int A1, .ref (G.2.2.1 158)]) (rest := []) (t_L_price (Q0 := fun M1 => w_X8_price A1 M1 (fun b9 M2 => M2.1 140 0 = 0 ∧ M2.2 158 0 = b9.toInt64 ∧ Inv M2)) (QX := fun j M1 => w_X8_price A1 M1 (fun _ M2 => M2.1 140 0 = nI (j + 1) ∧ Inv M2)) (st_price h A1).go) w_L_262 cw_L_price np_L_price (Nat.le_of_ble_eq_true rfl) (Nat.le_of_ble_eq_true rfl) (rm_c (by omega)) (rm_s (by omega)) rfl (Nat.le_of_ble_eq_true rfl) dL_law__2493 (q := 2496) rfl ?_
  rintro _ M9 ⟨k, rfl, h9⟩
  rcases h9 with ⟨rfl, h9⟩ | ⟨j, rfl, hj, h9⟩
  · skip
    refine T.ist_5 (q := 2498) dL_law__2496 rfl (by decide) sk_ok_i ?_
    refine T.ald_2 (q := 2499) dL_law__2498 rfl ?_
    refine T.ald_0 (q := 2500) dL_law__2499 rfl ?_
    refine T.ild_4 (q := 2502) dL_law__2500 rfl ?_
    refine T.iconst (q := 2503) (1) dL_law__2502 rfl (by decide) ?_
    refine T.iadd (q := 2504) dL_law__2503 rfl ?_
    refine T.sld hv.2.1 hA1 dL_law__2504 (q := 2505) rfl ?_
    refine T.cV (As := [.int A1]) (c := 140) (ci := 8) (C := RX8) (T := TX8) (N := 27) (t_X8_price h9) w_L_264 cw_X8_price np_X8_price rfl (by decide) rfl (by decide) rfl (Nat.le_of_ble_eq_true rfl) (Nat.le_of_ble_eq_true rfl) (rm_c (by omega)) (rm_s (by omega)) rfl (Nat.le_of_ble_eq_true rfl) dL_law__2505 (q := 2508) rfl ?_
    rintro _ M2 ⟨b9, rfl, e0, e1, hI⟩
    refine T.ist_6 (q := 2510) dL_law__2508 rfl (by decide) sk_ok_i ?_
    refine T.ald_2 (q := 2511) dL_law__2510 rfl ?_
    refine T.cV (As := []) (c := 140) (ci := 8) (C := RX8) (T := TX8) (N := 27) (t_X8_thrown (P := fun r9 => r9 = M2.1 140 0) rfl) w_L_149 cw_X8_thrown np_X8_thrown rfl (by decide) rfl (by decide) rfl (Nat.le_of_ble_eq_true rfl) (Nat.le_of_ble_eq_true rfl) (rm_c (by omega)) (rm_s (by omega)) rfl (Nat.le_of_ble_eq_true rfl) dL_law__2511 (q := 2514) rfl ?_
    rintro _ M3 ⟨r3, rfl, rfl, e9⟩
    obtain rfl := e9.symm
    refine T.ild_5 (q := 2516) dL_law__2514 rfl ?_
    refine T.ic_eq (tgt := 2521) (q := 2519) dL_law__2516 (by decide) rfl (fun _ => ?_) (fun h8 => absurd e0 h8)
    refine T.ild_5 (q := 2523) dL_law__2521 rfl ?_
    refine T.if_ne (tgt := 2538) (q := 2526) dL_law__2523 (by decide) rfl (fun h8 => absurd rfl h8) (fun _ => ?_)
    refine T.ald_3 (q := 2527) dL_law__2526 rfl ?_
    refine T.iconst (q := 2528) (0) dL_law__2527 rfl (by decide) ?_
    refine T.laldk (n := 1) rfl rfl (by decide) dL_law__2528 (q := 2529) rfl (k9 := 0) (by decide) ?_
    refine T.ild_6 (q := 2531) dL_law__2529 rfl ?_
    refine T.i2l (q := 2532) dL_law__2531 rfl ?_
    refine T.lcmp (q := 2533) dL_law__2532 rfl ?_
    refine T.if_eq (tgt := 2538) (q := 2536) dL_law__2533 (by decide) rfl (fun _ => ?_) (fun h8 => absurd (lgc e1) h8)
    refine T.goto (tgt := 2945) dL_law__2538 (by decide) ?_
    exact T.drop_5 (T.drop_6 (TJ.wide (by omega) (by omega) (kk _ hI)))
  · skip
    refine T.ist_5 (q := 2498) dL_law__2496 rfl (by decide) sk_ok_i ?_
    refine T.ald_2 (q := 2499) dL_law__2498 rfl ?_
    refine T.ald_0 (q := 2500) dL_law__2499 rfl ?_
    refine T.ild_4 (q := 2502) dL_law__2500 rfl ?_
    refine T.iconst (q := 2503) (1) dL_law__2502 rfl (by decide) ?_
    refine T.iadd (q := 2504) dL_law__2503 rfl ?_
    refine T.sld hv.2.1 hA1 dL_law__2504 (q := 2505) rfl ?_
    refine T.cV (As := [.int A1]) (c := 140) (ci := 8) (C := RX8) (T := TX8) (N := 27) (t_X8_price h9) w_L_264 cw_X8_price np_X8_price rfl (by decide) rfl (by decide) rfl (Nat.le_of_ble_eq_true rfl) (Nat.le_of_ble_eq_true rfl) (rm_c (by omega)) (rm_s (by omega)) rfl (Nat.le_of_ble_eq_true rfl) dL_law__2505 (q := 2508) rfl ?_
    rintro _ M2 ⟨b9, rfl, e0, hI⟩
    refine T.ist_6 (q := 2510) dL_law__2508 rfl (by decide) sk_ok_i ?_
    refine T.ald_2 (q := 2511) dL_law__2510 rfl ?_
    refine T.cV (As := []) (c := 140) (ci := 8) (C := RX8) (T := TX8) (N := 27) (t_X8_thrown (P := fun r9 => r9 = M2.1 140 0) rfl) w_L_149 cw_X8_thrown np_X8_thrown rfl (by decide) rfl (by decide) rfl (Nat.le_of_ble_eq_true rfl) (Nat.le_of_ble_eq_true rfl) (rm_c (by omega)) (rm_s (by omega)) rfl (Nat.le_of_ble_eq_true rfl) dL_law__2511 (q := 2514) rfl ?_
    rintro _ M3 ⟨r3, rfl, rfl, e9⟩
    obtain rfl := e9.symm
    refine T.ild_5 (q := 2516) dL_law__2514 rfl ?_
    refine T.ic_eq (tgt := 2521) (q := 2519) dL_law__2516 (by decide) rfl (fun _ => ?_) (fun h8 => absurd e0 h8)
    refine T.ild_5 (q := 2523) dL_law__2521 rfl ?_
    refine T.if_ne (tgt := 2538) (q := 2526) dL_law__2523 (by decide) rfl (fun _ => ?_) (fun h8 => absurd h8 (lnz hj))
    refine T.goto (tgt := 2945) dL_law__2538 (by decide) ?_
    exact T.drop_5 (T.drop_6 (TJ.wide (by omega) (by omega) (kk _ hI)))
theorem lwc_37 {G : sk_G} {b L : Nat} {ys : Nat → Int32} {M : sk_M} {i : Int32} {cells slots : Nat} (h : Inv M) (hv : lwv i L) (hc : cells + 8 ≤ 601024) (hs : slots + 48 ≤ 7293033) (kk : ∀ M0, Inv M0 → TJ G mL_law_ room_1 (lw_E G b L ys) (cells + 8) (slots + 48) 2945 [some (.ref b), some (.ref (G.2.2.1 120)), some (.ref (G.2.2.1 140)), some (.ref (G.2.2.1 158)), some (.int i), none, none] [] M0) : TJ G mL_law_ room_1 (lw_E G b L ys) cells slots 2541 [some (.ref b), some (.ref (G.2.2.1 120)), some (.ref (G.2.2.1 140)), some (.ref (G.2.2.1 158)), some (.int i), none, none] [] M := by
  obtain ⟨A1, hA1⟩ : ∃ z, z = ys (i + 1).toNatClampNeg := ⟨_, rfl⟩
  obtain ⟨A2, hA2⟩ : ∃ z, z = ys (i + 2).toNatClampNeg := ⟨_, rfl⟩
  obtain ⟨A3, hA3⟩ : ∃ z, z = ys (i + 3).toNatClampNeg := ⟨_, rfl⟩
  obtain ⟨A4, hA4⟩ : ∃ z, z = ys (i + 4).toNatClampNeg := ⟨_, rfl⟩
  obtain ⟨A5, hA5⟩ : ∃ z, z = ys (i + 5).toNatClampNeg := ⟨_, rfl⟩
  refine T.ald_1 (q := 2542) dL_law__2541 rfl ?_
  refine T.cV (As := []) (c := 120) (ci := 7) (C := RX7) (T := TX7) (N := 9) (t_X7_risky (Q := fun r => w_X8_risky M (fun b9 M2 => r = b9 ∧ Inv M2)) (st_risky h ).go) w_L_265 cw_X7_risky np_X7_risky rfl (by decide) rfl (by decide) rfl (Nat.le_of_ble_eq_true rfl) (Nat.le_of_ble_eq_true rfl) (rm_c (by omega)) (rm_s (by omega)) rfl (Nat.le_of_ble_eq_true rfl) dL_law__2542 (q := 2545) rfl ?_
  rintro _ M9 ⟨r, rfl, h9, e9⟩
  obtain rfl := e9.symm
  refine T.ald_2 (q := 2546) dL_law__2545 rfl ?_
  refine T.cV (As := []) (c := 140) (ci := 8) (C := RX8) (T := TX8) (N := 27) (t_X8_risky h9) w_L_268 cw_X8_risky np_X8_risky rfl (by decide) rfl (by decide) rfl (Nat.le_of_ble_eq_true rfl) (Nat.le_of_ble_eq_true rfl) (rm_c (by omega)) (rm_s (by omega)) rfl (Nat.le_of_ble_eq_true rfl) dL_law__2546 (q := 2549) rfl ?_
  rintro _ M2 ⟨b9, rfl, e0, hI⟩
  refine T.ic_eq (tgt := 2945) (q := 2552) dL_law__2549 (by decide) rfl (fun _ => ?_) (fun h8 => absurd e0 h8)
  exact TJ.wide (by omega) (by omega) (kk _ hI)
theorem lwc_38 {G : sk_G} {b L : Nat} {ys : Nat → Int32} {M : sk_M} {i : Int32} {cells slots : Nat} (h : Inv M) (hv : lwv i L) (hc : cells + 8 ≤ 601024) (hs : slots + 48 ≤ 7293033) (kk : ∀ M0, Inv M0 → TJ G mL_law_ room_1 (lw_E G b L ys) (cells + 8) (slots + 48) 2945 [some (.ref b), some (.ref (G.2.2.1 120)), some (.ref (G.2.2.1 140)), some (.ref (G.2.2.1 158)), some (.int i), none, none] [] M0) : TJ G mL_law_ room_1 (lw_E G b L ys) cells slots 2554 [some (.ref b), some (.ref (G.2.2.1 120)), some (.ref (G.2.2.1 140)), some (.ref (G.2.2.1 158)), some (.int i), none, none] [] M := by
  obtain ⟨A1, hA1⟩ : ∃ z, z = ys (i + 1).toNatClampNeg := ⟨_, rfl⟩
  obtain ⟨A2, hA2⟩ : ∃ z, z = ys (i + 2).toNatClampNeg := ⟨_, rfl⟩
  obtain ⟨A3, hA3⟩ : ∃ z, z = ys (i + 3).toNatClampNeg := ⟨_, rfl⟩
  obtain ⟨A4, hA4⟩ : ∃ z, z = ys (i + 4).toNatClampNeg := ⟨_, rfl⟩
  obtain ⟨A5, hA5⟩ : ∃ z, z = ys (i + 5).toNatClampNeg := ⟨_, rfl⟩
  refine T.ald_1 (q := 2555) dL_law__2554 rfl ?_
  refine T.ald_0 (q := 2556) dL_law__2555 rfl ?_
  refine T.ild_4 (q := 2558) dL_law__2556 rfl ?_
  refine T.iconst (q := 2559) (1) dL_law__2558 rfl (by decide) ?_
  refine T.iadd (q := 2560) dL_law__2559 rfl ?_
  refine T.sld hv.2.1 hA1 dL_law__2560 (q := 2561) rfl ?_
  refine T.ald_0 (q := 2562) dL_law__2561 rfl ?_
  refine T.ild_4 (q := 2564) dL_law__2562 rfl ?_
  refine T.iconst (q := 2565) (2) dL_law__2564 rfl (by decide) ?_
  refine T.iadd (q := 2566) dL_law__2565 rfl ?_
  refine T.sld hv.2.2.1 hA2 dL_law__2566 (q := 2567) rfl ?_
  refine T.ald_3 (q := 2568) dL_law__2567 rfl ?_
  refine T.cSH (As := [.ref (G.2.2.1 120), .int A1, .int A2, .ref (G.2.2.1 158)]) (rest := []) (t_L_when (Q0 := fun M1 => w_X8_when A1 A2 M1 (fun b9 M2 => M2.1 140 0 = 0 ∧ M2.2 158 0 = b9.toInt64 ∧ Inv M2)) (QX := fun j M1 => w_X8_when A1 A2 M1 (fun _ M2 => M2.1 140 0 = nI (j + 1) ∧ Inv M2)) (st_when h A1 A2).go) w_L_269 cw_L_when np_L_when (Nat.le_of_ble_eq_true rfl) (Nat.le_of_ble_eq_true rfl) (rm_c (by omega)) (rm_s (by omega)) rfl (Nat.le_of_ble_eq_true rfl) dL_law__2568 (q := 2571) rfl ?_
  rintro _ M9 ⟨k, rfl, h9⟩
  rcases h9 with ⟨rfl, h9⟩ | ⟨j, rfl, hj, h9⟩
  · skip
    refine T.ist_5 (q := 2573) dL_law__2571 rfl (by decide) sk_ok_i ?_
    refine T.ald_2 (q := 2574) dL_law__2573 rfl ?_
    refine T.ald_0 (q := 2575) dL_law__2574 rfl ?_
    refine T.ild_4 (q := 2577) dL_law__2575 rfl ?_
    refine T.iconst (q := 2578) (1) dL_law__2577 rfl (by decide) ?_
    refine T.iadd (q := 2579) dL_law__2578 rfl ?_
    refine T.sld hv.2.1 hA1 dL_law__2579 (q := 2580) rfl ?_
    refine T.ald_0 (q := 2581) dL_law__2580 rfl ?_
    refine T.ild_4 (q := 2583) dL_law__2581 rfl ?_
    refine T.iconst (q := 2584) (2) dL_law__2583 rfl (by decide) ?_
    refine T.iadd (q := 2585) dL_law__2584 rfl ?_
    refine T.sld hv.2.2.1 hA2 dL_law__2585 (q := 2586) rfl ?_
    refine T.cV (As := [.int A1, .int A2]) (c := 140) (ci := 8) (C := RX8) (T := TX8) (N := 27) (t_X8_when h9) w_L_271 cw_X8_when np_X8_when rfl (by decide) rfl (by decide) rfl (Nat.le_of_ble_eq_true rfl) (Nat.le_of_ble_eq_true rfl) (rm_c (by omega)) (rm_s (by omega)) rfl (Nat.le_of_ble_eq_true rfl) dL_law__2586 (q := 2589) rfl ?_
    rintro _ M2 ⟨b9, rfl, e0, e1, hI⟩
    refine T.ist_6 (q := 2591) dL_law__2589 rfl (by decide) sk_ok_i ?_
    refine T.ald_2 (q := 2592) dL_law__2591 rfl ?_
    refine T.cV (As := []) (c := 140) (ci := 8) (C := RX8) (T := TX8) (N := 27) (t_X8_thrown (P := fun r9 => r9 = M2.1 140 0) rfl) w_L_149 cw_X8_thrown np_X8_thrown rfl (by decide) rfl (by decide) rfl (Nat.le_of_ble_eq_true rfl) (Nat.le_of_ble_eq_true rfl) (rm_c (by omega)) (rm_s (by omega)) rfl (Nat.le_of_ble_eq_true rfl) dL_law__2592 (q := 2595) rfl ?_
    rintro _ M3 ⟨r3, rfl, rfl, e9⟩
    obtain rfl := e9.symm
    refine T.ild_5 (q := 2597) dL_law__2595 rfl ?_
    refine T.ic_eq (tgt := 2602) (q := 2600) dL_law__2597 (by decide) rfl (fun _ => ?_) (fun h8 => absurd e0 h8)
    refine T.ild_5 (q := 2604) dL_law__2602 rfl ?_
    refine T.if_ne (tgt := 2619) (q := 2607) dL_law__2604 (by decide) rfl (fun h8 => absurd rfl h8) (fun _ => ?_)
    refine T.ald_3 (q := 2608) dL_law__2607 rfl ?_
    refine T.iconst (q := 2609) (0) dL_law__2608 rfl (by decide) ?_
    refine T.laldk (n := 1) rfl rfl (by decide) dL_law__2609 (q := 2610) rfl (k9 := 0) (by decide) ?_
    refine T.ild_6 (q := 2612) dL_law__2610 rfl ?_
    refine T.i2l (q := 2613) dL_law__2612 rfl ?_
    refine T.lcmp (q := 2614) dL_law__2613 rfl ?_
    refine T.if_eq (tgt := 2619) (q := 2617) dL_law__2614 (by decide) rfl (fun _ => ?_) (fun h8 => absurd (lgc e1) h8)
    refine T.goto (tgt := 2945) dL_law__2619 (by decide) ?_
    exact T.drop_5 (T.drop_6 (TJ.wide (by omega) (by omega) (kk _ hI)))
  · skip
    refine T.ist_5 (q := 2573) dL_law__2571 rfl (by decide) sk_ok_i ?_
    refine T.ald_2 (q := 2574) dL_law__2573 rfl ?_
    refine T.ald_0 (q := 2575) dL_law__2574 rfl ?_
    refine T.ild_4 (q := 2577) dL_law__2575 rfl ?_
    refine T.iconst (q := 2578) (1) dL_law__2577 rfl (by decide) ?_
    refine T.iadd (q := 2579) dL_law__2578 rfl ?_
    refine T.sld hv.2.1 hA1 dL_law__2579 (q := 2580) rfl ?_
    refine T.ald_0 (q := 2581) dL_law__2580 rfl ?_
    refine T.ild_4 (q := 2583) dL_law__2581 rfl ?_
    refine T.iconst (q := 2584) (2) dL_law__2583 rfl (by decide) ?_
    refine T.iadd (q := 2585) dL_law__2584 rfl ?_
    refine T.sld hv.2.2.1 hA2 dL_law__2585 (q := 2586) rfl ?_
    refine T.cV (As := [.int A1, .int A2]) (c := 140) (ci := 8) (C := RX8) (T := TX8) (N := 27) (t_X8_when h9) w_L_271 cw_X8_when np_X8_when rfl (by decide) rfl (by decide) rfl (Nat.le_of_ble_eq_true rfl) (Nat.le_of_ble_eq_true rfl) (rm_c (by omega)) (rm_s (by omega)) rfl (Nat.le_of_ble_eq_true rfl) dL_law__2586 (q := 2589) rfl ?_
    rintro _ M2 ⟨b9, rfl, e0, hI⟩
    refine T.ist_6 (q := 2591) dL_law__2589 rfl (by decide) sk_ok_i ?_
    refine T.ald_2 (q := 2592) dL_law__2591 rfl ?_
    refine T.cV (As := []) (c := 140) (ci := 8) (C := RX8) (T := TX8) (N := 27) (t_X8_thrown (P := fun r9 => r9 = M2.1 140 0) rfl) w_L_149 cw_X8_thrown np_X8_thrown rfl (by decide) rfl (by decide) rfl (Nat.le_of_ble_eq_true rfl) (Nat.le_of_ble_eq_true rfl) (rm_c (by omega)) (rm_s (by omega)) rfl (Nat.le_of_ble_eq_true rfl) dL_law__2592 (q := 2595) rfl ?_
    rintro _ M3 ⟨r3, rfl, rfl, e9⟩
    obtain rfl := e9.symm
    refine T.ild_5 (q := 2597) dL_law__2595 rfl ?_
    refine T.ic_eq (tgt := 2602) (q := 2600) dL_law__2597 (by decide) rfl (fun _ => ?_) (fun h8 => absurd e0 h8)
    refine T.ild_5 (q := 2604) dL_law__2602 rfl ?_
    refine T.if_ne (tgt := 2619) (q := 2607) dL_law__2604 (by decide) rfl (fun _ => ?_) (fun h8 => absurd h8 (lnz hj))
    refine T.goto (tgt := 2945) dL_law__2619 (by decide) ?_
    exact T.drop_5 (T.drop_6 (TJ.wide (by omega) (by omega) (kk _ hI)))
theorem lwc_39 {G : sk_G} {b L : Nat} {ys : Nat → Int32} {M : sk_M} {i : Int32} {cells slots : Nat} (h : Inv M) (hv : lwv i L) (hc : cells + 8 ≤ 601024) (hs : slots + 48 ≤ 7293033) (kk : ∀ M0, Inv M0 → TJ G mL_law_ room_1 (lw_E G b L ys) (cells + 8) (slots + 48) 2945 [some (.ref b), some (.ref (G.2.2.1 120)), some (.ref (G.2.2.1 140)), some (.ref (G.2.2.1 158)), some (.int i), none, none] [] M0) : TJ G mL_law_ room_1 (lw_E G b L ys) cells slots 2622 [some (.ref b), some (.ref (G.2.2.1 120)), some (.ref (G.2.2.1 140)), some (.ref (G.2.2.1 158)), some (.int i), none, none] [] M := by
  obtain ⟨A1, hA1⟩ : ∃ z, z = ys (i + 1).toNatClampNeg := ⟨_, rfl⟩
  obtain ⟨A2, hA2⟩ : ∃ z, z = ys (i + 2).toNatClampNeg := ⟨_, rfl⟩
  obtain ⟨A3, hA3⟩ : ∃ z, z = ys (i + 3).toNatClampNeg := ⟨_, rfl⟩
  obtain ⟨A4, hA4⟩ : ∃ z, z = ys (i + 4).toNatClampNeg := ⟨_, rfl⟩
  obtain ⟨A5, hA5⟩ : ∃ z, z = ys (i + 5).toNatClampNeg := ⟨_, rfl⟩
  refine T.ald_1 (q := 2623) dL_law__2622 rfl ?_
  refine T.ald_0 (q := 2624) dL_law__2623 rfl ?_
  refine T.ild_4 (q := 2626) dL_law__2624 rfl ?_
  refine T.iconst (q := 2627) (1) dL_law__2626 rfl (by decide) ?_
  refine T.iadd (q := 2628) dL_law__2627 rfl ?_
  refine T.sld hv.2.1 hA1 dL_law__2628 (q := 2629) rfl ?_
  refine T.ald_0 (q := 2630) dL_law__2629 rfl ?_
  refine T.ild_4 (q := 2632) dL_law__2630 rfl ?_
  refine T.iconst (q := 2633) (2) dL_law__2632 rfl (by decide) ?_
  refine T.iadd (q := 2634) dL_law__2633 rfl ?_
  refine T.sld hv.2.2.1 hA2 dL_law__2634 (q := 2635) rfl ?_
  refine T.if_eq (tgt := 2642) (q := 2638) dL_law__2635 (by decide) rfl (fun z2635 => ?_) (fun z2635 => ?_)
  · skip
    refine T.iconst (q := 2643) (0) dL_law__2642 rfl (by decide) ?_
    refine T.ald_3 (q := 2644) dL_law__2643 rfl ?_
    refine T.cSH (As := [.ref (G.2.2.1 120), .int A1, .int (0 : Int32), .ref (G.2.2.1 158)]) (rest := []) (t_L_trial (Q0 := fun M1 => w_X8_trial A1 (0 : Int32) M1 (fun b9 M2 => M2.1 140 0 = 0 ∧ M2.2 158 0 = b9.toInt64 ∧ Inv M2)) (QX := fun j M1 => w_X8_trial A1 (0 : Int32) M1 (fun _ M2 => M2.1 140 0 = nI (j + 1) ∧ Inv M2)) (st_trial h A1 (0 : Int32)).go) w_L_272 cw_L_trial np_L_trial (Nat.le_of_ble_eq_true rfl) (Nat.le_of_ble_eq_true rfl) (rm_c (by omega)) (rm_s (by omega)) rfl (Nat.le_of_ble_eq_true rfl) dL_law__2644 (q := 2647) rfl ?_
    rintro _ M9 ⟨k, rfl, h9⟩
    rcases h9 with ⟨rfl, h9⟩ | ⟨j, rfl, hj, h9⟩
    · skip
      refine T.ist_5 (q := 2649) dL_law__2647 rfl (by decide) sk_ok_i ?_
      refine T.ald_2 (q := 2650) dL_law__2649 rfl ?_
      refine T.ald_0 (q := 2651) dL_law__2650 rfl ?_
      refine T.ild_4 (q := 2653) dL_law__2651 rfl ?_
      refine T.iconst (q := 2654) (1) dL_law__2653 rfl (by decide) ?_
      refine T.iadd (q := 2655) dL_law__2654 rfl ?_
      refine T.sld hv.2.1 hA1 dL_law__2655 (q := 2656) rfl ?_
      refine T.ald_0 (q := 2657) dL_law__2656 rfl ?_
      refine T.ild_4 (q := 2659) dL_law__2657 rfl ?_
      refine T.iconst (q := 2660) (2) dL_law__2659 rfl (by decide) ?_
      refine T.iadd (q := 2661) dL_law__2660 rfl ?_
      refine T.sld hv.2.2.1 hA2 dL_law__2661 (q := 2662) rfl ?_
      refine T.if_eq (tgt := 2669) (q := 2665) dL_law__2662 (by decide) rfl (fun _ => ?_) (fun h8 => absurd z2635 h8)
      refine T.iconst (q := 2670) (0) dL_law__2669 rfl (by decide) ?_
      refine T.cV (As := [.int A1, .int (0 : Int32)]) (c := 140) (ci := 8) (C := RX8) (T := TX8) (N := 27) (t_X8_trial h9) w_L_274 cw_X8_trial np_X8_trial rfl (by decide) rfl (by decide) rfl (Nat.le_of_ble_eq_true rfl) (Nat.le_of_ble_eq_true rfl) (rm_c (by omega)) (rm_s (by omega)) rfl (Nat.le_of_ble_eq_true rfl) dL_law__2670 (q := 2673) rfl ?_
      rintro _ M2 ⟨b9, rfl, e0, e1, hI⟩
      refine T.ist_6 (q := 2675) dL_law__2673 rfl (by decide) sk_ok_i ?_
      refine T.ald_2 (q := 2676) dL_law__2675 rfl ?_
      refine T.cV (As := []) (c := 140) (ci := 8) (C := RX8) (T := TX8) (N := 27) (t_X8_thrown (P := fun r9 => r9 = M2.1 140 0) rfl) w_L_149 cw_X8_thrown np_X8_thrown rfl (by decide) rfl (by decide) rfl (Nat.le_of_ble_eq_true rfl) (Nat.le_of_ble_eq_true rfl) (rm_c (by omega)) (rm_s (by omega)) rfl (Nat.le_of_ble_eq_true rfl) dL_law__2676 (q := 2679) rfl ?_
      rintro _ M3 ⟨r3, rfl, rfl, e9⟩
      obtain rfl := e9.symm
      refine T.ild_5 (q := 2681) dL_law__2679 rfl ?_
      refine T.ic_eq (tgt := 2686) (q := 2684) dL_law__2681 (by decide) rfl (fun _ => ?_) (fun h8 => absurd e0 h8)
      refine T.ild_5 (q := 2688) dL_law__2686 rfl ?_
      refine T.if_ne (tgt := 2703) (q := 2691) dL_law__2688 (by decide) rfl (fun h8 => absurd rfl h8) (fun _ => ?_)
      refine T.ald_3 (q := 2692) dL_law__2691 rfl ?_
      refine T.iconst (q := 2693) (0) dL_law__2692 rfl (by decide) ?_
      refine T.laldk (n := 1) rfl rfl (by decide) dL_law__2693 (q := 2694) rfl (k9 := 0) (by decide) ?_
      refine T.ild_6 (q := 2696) dL_law__2694 rfl ?_
      refine T.i2l (q := 2697) dL_law__2696 rfl ?_
      refine T.lcmp (q := 2698) dL_law__2697 rfl ?_
      refine T.if_eq (tgt := 2703) (q := 2701) dL_law__2698 (by decide) rfl (fun _ => ?_) (fun h8 => absurd (lgc e1) h8)
      refine T.goto (tgt := 2945) dL_law__2703 (by decide) ?_
      exact T.drop_5 (T.drop_6 (TJ.wide (by omega) (by omega) (kk _ hI)))
    · skip
      refine T.ist_5 (q := 2649) dL_law__2647 rfl (by decide) sk_ok_i ?_
      refine T.ald_2 (q := 2650) dL_law__2649 rfl ?_
      refine T.ald_0 (q := 2651) dL_law__2650 rfl ?_
      refine T.ild_4 (q := 2653) dL_law__2651 rfl ?_
      refine T.iconst (q := 2654) (1) dL_law__2653 rfl (by decide) ?_
      refine T.iadd (q := 2655) dL_law__2654 rfl ?_
      refine T.sld hv.2.1 hA1 dL_law__2655 (q := 2656) rfl ?_
      refine T.ald_0 (q := 2657) dL_law__2656 rfl ?_
      refine T.ild_4 (q := 2659) dL_law__2657 rfl ?_
      refine T.iconst (q := 2660) (2) dL_law__2659 rfl (by decide) ?_
      refine T.iadd (q := 2661) dL_law__2660 rfl ?_
      refine T.sld hv.2.2.1 hA2 dL_law__2661 (q := 2662) rfl ?_
      refine T.if_eq (tgt := 2669) (q := 2665) dL_law__2662 (by decide) rfl (fun _ => ?_) (fun h8 => absurd z2635 h8)
      refine T.iconst (q := 2670) (0) dL_law__2669 rfl (by decide) ?_
      refine T.cV (As := [.int A1, .int (0 : Int32)]) (c := 140) (ci := 8) (C := RX8) (T := TX8) (N := 27) (t_X8_trial h9) w_L_274 cw_X8_trial np_X8_trial rfl (by decide) rfl (by decide) rfl (Nat.le_of_ble_eq_true rfl) (Nat.le_of_ble_eq_true rfl) (rm_c (by omega)) (rm_s (by omega)) rfl (Nat.le_of_ble_eq_true rfl) dL_law__2670 (q := 2673) rfl ?_
      rintro _ M2 ⟨b9, rfl, e0, hI⟩
      refine T.ist_6 (q := 2675) dL_law__2673 rfl (by decide) sk_ok_i ?_
      refine T.ald_2 (q := 2676) dL_law__2675 rfl ?_
      refine T.cV (As := []) (c := 140) (ci := 8) (C := RX8) (T := TX8) (N := 27) (t_X8_thrown (P := fun r9 => r9 = M2.1 140 0) rfl) w_L_149 cw_X8_thrown np_X8_thrown rfl (by decide) rfl (by decide) rfl (Nat.le_of_ble_eq_true rfl) (Nat.le_of_ble_eq_true rfl) (rm_c (by omega)) (rm_s (by omega)) rfl (Nat.le_of_ble_eq_true rfl) dL_law__2676 (q := 2679) rfl ?_
      rintro _ M3 ⟨r3, rfl, rfl, e9⟩
      obtain rfl := e9.symm
      refine T.ild_5 (q := 2681) dL_law__2679 rfl ?_
      refine T.ic_eq (tgt := 2686) (q := 2684) dL_law__2681 (by decide) rfl (fun _ => ?_) (fun h8 => absurd e0 h8)
      refine T.ild_5 (q := 2688) dL_law__2686 rfl ?_
      refine T.if_ne (tgt := 2703) (q := 2691) dL_law__2688 (by decide) rfl (fun _ => ?_) (fun h8 => absurd h8 (lnz hj))
      refine T.goto (tgt := 2945) dL_law__2703 (by decide) ?_
      exact T.drop_5 (T.drop_6 (TJ.wide (by omega) (by omega) (kk _ hI)))
  · skip
    refine T.iconst (q := 2639) (1) dL_law__2638 rfl (by decide) ?_
    refine T.goto (tgt := 2643) dL_law__2639 (by decide) ?_
    refine T.ald_3 (q := 2644) dL_law__2643 rfl ?_
    refine T.cSH (As := [.ref (G.2.2.1 120), .int A1, .int (1 : Int32), .ref (G.2.2.1 158)]) (rest := []) (t_L_trial (Q0 := fun M1 => w_X8_trial A1 (1 : Int32) M1 (fun b9 M2 => M2.1 140 0 = 0 ∧ M2.2 158 0 = b9.toInt64 ∧ Inv M2)) (QX := fun j M1 => w_X8_trial A1 (1 : Int32) M1 (fun _ M2 => M2.1 140 0 = nI (j + 1) ∧ Inv M2)) (st_trial h A1 (1 : Int32)).go) w_L_272 cw_L_trial np_L_trial (Nat.le_of_ble_eq_true rfl) (Nat.le_of_ble_eq_true rfl) (rm_c (by omega)) (rm_s (by omega)) rfl (Nat.le_of_ble_eq_true rfl) dL_law__2644 (q := 2647) rfl ?_
    rintro _ M9 ⟨k, rfl, h9⟩
    rcases h9 with ⟨rfl, h9⟩ | ⟨j, rfl, hj, h9⟩
    · skip
      refine T.ist_5 (q := 2649) dL_law__2647 rfl (by decide) sk_ok_i ?_
      refine T.ald_2 (q := 2650) dL_law__2649 rfl ?_
      refine T.ald_0 (q := 2651) dL_law__2650 rfl ?_
      refine T.ild_4 (q := 2653) dL_law__2651 rfl ?_
      refine T.iconst (q := 2654) (1) dL_law__2653 rfl (by decide) ?_
      refine T.iadd (q := 2655) dL_law__2654 rfl ?_
      refine T.sld hv.2.1 hA1 dL_law__2655 (q := 2656) rfl ?_
      refine T.ald_0 (q := 2657) dL_law__2656 rfl ?_
      refine T.ild_4 (q := 2659) dL_law__2657 rfl ?_
      refine T.iconst (q := 2660) (2) dL_law__2659 rfl (by decide) ?_
      refine T.iadd (q := 2661) dL_law__2660 rfl ?_
      refine T.sld hv.2.2.1 hA2 dL_law__2661 (q := 2662) rfl ?_
      refine T.if_eq (tgt := 2669) (q := 2665) dL_law__2662 (by decide) rfl (fun h8 => absurd h8 z2635) (fun _ => ?_)
      refine T.iconst (q := 2666) (1) dL_law__2665 rfl (by decide) ?_
      refine T.goto (tgt := 2670) dL_law__2666 (by decide) ?_
      refine T.cV (As := [.int A1, .int (1 : Int32)]) (c := 140) (ci := 8) (C := RX8) (T := TX8) (N := 27) (t_X8_trial h9) w_L_274 cw_X8_trial np_X8_trial rfl (by decide) rfl (by decide) rfl (Nat.le_of_ble_eq_true rfl) (Nat.le_of_ble_eq_true rfl) (rm_c (by omega)) (rm_s (by omega)) rfl (Nat.le_of_ble_eq_true rfl) dL_law__2670 (q := 2673) rfl ?_
      rintro _ M2 ⟨b9, rfl, e0, e1, hI⟩
      refine T.ist_6 (q := 2675) dL_law__2673 rfl (by decide) sk_ok_i ?_
      refine T.ald_2 (q := 2676) dL_law__2675 rfl ?_
      refine T.cV (As := []) (c := 140) (ci := 8) (C := RX8) (T := TX8) (N := 27) (t_X8_thrown (P := fun r9 => r9 = M2.1 140 0) rfl) w_L_149 cw_X8_thrown np_X8_thrown rfl (by decide) rfl (by decide) rfl (Nat.le_of_ble_eq_true rfl) (Nat.le_of_ble_eq_true rfl) (rm_c (by omega)) (rm_s (by omega)) rfl (Nat.le_of_ble_eq_true rfl) dL_law__2676 (q := 2679) rfl ?_
      rintro _ M3 ⟨r3, rfl, rfl, e9⟩
      obtain rfl := e9.symm
      refine T.ild_5 (q := 2681) dL_law__2679 rfl ?_
      refine T.ic_eq (tgt := 2686) (q := 2684) dL_law__2681 (by decide) rfl (fun _ => ?_) (fun h8 => absurd e0 h8)
      refine T.ild_5 (q := 2688) dL_law__2686 rfl ?_
      refine T.if_ne (tgt := 2703) (q := 2691) dL_law__2688 (by decide) rfl (fun h8 => absurd rfl h8) (fun _ => ?_)
      refine T.ald_3 (q := 2692) dL_law__2691 rfl ?_
      refine T.iconst (q := 2693) (0) dL_law__2692 rfl (by decide) ?_
      refine T.laldk (n := 1) rfl rfl (by decide) dL_law__2693 (q := 2694) rfl (k9 := 0) (by decide) ?_
      refine T.ild_6 (q := 2696) dL_law__2694 rfl ?_
      refine T.i2l (q := 2697) dL_law__2696 rfl ?_
      refine T.lcmp (q := 2698) dL_law__2697 rfl ?_
      refine T.if_eq (tgt := 2703) (q := 2701) dL_law__2698 (by decide) rfl (fun _ => ?_) (fun h8 => absurd (lgc e1) h8)
      refine T.goto (tgt := 2945) dL_law__2703 (by decide) ?_
      exact T.drop_5 (T.drop_6 (TJ.wide (by omega) (by omega) (kk _ hI)))
    · skip
      refine T.ist_5 (q := 2649) dL_law__2647 rfl (by decide) sk_ok_i ?_
      refine T.ald_2 (q := 2650) dL_law__2649 rfl ?_
      refine T.ald_0 (q := 2651) dL_law__2650 rfl ?_
      refine T.ild_4 (q := 2653) dL_law__2651 rfl ?_
      refine T.iconst (q := 2654) (1) dL_law__2653 rfl (by decide) ?_
      refine T.iadd (q := 2655) dL_law__2654 rfl ?_
      refine T.sld hv.2.1 hA1 dL_law__2655 (q := 2656) rfl ?_
      refine T.ald_0 (q := 2657) dL_law__2656 rfl ?_
      refine T.ild_4 (q := 2659) dL_law__2657 rfl ?_
      refine T.iconst (q := 2660) (2) dL_law__2659 rfl (by decide) ?_
      refine T.iadd (q := 2661) dL_law__2660 rfl ?_
      refine T.sld hv.2.2.1 hA2 dL_law__2661 (q := 2662) rfl ?_
      refine T.if_eq (tgt := 2669) (q := 2665) dL_law__2662 (by decide) rfl (fun h8 => absurd h8 z2635) (fun _ => ?_)
      refine T.iconst (q := 2666) (1) dL_law__2665 rfl (by decide) ?_
      refine T.goto (tgt := 2670) dL_law__2666 (by decide) ?_
      refine T.cV (As := [.int A1, .int (1 : Int32)]) (c := 140) (ci := 8) (C := RX8) (T := TX8) (N := 27) (t_X8_trial h9) w_L_274 cw_X8_trial np_X8_trial rfl (by decide) rfl (by decide) rfl (Nat.le_of_ble_eq_true rfl) (Nat.le_of_ble_eq_true rfl) (rm_c (by omega)) (rm_s (by omega)) rfl (Nat.le_of_ble_eq_true rfl) dL_law__2670 (q := 2673) rfl ?_
      rintro _ M2 ⟨b9, rfl, e0, hI⟩
      refine T.ist_6 (q := 2675) dL_law__2673 rfl (by decide) sk_ok_i ?_
      refine T.ald_2 (q := 2676) dL_law__2675 rfl ?_
      refine T.cV (As := []) (c := 140) (ci := 8) (C := RX8) (T := TX8) (N := 27) (t_X8_thrown (P := fun r9 => r9 = M2.1 140 0) rfl) w_L_149 cw_X8_thrown np_X8_thrown rfl (by decide) rfl (by decide) rfl (Nat.le_of_ble_eq_true rfl) (Nat.le_of_ble_eq_true rfl) (rm_c (by omega)) (rm_s (by omega)) rfl (Nat.le_of_ble_eq_true rfl) dL_law__2676 (q := 2679) rfl ?_
      rintro _ M3 ⟨r3, rfl, rfl, e9⟩
      obtain rfl := e9.symm
      refine T.ild_5 (q := 2681) dL_law__2679 rfl ?_
      refine T.ic_eq (tgt := 2686) (q := 2684) dL_law__2681 (by decide) rfl (fun _ => ?_) (fun h8 => absurd e0 h8)
      refine T.ild_5 (q := 2688) dL_law__2686 rfl ?_
      refine T.if_ne (tgt := 2703) (q := 2691) dL_law__2688 (by decide) rfl (fun _ => ?_) (fun h8 => absurd h8 (lnz hj))
      refine T.goto (tgt := 2945) dL_law__2703 (by decide) ?_
      exact T.drop_5 (T.drop_6 (TJ.wide (by omega) (by omega) (kk _ hI)))
theorem lwc_40 {G : sk_G} {b L : Nat} {ys : Nat → Int32} {M : sk_M} {i : Int32} {cells slots : Nat} (h : Inv M) (hv : lwv i L) (hc : cells + 8 ≤ 601024) (hs : slots + 48 ≤ 7293033) (kk : ∀ M0, Inv M0 → TJ G mL_law_ room_1 (lw_E G b L ys) (cells + 8) (slots + 48) 2945 [some (.ref b), some (.ref (G.2.2.1 120)), some (.ref (G.2.2.1 140)), some (.ref (G.2.2.1 158)), some (.int i), none, none] [] M0) : TJ G mL_law_ room_1 (lw_E G b L ys) cells slots 2706 [some (.ref b), some (.ref (G.2.2.1 120)), some (.ref (G.2.2.1 140)), some (.ref (G.2.2.1 158)), some (.int i), none, none] [] M := by
  obtain ⟨A1, hA1⟩ : ∃ z, z = ys (i + 1).toNatClampNeg := ⟨_, rfl⟩
  obtain ⟨A2, hA2⟩ : ∃ z, z = ys (i + 2).toNatClampNeg := ⟨_, rfl⟩
  obtain ⟨A3, hA3⟩ : ∃ z, z = ys (i + 3).toNatClampNeg := ⟨_, rfl⟩
  obtain ⟨A4, hA4⟩ : ∃ z, z = ys (i + 4).toNatClampNeg := ⟨_, rfl⟩
  obtain ⟨A5, hA5⟩ : ∃ z, z = ys (i + 5).toNatClampNeg := ⟨_, rfl⟩
  refine T.ald_1 (q := 2707) dL_law__2706 rfl ?_
  refine T.ald_0 (q := 2708) dL_law__2707 rfl ?_
  refine T.ild_4 (q := 2710) dL_law__2708 rfl ?_
  refine T.iconst (q := 2711) (1) dL_law__2710 rfl (by decide) ?_
  refine T.iadd (q := 2712) dL_law__2711 rfl ?_
  refine T.sld hv.2.1 hA1 dL_law__2712 (q := 2713) rfl ?_
  refine T.ald_0 (q := 2714) dL_law__2713 rfl ?_
  refine T.ild_4 (q := 2716) dL_law__2714 rfl ?_
  refine T.iconst (q := 2717) (2) dL_law__2716 rfl (by decide) ?_
  refine T.iadd (q := 2718) dL_law__2717 rfl ?_
  refine T.sld hv.2.2.1 hA2 dL_law__2718 (q := 2719) rfl ?_
  refine T.if_eq (tgt := 2726) (q := 2722) dL_law__2719 (by decide) rfl (fun z2719 => ?_) (fun z2719 => ?_)
  · skip
    refine T.iconst (q := 2727) (0) dL_law__2726 rfl (by decide) ?_
    refine T.ald_3 (q := 2728) dL_law__2727 rfl ?_
    refine T.cSH (As := [.ref (G.2.2.1 120), .int A1, .int (0 : Int32), .ref (G.2.2.1 158)]) (rest := []) (t_L_span (Q0 := fun M1 => w_X8_span A1 (0 : Int32) M1 (fun b9 M2 => M2.1 140 0 = 0 ∧ M2.2 158 0 = b9.toInt64 ∧ Inv M2)) (QX := fun j M1 => w_X8_span A1 (0 : Int32) M1 (fun _ M2 => M2.1 140 0 = nI (j + 1) ∧ Inv M2)) (st_span h A1 (0 : Int32)).go) w_L_275 cw_L_span np_L_span (Nat.le_of_ble_eq_true rfl) (Nat.le_of_ble_eq_true rfl) (rm_c (by omega)) (rm_s (by omega)) rfl (Nat.le_of_ble_eq_true rfl) dL_law__2728 (q := 2731) rfl ?_
    rintro _ M9 ⟨k, rfl, h9⟩
    rcases h9 with ⟨rfl, h9⟩ | ⟨j, rfl, hj, h9⟩
    · skip
      refine T.ist_5 (q := 2733) dL_law__2731 rfl (by decide) sk_ok_i ?_
      refine T.ald_2 (q := 2734) dL_law__2733 rfl ?_
      refine T.ald_0 (q := 2735) dL_law__2734 rfl ?_
      refine T.ild_4 (q := 2737) dL_law__2735 rfl ?_
      refine T.iconst (q := 2738) (1) dL_law__2737 rfl (by decide) ?_
      refine T.iadd (q := 2739) dL_law__2738 rfl ?_
      refine T.sld hv.2.1 hA1 dL_law__2739 (q := 2740) rfl ?_
      refine T.ald_0 (q := 2741) dL_law__2740 rfl ?_
      refine T.ild_4 (q := 2743) dL_law__2741 rfl ?_
      refine T.iconst (q := 2744) (2) dL_law__2743 rfl (by decide) ?_
      refine T.iadd (q := 2745) dL_law__2744 rfl ?_
      refine T.sld hv.2.2.1 hA2 dL_law__2745 (q := 2746) rfl ?_
      refine T.if_eq (tgt := 2753) (q := 2749) dL_law__2746 (by decide) rfl (fun _ => ?_) (fun h8 => absurd z2719 h8)
      refine T.iconst (q := 2754) (0) dL_law__2753 rfl (by decide) ?_
      refine T.cV (As := [.int A1, .int (0 : Int32)]) (c := 140) (ci := 8) (C := RX8) (T := TX8) (N := 27) (t_X8_span h9) w_L_277 cw_X8_span np_X8_span rfl (by decide) rfl (by decide) rfl (Nat.le_of_ble_eq_true rfl) (Nat.le_of_ble_eq_true rfl) (rm_c (by omega)) (rm_s (by omega)) rfl (Nat.le_of_ble_eq_true rfl) dL_law__2754 (q := 2757) rfl ?_
      rintro _ M2 ⟨b9, rfl, e0, e1, hI⟩
      refine T.ist_6 (q := 2759) dL_law__2757 rfl (by decide) sk_ok_i ?_
      refine T.ald_2 (q := 2760) dL_law__2759 rfl ?_
      refine T.cV (As := []) (c := 140) (ci := 8) (C := RX8) (T := TX8) (N := 27) (t_X8_thrown (P := fun r9 => r9 = M2.1 140 0) rfl) w_L_149 cw_X8_thrown np_X8_thrown rfl (by decide) rfl (by decide) rfl (Nat.le_of_ble_eq_true rfl) (Nat.le_of_ble_eq_true rfl) (rm_c (by omega)) (rm_s (by omega)) rfl (Nat.le_of_ble_eq_true rfl) dL_law__2760 (q := 2763) rfl ?_
      rintro _ M3 ⟨r3, rfl, rfl, e9⟩
      obtain rfl := e9.symm
      refine T.ild_5 (q := 2765) dL_law__2763 rfl ?_
      refine T.ic_eq (tgt := 2770) (q := 2768) dL_law__2765 (by decide) rfl (fun _ => ?_) (fun h8 => absurd e0 h8)
      refine T.ild_5 (q := 2772) dL_law__2770 rfl ?_
      refine T.if_ne (tgt := 2787) (q := 2775) dL_law__2772 (by decide) rfl (fun h8 => absurd rfl h8) (fun _ => ?_)
      refine T.ald_3 (q := 2776) dL_law__2775 rfl ?_
      refine T.iconst (q := 2777) (0) dL_law__2776 rfl (by decide) ?_
      refine T.laldk (n := 1) rfl rfl (by decide) dL_law__2777 (q := 2778) rfl (k9 := 0) (by decide) ?_
      refine T.ild_6 (q := 2780) dL_law__2778 rfl ?_
      refine T.i2l (q := 2781) dL_law__2780 rfl ?_
      refine T.lcmp (q := 2782) dL_law__2781 rfl ?_
      refine T.if_eq (tgt := 2787) (q := 2785) dL_law__2782 (by decide) rfl (fun _ => ?_) (fun h8 => absurd (lgc e1) h8)
      refine T.goto (tgt := 2945) dL_law__2787 (by decide) ?_
      exact T.drop_5 (T.drop_6 (TJ.wide (by omega) (by omega) (kk _ hI)))
    · skip
      refine T.ist_5 (q := 2733) dL_law__2731 rfl (by decide) sk_ok_i ?_
      refine T.ald_2 (q := 2734) dL_law__2733 rfl ?_
      refine T.ald_0 (q := 2735) dL_law__2734 rfl ?_
      refine T.ild_4 (q := 2737) dL_law__2735 rfl ?_
      refine T.iconst (q := 2738) (1) dL_law__2737 rfl (by decide) ?_
      refine T.iadd (q := 2739) dL_law__2738 rfl ?_
      refine T.sld hv.2.1 hA1 dL_law__2739 (q := 2740) rfl ?_
      refine T.ald_0 (q := 2741) dL_law__2740 rfl ?_
      refine T.ild_4 (q := 2743) dL_law__2741 rfl ?_
      refine T.iconst (q := 2744) (2) dL_law__2743 rfl (by decide) ?_
      refine T.iadd (q := 2745) dL_law__2744 rfl ?_
      refine T.sld hv.2.2.1 hA2 dL_law__2745 (q := 2746) rfl ?_
      refine T.if_eq (tgt := 2753) (q := 2749) dL_law__2746 (by decide) rfl (fun _ => ?_) (fun h8 => absurd z2719 h8)
      refine T.iconst (q := 2754) (0) dL_law__2753 rfl (by decide) ?_
      refine T.cV (As := [.int A1, .int (0 : Int32)]) (c := 140) (ci := 8) (C := RX8) (T := TX8) (N := 27) (t_X8_span h9) w_L_277 cw_X8_span np_X8_span rfl (by decide) rfl (by decide) rfl (Nat.le_of_ble_eq_true rfl) (Nat.le_of_ble_eq_true rfl) (rm_c (by omega)) (rm_s (by omega)) rfl (Nat.le_of_ble_eq_true rfl) dL_law__2754 (q := 2757) rfl ?_
      rintro _ M2 ⟨b9, rfl, e0, hI⟩
      refine T.ist_6 (q := 2759) dL_law__2757 rfl (by decide) sk_ok_i ?_
      refine T.ald_2 (q := 2760) dL_law__2759 rfl ?_
      refine T.cV (As := []) (c := 140) (ci := 8) (C := RX8) (T := TX8) (N := 27) (t_X8_thrown (P := fun r9 => r9 = M2.1 140 0) rfl) w_L_149 cw_X8_thrown np_X8_thrown rfl (by decide) rfl (by decide) rfl (Nat.le_of_ble_eq_true rfl) (Nat.le_of_ble_eq_true rfl) (rm_c (by omega)) (rm_s (by omega)) rfl (Nat.le_of_ble_eq_true rfl) dL_law__2760 (q := 2763) rfl ?_
      rintro _ M3 ⟨r3, rfl, rfl, e9⟩
      obtain rfl := e9.symm
      refine T.ild_5 (q := 2765) dL_law__2763 rfl ?_
      refine T.ic_eq (tgt := 2770) (q := 2768) dL_law__2765 (by decide) rfl (fun _ => ?_) (fun h8 => absurd e0 h8)
      refine T.ild_5 (q := 2772) dL_law__2770 rfl ?_
      refine T.if_ne (tgt := 2787) (q := 2775) dL_law__2772 (by decide) rfl (fun _ => ?_) (fun h8 => absurd h8 (lnz hj))
      refine T.goto (tgt := 2945) dL_law__2787 (by decide) ?_
      exact T.drop_5 (T.drop_6 (TJ.wide (by omega) (by omega) (kk _ hI)))
  · skip
    refine T.iconst (q := 2723) (1) dL_law__2722 rfl (by decide) ?_
    refine T.goto (tgt := 2727) dL_law__2723 (by decide) ?_
    refine T.ald_3 (q := 2728) dL_law__2727 rfl ?_
    refine T.cSH (As := [.ref (G.2.2.1 120), .int A1, .int (1 : Int32), .ref (G.2.2.1 158)]) (rest := []) (t_L_span (Q0 := fun M1 => w_X8_span A1 (1 : Int32) M1 (fun b9 M2 => M2.1 140 0 = 0 ∧ M2.2 158 0 = b9.toInt64 ∧ Inv M2)) (QX := fun j M1 => w_X8_span A1 (1 : Int32) M1 (fun _ M2 => M2.1 140 0 = nI (j + 1) ∧ Inv M2)) (st_span h A1 (1 : Int32)).go) w_L_275 cw_L_span np_L_span (Nat.le_of_ble_eq_true rfl) (Nat.le_of_ble_eq_true rfl) (rm_c (by omega)) (rm_s (by omega)) rfl (Nat.le_of_ble_eq_true rfl) dL_law__2728 (q := 2731) rfl ?_
    rintro _ M9 ⟨k, rfl, h9⟩
    rcases h9 with ⟨rfl, h9⟩ | ⟨j, rfl, hj, h9⟩
    · skip
      refine T.ist_5 (q := 2733) dL_law__2731 rfl (by decide) sk_ok_i ?_
      refine T.ald_2 (q := 2734) dL_law__2733 rfl ?_
      refine T.ald_0 (q := 2735) dL_law__2734 rfl ?_
      refine T.ild_4 (q := 2737) dL_law__2735 rfl ?_
      refine T.iconst (q := 2738) (1) dL_law__2737 rfl (by decide) ?_
      refine T.iadd (q := 2739) dL_law__2738 rfl ?_
      refine T.sld hv.2.1 hA1 dL_law__2739 (q := 2740) rfl ?_
      refine T.ald_0 (q := 2741) dL_law__2740 rfl ?_
      refine T.ild_4 (q := 2743) dL_law__2741 rfl ?_
      refine T.iconst (q := 2744) (2) dL_law__2743 rfl (by decide) ?_
      refine T.iadd (q := 2745) dL_law__2744 rfl ?_
      refine T.sld hv.2.2.1 hA2 dL_law__2745 (q := 2746) rfl ?_
      refine T.if_eq (tgt := 2753) (q := 2749) dL_law__2746 (by decide) rfl (fun h8 => absurd h8 z2719) (fun _ => ?_)
      refine T.iconst (q := 2750) (1) dL_law__2749 rfl (by decide) ?_
      refine T.goto (tgt := 2754) dL_law__2750 (by decide) ?_
      refine T.cV (As := [.int A1, .int (1 : Int32)]) (c := 140) (ci := 8) (C := RX8) (T := TX8) (N := 27) (t_X8_span h9) w_L_277 cw_X8_span np_X8_span rfl (by decide) rfl (by decide) rfl (Nat.le_of_ble_eq_true rfl) (Nat.le_of_ble_eq_true rfl) (rm_c (by omega)) (rm_s (by omega)) rfl (Nat.le_of_ble_eq_true rfl) dL_law__2754 (q := 2757) rfl ?_
      rintro _ M2 ⟨b9, rfl, e0, e1, hI⟩
      refine T.ist_6 (q := 2759) dL_law__2757 rfl (by decide) sk_ok_i ?_
      refine T.ald_2 (q := 2760) dL_law__2759 rfl ?_
      refine T.cV (As := []) (c := 140) (ci := 8) (C := RX8) (T := TX8) (N := 27) (t_X8_thrown (P := fun r9 => r9 = M2.1 140 0) rfl) w_L_149 cw_X8_thrown np_X8_thrown rfl (by decide) rfl (by decide) rfl (Nat.le_of_ble_eq_true rfl) (Nat.le_of_ble_eq_true rfl) (rm_c (by omega)) (rm_s (by omega)) rfl (Nat.le_of_ble_eq_true rfl) dL_law__2760 (q := 2763) rfl ?_
      rintro _ M3 ⟨r3, rfl, rfl, e9⟩
      obtain rfl := e9.symm
      refine T.ild_5 (q := 2765) dL_law__2763 rfl ?_
      refine T.ic_eq (tgt := 2770) (q := 2768) dL_law__2765 (by decide) rfl (fun _ => ?_) (fun h8 => absurd e0 h8)
      refine T.ild_5 (q := 2772) dL_law__2770 rfl ?_
      refine T.if_ne (tgt := 2787) (q := 2775) dL_law__2772 (by decide) rfl (fun h8 => absurd rfl h8) (fun _ => ?_)
      refine T.ald_3 (q := 2776) dL_law__2775 rfl ?_
      refine T.iconst (q := 2777) (0) dL_law__2776 rfl (by decide) ?_
      refine T.laldk (n := 1) rfl rfl (by decide) dL_law__2777 (q := 2778) rfl (k9 := 0) (by decide) ?_
      refine T.ild_6 (q := 2780) dL_law__2778 rfl ?_
      refine T.i2l (q := 2781) dL_law__2780 rfl ?_
      refine T.lcmp (q := 2782) dL_law__2781 rfl ?_
      refine T.if_eq (tgt := 2787) (q := 2785) dL_law__2782 (by decide) rfl (fun _ => ?_) (fun h8 => absurd (lgc e1) h8)
      refine T.goto (tgt := 2945) dL_law__2787 (by decide) ?_
      exact T.drop_5 (T.drop_6 (TJ.wide (by omega) (by omega) (kk _ hI)))
    · skip
      refine T.ist_5 (q := 2733) dL_law__2731 rfl (by decide) sk_ok_i ?_
      refine T.ald_2 (q := 2734) dL_law__2733 rfl ?_
      refine T.ald_0 (q := 2735) dL_law__2734 rfl ?_
      refine T.ild_4 (q := 2737) dL_law__2735 rfl ?_
      refine T.iconst (q := 2738) (1) dL_law__2737 rfl (by decide) ?_
      refine T.iadd (q := 2739) dL_law__2738 rfl ?_
      refine T.sld hv.2.1 hA1 dL_law__2739 (q := 2740) rfl ?_
      refine T.ald_0 (q := 2741) dL_law__2740 rfl ?_
      refine T.ild_4 (q := 2743) dL_law__2741 rfl ?_
      refine T.iconst (q := 2744) (2) dL_law__2743 rfl (by decide) ?_
      refine T.iadd (q := 2745) dL_law__2744 rfl ?_
      refine T.sld hv.2.2.1 hA2 dL_law__2745 (q := 2746) rfl ?_
      refine T.if_eq (tgt := 2753) (q := 2749) dL_law__2746 (by decide) rfl (fun h8 => absurd h8 z2719) (fun _ => ?_)
      refine T.iconst (q := 2750) (1) dL_law__2749 rfl (by decide) ?_
      refine T.goto (tgt := 2754) dL_law__2750 (by decide) ?_
      refine T.cV (As := [.int A1, .int (1 : Int32)]) (c := 140) (ci := 8) (C := RX8) (T := TX8) (N := 27) (t_X8_span h9) w_L_277 cw_X8_span np_X8_span rfl (by decide) rfl (by decide) rfl (Nat.le_of_ble_eq_true rfl) (Nat.le_of_ble_eq_true rfl) (rm_c (by omega)) (rm_s (by omega)) rfl (Nat.le_of_ble_eq_true rfl) dL_law__2754 (q := 2757) rfl ?_
      rintro _ M2 ⟨b9, rfl, e0, hI⟩
      refine T.ist_6 (q := 2759) dL_law__2757 rfl (by decide) sk_ok_i ?_
      refine T.ald_2 (q := 2760) dL_law__2759 rfl ?_
      refine T.cV (As := []) (c := 140) (ci := 8) (C := RX8) (T := TX8) (N := 27) (t_X8_thrown (P := fun r9 => r9 = M2.1 140 0) rfl) w_L_149 cw_X8_thrown np_X8_thrown rfl (by decide) rfl (by decide) rfl (Nat.le_of_ble_eq_true rfl) (Nat.le_of_ble_eq_true rfl) (rm_c (by omega)) (rm_s (by omega)) rfl (Nat.le_of_ble_eq_true rfl) dL_law__2760 (q := 2763) rfl ?_
      rintro _ M3 ⟨r3, rfl, rfl, e9⟩
      obtain rfl := e9.symm
      refine T.ild_5 (q := 2765) dL_law__2763 rfl ?_
      refine T.ic_eq (tgt := 2770) (q := 2768) dL_law__2765 (by decide) rfl (fun _ => ?_) (fun h8 => absurd e0 h8)
      refine T.ild_5 (q := 2772) dL_law__2770 rfl ?_
      refine T.if_ne (tgt := 2787) (q := 2775) dL_law__2772 (by decide) rfl (fun _ => ?_) (fun h8 => absurd h8 (lnz hj))
      refine T.goto (tgt := 2945) dL_law__2787 (by decide) ?_
      exact T.drop_5 (T.drop_6 (TJ.wide (by omega) (by omega) (kk _ hI)))
theorem lwc_41 {G : sk_G} {b L : Nat} {ys : Nat → Int32} {M : sk_M} {i : Int32} {cells slots : Nat} (h : Inv M) (hv : lwv i L) (hc : cells + 8 ≤ 601024) (hs : slots + 48 ≤ 7293033) (kk : ∀ M0, Inv M0 → TJ G mL_law_ room_1 (lw_E G b L ys) (cells + 8) (slots + 48) 2945 [some (.ref b), some (.ref (G.2.2.1 120)), some (.ref (G.2.2.1 140)), some (.ref (G.2.2.1 158)), some (.int i), none, none] [] M0) : TJ G mL_law_ room_1 (lw_E G b L ys) cells slots 2790 [some (.ref b), some (.ref (G.2.2.1 120)), some (.ref (G.2.2.1 140)), some (.ref (G.2.2.1 158)), some (.int i), none, none] [] M := by
  obtain ⟨A1, hA1⟩ : ∃ z, z = ys (i + 1).toNatClampNeg := ⟨_, rfl⟩
  obtain ⟨A2, hA2⟩ : ∃ z, z = ys (i + 2).toNatClampNeg := ⟨_, rfl⟩
  obtain ⟨A3, hA3⟩ : ∃ z, z = ys (i + 3).toNatClampNeg := ⟨_, rfl⟩
  obtain ⟨A4, hA4⟩ : ∃ z, z = ys (i + 4).toNatClampNeg := ⟨_, rfl⟩
  obtain ⟨A5, hA5⟩ : ∃ z, z = ys (i + 5).toNatClampNeg := ⟨_, rfl⟩
  refine T.ald_1 (q := 2791) dL_law__2790 rfl ?_
  refine T.ald_0 (q := 2792) dL_law__2791 rfl ?_
  refine T.ild_4 (q := 2794) dL_law__2792 rfl ?_
  refine T.iconst (q := 2795) (1) dL_law__2794 rfl (by decide) ?_
  refine T.iadd (q := 2796) dL_law__2795 rfl ?_
  refine T.sld hv.2.1 hA1 dL_law__2796 (q := 2797) rfl ?_
  refine T.ald_0 (q := 2798) dL_law__2797 rfl ?_
  refine T.ild_4 (q := 2800) dL_law__2798 rfl ?_
  refine T.iconst (q := 2801) (2) dL_law__2800 rfl (by decide) ?_
  refine T.iadd (q := 2802) dL_law__2801 rfl ?_
  refine T.sld hv.2.2.1 hA2 dL_law__2802 (q := 2803) rfl ?_
  refine T.ald_3 (q := 2804) dL_law__2803 rfl ?_
  refine T.cSH (As := [.ref (G.2.2.1 120), .int A1, .int A2, .ref (G.2.2.1 158)]) (rest := []) (t_L_log (Q0 := fun M1 => w_X8_log A1 A2 M1 (fun b9 M2 => M2.1 140 0 = 0 ∧ M2.2 158 0 = b9.toInt64 ∧ Inv M2)) (QX := fun j M1 => w_X8_log A1 A2 M1 (fun _ M2 => M2.1 140 0 = nI (j + 1) ∧ Inv M2)) (st_log h A1 A2).go) w_L_278 cw_L_log np_L_log (Nat.le_of_ble_eq_true rfl) (Nat.le_of_ble_eq_true rfl) (rm_c (by omega)) (rm_s (by omega)) rfl (Nat.le_of_ble_eq_true rfl) dL_law__2804 (q := 2807) rfl ?_
  rintro _ M9 ⟨k, rfl, h9⟩
  rcases h9 with ⟨rfl, h9⟩ | ⟨j, rfl, hj, h9⟩
  · skip
    refine T.ist_5 (q := 2809) dL_law__2807 rfl (by decide) sk_ok_i ?_
    refine T.ald_2 (q := 2810) dL_law__2809 rfl ?_
    refine T.ald_0 (q := 2811) dL_law__2810 rfl ?_
    refine T.ild_4 (q := 2813) dL_law__2811 rfl ?_
    refine T.iconst (q := 2814) (1) dL_law__2813 rfl (by decide) ?_
    refine T.iadd (q := 2815) dL_law__2814 rfl ?_
    refine T.sld hv.2.1 hA1 dL_law__2815 (q := 2816) rfl ?_
    refine T.ald_0 (q := 2817) dL_law__2816 rfl ?_
    refine T.ild_4 (q := 2819) dL_law__2817 rfl ?_
    refine T.iconst (q := 2820) (2) dL_law__2819 rfl (by decide) ?_
    refine T.iadd (q := 2821) dL_law__2820 rfl ?_
    refine T.sld hv.2.2.1 hA2 dL_law__2821 (q := 2822) rfl ?_
    refine T.cV (As := [.int A1, .int A2]) (c := 140) (ci := 8) (C := RX8) (T := TX8) (N := 27) (t_X8_log h9) w_L_280 cw_X8_log np_X8_log rfl (by decide) rfl (by decide) rfl (Nat.le_of_ble_eq_true rfl) (Nat.le_of_ble_eq_true rfl) (rm_c (by omega)) (rm_s (by omega)) rfl (Nat.le_of_ble_eq_true rfl) dL_law__2822 (q := 2825) rfl ?_
    rintro _ M2 ⟨b9, rfl, e0, e1, hI⟩
    refine T.ist_6 (q := 2827) dL_law__2825 rfl (by decide) sk_ok_i ?_
    refine T.ald_2 (q := 2828) dL_law__2827 rfl ?_
    refine T.cV (As := []) (c := 140) (ci := 8) (C := RX8) (T := TX8) (N := 27) (t_X8_thrown (P := fun r9 => r9 = M2.1 140 0) rfl) w_L_149 cw_X8_thrown np_X8_thrown rfl (by decide) rfl (by decide) rfl (Nat.le_of_ble_eq_true rfl) (Nat.le_of_ble_eq_true rfl) (rm_c (by omega)) (rm_s (by omega)) rfl (Nat.le_of_ble_eq_true rfl) dL_law__2828 (q := 2831) rfl ?_
    rintro _ M3 ⟨r3, rfl, rfl, e9⟩
    obtain rfl := e9.symm
    refine T.ild_5 (q := 2833) dL_law__2831 rfl ?_
    refine T.ic_eq (tgt := 2838) (q := 2836) dL_law__2833 (by decide) rfl (fun _ => ?_) (fun h8 => absurd e0 h8)
    refine T.ild_5 (q := 2840) dL_law__2838 rfl ?_
    refine T.if_ne (tgt := 2855) (q := 2843) dL_law__2840 (by decide) rfl (fun h8 => absurd rfl h8) (fun _ => ?_)
    refine T.ald_3 (q := 2844) dL_law__2843 rfl ?_
    refine T.iconst (q := 2845) (0) dL_law__2844 rfl (by decide) ?_
    refine T.laldk (n := 1) rfl rfl (by decide) dL_law__2845 (q := 2846) rfl (k9 := 0) (by decide) ?_
    refine T.ild_6 (q := 2848) dL_law__2846 rfl ?_
    refine T.i2l (q := 2849) dL_law__2848 rfl ?_
    refine T.lcmp (q := 2850) dL_law__2849 rfl ?_
    refine T.if_eq (tgt := 2855) (q := 2853) dL_law__2850 (by decide) rfl (fun _ => ?_) (fun h8 => absurd (lgc e1) h8)
    refine T.goto (tgt := 2945) dL_law__2855 (by decide) ?_
    exact T.drop_5 (T.drop_6 (TJ.wide (by omega) (by omega) (kk _ hI)))
  · skip
    refine T.ist_5 (q := 2809) dL_law__2807 rfl (by decide) sk_ok_i ?_
    refine T.ald_2 (q := 2810) dL_law__2809 rfl ?_
    refine T.ald_0 (q := 2811) dL_law__2810 rfl ?_
    refine T.ild_4 (q := 2813) dL_law__2811 rfl ?_
    refine T.iconst (q := 2814) (1) dL_law__2813 rfl (by decide) ?_
    refine T.iadd (q := 2815) dL_law__2814 rfl ?_
    refine T.sld hv.2.1 hA1 dL_law__2815 (q := 2816) rfl ?_
    refine T.ald_0 (q := 2817) dL_law__2816 rfl ?_
    refine T.ild_4 (q := 2819) dL_law__2817 rfl ?_
    refine T.iconst (q := 2820) (2) dL_law__2819 rfl (by decide) ?_
    refine T.iadd (q := 2821) dL_law__2820 rfl ?_
    refine T.sld hv.2.2.1 hA2 dL_law__2821 (q := 2822) rfl ?_
    refine T.cV (As := [.int A1, .int A2]) (c := 140) (ci := 8) (C := RX8) (T := TX8) (N := 27) (t_X8_log h9) w_L_280 cw_X8_log np_X8_log rfl (by decide) rfl (by decide) rfl (Nat.le_of_ble_eq_true rfl) (Nat.le_of_ble_eq_true rfl) (rm_c (by omega)) (rm_s (by omega)) rfl (Nat.le_of_ble_eq_true rfl) dL_law__2822 (q := 2825) rfl ?_
    rintro _ M2 ⟨b9, rfl, e0, hI⟩
    refine T.ist_6 (q := 2827) dL_law__2825 rfl (by decide) sk_ok_i ?_
    refine T.ald_2 (q := 2828) dL_law__2827 rfl ?_
    refine T.cV (As := []) (c := 140) (ci := 8) (C := RX8) (T := TX8) (N := 27) (t_X8_thrown (P := fun r9 => r9 = M2.1 140 0) rfl) w_L_149 cw_X8_thrown np_X8_thrown rfl (by decide) rfl (by decide) rfl (Nat.le_of_ble_eq_true rfl) (Nat.le_of_ble_eq_true rfl) (rm_c (by omega)) (rm_s (by omega)) rfl (Nat.le_of_ble_eq_true rfl) dL_law__2828 (q := 2831) rfl ?_
    rintro _ M3 ⟨r3, rfl, rfl, e9⟩
    obtain rfl := e9.symm
    refine T.ild_5 (q := 2833) dL_law__2831 rfl ?_
    refine T.ic_eq (tgt := 2838) (q := 2836) dL_law__2833 (by decide) rfl (fun _ => ?_) (fun h8 => absurd e0 h8)
    refine T.ild_5 (q := 2840) dL_law__2838 rfl ?_
    refine T.if_ne (tgt := 2855) (q := 2843) dL_law__2840 (by decide) rfl (fun _ => ?_) (fun h8 => absurd h8 (lnz hj))
    refine T.goto (tgt := 2945) dL_law__2855 (by decide) ?_
    exact T.drop_5 (T.drop_6 (TJ.wide (by omega) (by omega) (kk _ hI)))
theorem lwc_42 {G : sk_G} {b L : Nat} {ys : Nat → Int32} {M : sk_M} {i : Int32} {cells slots : Nat} (h : Inv M) (hv : lwv i L) (hc : cells + 8 ≤ 601024) (hs : slots + 48 ≤ 7293033) (kk : ∀ M0, Inv M0 → TJ G mL_law_ room_1 (lw_E G b L ys) (cells + 8) (slots + 48) 2945 [some (.ref b), some (.ref (G.2.2.1 120)), some (.ref (G.2.2.1 140)), some (.ref (G.2.2.1 158)), some (.int i), none, none] [] M0) : TJ G mL_law_ room_1 (lw_E G b L ys) cells slots 2858 [some (.ref b), some (.ref (G.2.2.1 120)), some (.ref (G.2.2.1 140)), some (.ref (G.2.2.1 158)), some (.int i), none, none] [] M := by
  obtain ⟨A1, hA1⟩ : ∃ z, z = ys (i + 1).toNatClampNeg := ⟨_, rfl⟩
  obtain ⟨A2, hA2⟩ : ∃ z, z = ys (i + 2).toNatClampNeg := ⟨_, rfl⟩
  obtain ⟨A3, hA3⟩ : ∃ z, z = ys (i + 3).toNatClampNeg := ⟨_, rfl⟩
  obtain ⟨A4, hA4⟩ : ∃ z, z = ys (i + 4).toNatClampNeg := ⟨_, rfl⟩
  obtain ⟨A5, hA5⟩ : ∃ z, z = ys (i + 5).toNatClampNeg := ⟨_, rfl⟩
  refine T.ald_1 (q := 2859) dL_law__2858 rfl ?_
  refine T.ald_0 (q := 2860) dL_law__2859 rfl ?_
  refine T.ild_4 (q := 2862) dL_law__2860 rfl ?_
  refine T.iconst (q := 2863) (1) dL_law__2862 rfl (by decide) ?_
  refine T.iadd (q := 2864) dL_law__2863 rfl ?_
  refine T.sld hv.2.1 hA1 dL_law__2864 (q := 2865) rfl ?_
  refine T.cV (As := [.int A1]) (c := 120) (ci := 7) (C := RX7) (T := TX7) (N := 9) (t_X7_seed (Q := fun r M1 => w_X8_seed A1 M1 (fun b9 M2 => r = b9 ∧ Inv M2)) (st_seed h A1).go) w_L_281 cw_X7_seed np_X7_seed rfl (by decide) rfl (by decide) rfl (Nat.le_of_ble_eq_true rfl) (Nat.le_of_ble_eq_true rfl) (rm_c (by omega)) (rm_s (by omega)) rfl (Nat.le_of_ble_eq_true rfl) dL_law__2865 (q := 2868) rfl ?_
  rintro _ M9 ⟨r, rfl, h9⟩
  refine T.ald_2 (q := 2869) dL_law__2868 rfl ?_
  refine T.ald_0 (q := 2870) dL_law__2869 rfl ?_
  refine T.ild_4 (q := 2872) dL_law__2870 rfl ?_
  refine T.iconst (q := 2873) (1) dL_law__2872 rfl (by decide) ?_
  refine T.iadd (q := 2874) dL_law__2873 rfl ?_
  refine T.sld hv.2.1 hA1 dL_law__2874 (q := 2875) rfl ?_
  refine T.cV (As := [.int A1]) (c := 140) (ci := 8) (C := RX8) (T := TX8) (N := 27) (t_X8_seed h9) w_L_284 cw_X8_seed np_X8_seed rfl (by decide) rfl (by decide) rfl (Nat.le_of_ble_eq_true rfl) (Nat.le_of_ble_eq_true rfl) (rm_c (by omega)) (rm_s (by omega)) rfl (Nat.le_of_ble_eq_true rfl) dL_law__2875 (q := 2878) rfl ?_
  rintro _ M2 ⟨b9, rfl, e0, hI⟩
  refine T.ic_eq (tgt := 2945) (q := 2881) dL_law__2878 (by decide) rfl (fun _ => ?_) (fun h8 => absurd e0 h8)
  exact TJ.wide (by omega) (by omega) (kk _ hI)
theorem lwc_43 {G : sk_G} {b L : Nat} {ys : Nat → Int32} {M : sk_M} {i : Int32} {cells slots : Nat} (h : Inv M) (hv : lwv i L) (hc : cells + 8 ≤ 601024) (hs : slots + 48 ≤ 7293033) (kk : ∀ M0, Inv M0 → TJ G mL_law_ room_1 (lw_E G b L ys) (cells + 8) (slots + 48) 2945 [some (.ref b), some (.ref (G.2.2.1 120)), some (.ref (G.2.2.1 140)), some (.ref (G.2.2.1 158)), some (.int i), none, none] [] M0) : TJ G mL_law_ room_1 (lw_E G b L ys) cells slots 2883 [some (.ref b), some (.ref (G.2.2.1 120)), some (.ref (G.2.2.1 140)), some (.ref (G.2.2.1 158)), some (.int i), none, none] [] M := by
  obtain ⟨A1, hA1⟩ : ∃ z, z = ys (i + 1).toNatClampNeg := ⟨_, rfl⟩
  obtain ⟨A2, hA2⟩ : ∃ z, z = ys (i + 2).toNatClampNeg := ⟨_, rfl⟩
  obtain ⟨A3, hA3⟩ : ∃ z, z = ys (i + 3).toNatClampNeg := ⟨_, rfl⟩
  obtain ⟨A4, hA4⟩ : ∃ z, z = ys (i + 4).toNatClampNeg := ⟨_, rfl⟩
  obtain ⟨A5, hA5⟩ : ∃ z, z = ys (i + 5).toNatClampNeg := ⟨_, rfl⟩
  refine T.ald_1 (q := 2884) dL_law__2883 rfl ?_
  refine T.cV (As := []) (c := 120) (ci := 7) (C := RX7) (T := TX7) (N := 9) (t_X7_undo (Q := fun r M1 => w_X8_undo M1 (fun b9 M2 => r = b9 ∧ Inv M2)) (st_undo h ).go) w_L_285 cw_X7_undo np_X7_undo rfl (by decide) rfl (by decide) rfl (Nat.le_of_ble_eq_true rfl) (Nat.le_of_ble_eq_true rfl) (rm_c (by omega)) (rm_s (by omega)) rfl (Nat.le_of_ble_eq_true rfl) dL_law__2884 (q := 2887) rfl ?_
  rintro _ M9 ⟨r, rfl, h9⟩
  refine T.ald_2 (q := 2888) dL_law__2887 rfl ?_
  refine T.cV (As := []) (c := 140) (ci := 8) (C := RX8) (T := TX8) (N := 27) (t_X8_undo h9) w_L_289 cw_X8_undo np_X8_undo rfl (by decide) rfl (by decide) rfl (Nat.le_of_ble_eq_true rfl) (Nat.le_of_ble_eq_true rfl) (rm_c (by omega)) (rm_s (by omega)) rfl (Nat.le_of_ble_eq_true rfl) dL_law__2888 (q := 2891) rfl ?_
  rintro _ M2 ⟨b9, rfl, e0, hI⟩
  refine T.ic_eq (tgt := 2945) (q := 2894) dL_law__2891 (by decide) rfl (fun _ => ?_) (fun h8 => absurd e0 h8)
  exact TJ.wide (by omega) (by omega) (kk _ hI)
theorem lwc_44 {G : sk_G} {b L : Nat} {ys : Nat → Int32} {M : sk_M} {i : Int32} {cells slots : Nat} (h : Inv M) (hv : lwv i L) (hc : cells + 8 ≤ 601024) (hs : slots + 48 ≤ 7293033) (kk : ∀ M0, Inv M0 → TJ G mL_law_ room_1 (lw_E G b L ys) (cells + 8) (slots + 48) 2945 [some (.ref b), some (.ref (G.2.2.1 120)), some (.ref (G.2.2.1 140)), some (.ref (G.2.2.1 158)), some (.int i), none, none] [] M0) : TJ G mL_law_ room_1 (lw_E G b L ys) cells slots 2896 [some (.ref b), some (.ref (G.2.2.1 120)), some (.ref (G.2.2.1 140)), some (.ref (G.2.2.1 158)), some (.int i), none, none] [] M := by
  obtain ⟨A1, hA1⟩ : ∃ z, z = ys (i + 1).toNatClampNeg := ⟨_, rfl⟩
  obtain ⟨A2, hA2⟩ : ∃ z, z = ys (i + 2).toNatClampNeg := ⟨_, rfl⟩
  obtain ⟨A3, hA3⟩ : ∃ z, z = ys (i + 3).toNatClampNeg := ⟨_, rfl⟩
  obtain ⟨A4, hA4⟩ : ∃ z, z = ys (i + 4).toNatClampNeg := ⟨_, rfl⟩
  obtain ⟨A5, hA5⟩ : ∃ z, z = ys (i + 5).toNatClampNeg := ⟨_, rfl⟩
  refine T.ald_1 (q := 2897) dL_law__2896 rfl ?_
  refine T.cV (As := []) (c := 120) (ci := 7) (C := RX7) (T := TX7) (N := 9) (t_X7_image (st_image h)) w_L_290 cw_X7_image np_X7_image rfl (by decide) rfl (by decide) rfl (Nat.le_of_ble_eq_true rfl) (Nat.le_of_ble_eq_true rfl) (rm_c (by omega)) (rm_s (by omega)) rfl (Nat.le_of_ble_eq_true rfl) dL_law__2897 (q := 2900) rfl ?_
  rintro _ M9 ⟨rfl, h9⟩
  refine T.ald_2 (q := 2901) dL_law__2900 rfl ?_
  refine T.cV (As := []) (c := 140) (ci := 8) (C := RX8) (T := TX8) (N := 27) (t_X8_image h9) w_L_293 cw_X8_image np_X8_image rfl (by decide) rfl (by decide) rfl (Nat.le_of_ble_eq_true rfl) (Nat.le_of_ble_eq_true rfl) (rm_c (by omega)) (rm_s (by omega)) rfl (Nat.le_of_ble_eq_true rfl) dL_law__2901 (q := 2904) rfl ?_
  rintro _ M2 ⟨rfl, hI⟩
  refine T.goto (tgt := 2945) dL_law__2904 (by decide) ?_
  exact TJ.wide (by omega) (by omega) (kk _ hI)
theorem lwc_45 {G : sk_G} {b L : Nat} {ys : Nat → Int32} {M : sk_M} {i : Int32} {cells slots : Nat} (h : Inv M) (hv : lwv i L) (hc : cells + 8 ≤ 601024) (hs : slots + 48 ≤ 7293033) (kk : ∀ M0, Inv M0 → TJ G mL_law_ room_1 (lw_E G b L ys) (cells + 8) (slots + 48) 2945 [some (.ref b), some (.ref (G.2.2.1 120)), some (.ref (G.2.2.1 140)), some (.ref (G.2.2.1 158)), some (.int i), none, none] [] M0) : TJ G mL_law_ room_1 (lw_E G b L ys) cells slots 2907 [some (.ref b), some (.ref (G.2.2.1 120)), some (.ref (G.2.2.1 140)), some (.ref (G.2.2.1 158)), some (.int i), none, none] [] M := by
  obtain ⟨A1, hA1⟩ : ∃ z, z = ys (i + 1).toNatClampNeg := ⟨_, rfl⟩
  obtain ⟨A2, hA2⟩ : ∃ z, z = ys (i + 2).toNatClampNeg := ⟨_, rfl⟩
  obtain ⟨A3, hA3⟩ : ∃ z, z = ys (i + 3).toNatClampNeg := ⟨_, rfl⟩
  obtain ⟨A4, hA4⟩ : ∃ z, z = ys (i + 4).toNatClampNeg := ⟨_, rfl⟩
  obtain ⟨A5, hA5⟩ : ∃ z, z = ys (i + 5).toNatClampNeg := ⟨_, rfl⟩
  refine T.ald_1 (q := 2908) dL_law__2907 rfl ?_
  refine T.cV (As := []) (c := 120) (ci := 7) (C := RX7) (T := TX7) (N := 9) (t_X7_back (Q := fun r M1 => w_X8_back M1 (fun b9 M2 => r = b9 ∧ Inv M2)) (st_back h ).go) w_L_294 cw_X7_back np_X7_back rfl (by decide) rfl (by decide) rfl (Nat.le_of_ble_eq_true rfl) (Nat.le_of_ble_eq_true rfl) (rm_c (by omega)) (rm_s (by omega)) rfl (Nat.le_of_ble_eq_true rfl) dL_law__2908 (q := 2911) rfl ?_
  rintro _ M9 ⟨r, rfl, h9⟩
  refine T.ald_2 (q := 2912) dL_law__2911 rfl ?_
  refine T.cV (As := []) (c := 140) (ci := 8) (C := RX8) (T := TX8) (N := 27) (t_X8_back h9) w_L_297 cw_X8_back np_X8_back rfl (by decide) rfl (by decide) rfl (Nat.le_of_ble_eq_true rfl) (Nat.le_of_ble_eq_true rfl) (rm_c (by omega)) (rm_s (by omega)) rfl (Nat.le_of_ble_eq_true rfl) dL_law__2912 (q := 2915) rfl ?_
  rintro _ M2 ⟨b9, rfl, e0, hI⟩
  refine T.ic_eq (tgt := 2945) (q := 2918) dL_law__2915 (by decide) rfl (fun _ => ?_) (fun h8 => absurd e0 h8)
  exact TJ.wide (by omega) (by omega) (kk _ hI)
theorem lwc_46 {G : sk_G} {b L : Nat} {ys : Nat → Int32} {M : sk_M} {i : Int32} {cells slots : Nat} (h : Inv M) (hv : lwv i L) (hc : cells + 8 ≤ 601024) (hs : slots + 48 ≤ 7293033) (kk : ∀ M0, Inv M0 → TJ G mL_law_ room_1 (lw_E G b L ys) (cells + 8) (slots + 48) 2945 [some (.ref b), some (.ref (G.2.2.1 120)), some (.ref (G.2.2.1 140)), some (.ref (G.2.2.1 158)), some (.int i), none, none] [] M0) : TJ G mL_law_ room_1 (lw_E G b L ys) cells slots 2920 [some (.ref b), some (.ref (G.2.2.1 120)), some (.ref (G.2.2.1 140)), some (.ref (G.2.2.1 158)), some (.int i), none, none] [] M := by
  obtain ⟨A1, hA1⟩ : ∃ z, z = ys (i + 1).toNatClampNeg := ⟨_, rfl⟩
  obtain ⟨A2, hA2⟩ : ∃ z, z = ys (i + 2).toNatClampNeg := ⟨_, rfl⟩
  obtain ⟨A3, hA3⟩ : ∃ z, z = ys (i + 3).toNatClampNeg := ⟨_, rfl⟩
  obtain ⟨A4, hA4⟩ : ∃ z, z = ys (i + 4).toNatClampNeg := ⟨_, rfl⟩
  obtain ⟨A5, hA5⟩ : ∃ z, z = ys (i + 5).toNatClampNeg := ⟨_, rfl⟩
  refine T.ald_1 (q := 2921) dL_law__2920 rfl ?_
  refine T.ald_0 (q := 2922) dL_law__2921 rfl ?_
  refine T.ild_4 (q := 2924) dL_law__2922 rfl ?_
  refine T.iconst (q := 2925) (1) dL_law__2924 rfl (by decide) ?_
  refine T.iadd (q := 2926) dL_law__2925 rfl ?_
  refine T.sld hv.2.1 hA1 dL_law__2926 (q := 2927) rfl ?_
  refine T.cV (As := [.int A1]) (c := 120) (ci := 7) (C := RX7) (T := TX7) (N := 9) (t_X7_count (Q := fun r => w_X8_count A1 M (fun b9 M2 => r = b9 ∧ Inv M2)) (st_count h A1).go) w_L_298 cw_X7_count np_X7_count rfl (by decide) rfl (by decide) rfl (Nat.le_of_ble_eq_true rfl) (Nat.le_of_ble_eq_true rfl) (rm_c (by omega)) (rm_s (by omega)) rfl (Nat.le_of_ble_eq_true rfl) dL_law__2927 (q := 2930) rfl ?_
  rintro _ M9 ⟨r, rfl, h9, e9⟩
  obtain rfl := e9.symm
  refine T.ald_2 (q := 2931) dL_law__2930 rfl ?_
  refine T.ald_0 (q := 2932) dL_law__2931 rfl ?_
  refine T.ild_4 (q := 2934) dL_law__2932 rfl ?_
  refine T.iconst (q := 2935) (1) dL_law__2934 rfl (by decide) ?_
  refine T.iadd (q := 2936) dL_law__2935 rfl ?_
  refine T.sld hv.2.1 hA1 dL_law__2936 (q := 2937) rfl ?_
  refine T.cV (As := [.int A1]) (c := 140) (ci := 8) (C := RX8) (T := TX8) (N := 27) (t_X8_count h9) w_L_301 cw_X8_count np_X8_count rfl (by decide) rfl (by decide) rfl (Nat.le_of_ble_eq_true rfl) (Nat.le_of_ble_eq_true rfl) (rm_c (by omega)) (rm_s (by omega)) rfl (Nat.le_of_ble_eq_true rfl) dL_law__2937 (q := 2940) rfl ?_
  rintro _ M2 ⟨b9, rfl, e0, hI⟩
  refine T.ic_eq (tgt := 2945) (q := 2943) dL_law__2940 (by decide) rfl (fun _ => ?_) (fun h8 => absurd e0 h8)
  exact TJ.wide (by omega) (by omega) (kk _ hI)
