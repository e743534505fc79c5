theorem z_ix {i0 Ln j : Nat} (h : i0 + 6 ≤ Ln) (hL : Ln ≤ 3072) (hj : j < 6) : vp_in (nI i0 + nI j) Ln := by
  rw [nI_add]
  exact vp_in_nI (by omega) (by omega)
set_option maxRecDepth 100000 in
set_option maxHeartbeats 4000000 in
theorem w_status_case {Rel : z_I → z_L → z_I → z_L → Prop} (hs : s_status Rel) {b Ln : Nat} {xs : Nat → Int32} {I : z_I} {L : z_L} {J : z_I} {K : z_L} (hR : Rel I L J K) {v3 : Int32} {i0 : Nat} (e3 : nI i0 = v3) (h6 : i0 + 6 ≤ Ln) (hL : Ln ≤ 3072) (nx9 : ∀ (I : z_I) (L : z_L) (J : z_I) (K : z_L), Rel I L J K → z_V b Ln xs 1842 [(0, .ref 1), (1, .ref 2), (2, .ref 3), (3, .int v3)] [] I L J K) : z_V b Ln xs 268 [(0, .ref 1), (1, .ref 2), (2, .ref 3), (3, .int v3)] [] I L J K := by
  refine w_aload_n 1 dL_law_268 rfl rfl ?_
  obtain ⟨hE, hR1⟩ := hs I L J K  hR
  refine w_callXi [] (c_X10_status (I := I) (L := L) ) dL_law_269 lk_L_13 rfl cd_X10_status rfl rfl rfl (Nat.le_of_ble_eq_true rfl) ⟨rfl, rfl, Nat.le_of_ble_eq_true rfl, Nat.le_of_ble_eq_true rfl⟩ ?_
  refine w_aload_n 2 dL_law_272 rfl rfl ?_
  refine w_callMi [] (c_X11_status (I := J) (L := K) ) dL_law_273 lk_L_17 rfl cd_X11_status rfl rfl rfl (Nat.le_of_ble_eq_true rfl) ⟨rfl, rfl, Nat.le_of_ble_eq_true rfl, Nat.le_of_ble_eq_true rfl⟩ ?_
  refine w_icmp_eq 1842 dL_law_276 (by decide) (fun _ => nx9 _ _ _ _ hR1) (fun h => absurd hE h)
set_option maxRecDepth 100000 in
set_option maxHeartbeats 4000000 in
theorem w_top_case {Rel : z_I → z_L → z_I → z_L → Prop} (hs : s_top Rel) {b Ln : Nat} {xs : Nat → Int32} {I : z_I} {L : z_L} {J : z_I} {K : z_L} (hR : Rel I L J K) {v3 : Int32} {i0 : Nat} (e3 : nI i0 = v3) (h6 : i0 + 6 ≤ Ln) (hL : Ln ≤ 3072) (nx9 : ∀ (I : z_I) (L : z_L) (J : z_I) (K : z_L), Rel I L J K → z_V b Ln xs 1842 [(0, .ref 1), (1, .ref 2), (2, .ref 3), (3, .int v3)] [] I L J K) : z_V b Ln xs 281 [(0, .ref 1), (1, .ref 2), (2, .ref 3), (3, .int v3)] [] I L J K := by
  refine w_aload_n 1 dL_law_281 rfl rfl ?_
  obtain ⟨hE, hR1⟩ := hs I L J K  hR
  refine w_callXl [] (c_X10_top (I := I) (L := L) ) dL_law_282 lk_L_18 rfl cd_X10_top rfl rfl rfl (Nat.le_of_ble_eq_true rfl) ⟨rfl, rfl, Nat.le_of_ble_eq_true rfl, Nat.le_of_ble_eq_true rfl⟩ ?_
  refine w_aload_n 2 dL_law_285 rfl rfl ?_
  refine w_callMl [] (c_X11_top (I := J) (L := K) ) dL_law_286 lk_L_22 rfl cd_X11_top rfl rfl rfl (Nat.le_of_ble_eq_true rfl) ⟨rfl, rfl, Nat.le_of_ble_eq_true rfl, Nat.le_of_ble_eq_true rfl⟩ ?_
  refine w_lcmp_eq 1842 dL_law_289 dL_law_290 (by decide) (fun _ => nx9 _ _ _ _ hR1) (fun h => absurd hE h)
set_option maxRecDepth 100000 in
set_option maxHeartbeats 4000000 in
theorem w_bottom_case {Rel : z_I → z_L → z_I → z_L → Prop} (hs : s_bottom Rel) {b Ln : Nat} {xs : Nat → Int32} {I : z_I} {L : z_L} {J : z_I} {K : z_L} (hR : Rel I L J K) {v3 : Int32} {i0 : Nat} (e3 : nI i0 = v3) (h6 : i0 + 6 ≤ Ln) (hL : Ln ≤ 3072) (nx9 : ∀ (I : z_I) (L : z_L) (J : z_I) (K : z_L), Rel I L J K → z_V b Ln xs 1842 [(0, .ref 1), (1, .ref 2), (2, .ref 3), (3, .int v3)] [] I L J K) : z_V b Ln xs 295 [(0, .ref 1), (1, .ref 2), (2, .ref 3), (3, .int v3)] [] I L J K := by
  refine w_aload_n 1 dL_law_295 rfl rfl ?_
  obtain ⟨hE, hR1⟩ := hs I L J K  hR
  refine w_callXl [] (c_X10_bottom (I := I) (L := L) ) dL_law_296 lk_L_23 rfl cd_X10_bottom rfl rfl rfl (Nat.le_of_ble_eq_true rfl) ⟨rfl, rfl, Nat.le_of_ble_eq_true rfl, Nat.le_of_ble_eq_true rfl⟩ ?_
  refine w_aload_n 2 dL_law_299 rfl rfl ?_
  refine w_callMl [] (c_X11_bottom (I := J) (L := K) ) dL_law_300 lk_L_26 rfl cd_X11_bottom rfl rfl rfl (Nat.le_of_ble_eq_true rfl) ⟨rfl, rfl, Nat.le_of_ble_eq_true rfl, Nat.le_of_ble_eq_true rfl⟩ ?_
  refine w_lcmp_eq 1842 dL_law_303 dL_law_304 (by decide) (fun _ => nx9 _ _ _ _ hR1) (fun h => absurd hE h)
set_option maxRecDepth 100000 in
set_option maxHeartbeats 4000000 in
theorem w_tray_case {Rel : z_I → z_L → z_I → z_L → Prop} (hs : s_tray Rel) {b Ln : Nat} {xs : Nat → Int32} {I : z_I} {L : z_L} {J : z_I} {K : z_L} (hR : Rel I L J K) {v3 : Int32} {i0 : Nat} (e3 : nI i0 = v3) (h6 : i0 + 6 ≤ Ln) (hL : Ln ≤ 3072) (nx9 : ∀ (I : z_I) (L : z_L) (J : z_I) (K : z_L), Rel I L J K → z_V b Ln xs 1842 [(0, .ref 1), (1, .ref 2), (2, .ref 3), (3, .int v3)] [] I L J K) : z_V b Ln xs 309 [(0, .ref 1), (1, .ref 2), (2, .ref 3), (3, .int v3)] [] I L J K := by
  obtain ⟨a1, ha1⟩ : ∃ a, xs ((v3 + (1 : Int32)).toNatClampNeg) = a := ⟨_, rfl⟩
  obtain ⟨a2, ha2⟩ : ∃ a, xs ((v3 + (2 : Int32)).toNatClampNeg) = a := ⟨_, rfl⟩
  obtain ⟨a3, ha3⟩ : ∃ a, xs ((v3 + (3 : Int32)).toNatClampNeg) = a := ⟨_, rfl⟩
  refine w_aload_n 1 dL_law_309 rfl rfl ?_
  refine w_aload_n 0 dL_law_310 rfl rfl ?_
  refine w_iload_n 3 dL_law_311 rfl rfl ?_
  refine w_iconst (v := (1)) dL_law_312 (by decide) ?_
  refine w_iadd dL_law_313 ?_
  refine w_sld dL_law_314 (e3 ▸ z_ix h6 hL (j := 1) (by decide)) ha1 ?_
  refine w_aload_n 0 dL_law_315 rfl rfl ?_
  refine w_iload_n 3 dL_law_316 rfl rfl ?_
  refine w_iconst (v := (2)) dL_law_317 (by decide) ?_
  refine w_iadd dL_law_318 ?_
  refine w_sld dL_law_319 (e3 ▸ z_ix h6 hL (j := 2) (by decide)) ha2 ?_
  refine w_aload_n 0 dL_law_320 rfl rfl ?_
  refine w_iload_n 3 dL_law_321 rfl rfl ?_
  refine w_iconst (v := (3)) dL_law_322 (by decide) ?_
  refine w_iadd dL_law_323 ?_
  refine w_sld dL_law_324 (e3 ▸ z_ix h6 hL (j := 3) (by decide)) ha3 ?_
  obtain ⟨qX, qM, hX, hM, hE, hR1⟩ := hs I L J K a1 a2 a3 hR
  refine w_callXi [.int a1, .int a2, .int a3] (c_X10_tray (I := I) (L := L) hX) dL_law_325 lk_L_27 rfl cd_X10_tray rfl rfl rfl (Nat.le_of_ble_eq_true rfl) ⟨rfl, rfl, Nat.le_of_ble_eq_true rfl, Nat.le_of_ble_eq_true rfl⟩ ?_
  refine w_aload_n 2 dL_law_328 rfl rfl ?_
  refine w_aload_n 0 dL_law_329 rfl rfl ?_
  refine w_iload_n 3 dL_law_330 rfl rfl ?_
  refine w_iconst (v := (1)) dL_law_331 (by decide) ?_
  refine w_iadd dL_law_332 ?_
  refine w_sld dL_law_333 (e3 ▸ z_ix h6 hL (j := 1) (by decide)) ha1 ?_
  refine w_aload_n 0 dL_law_334 rfl rfl ?_
  refine w_iload_n 3 dL_law_335 rfl rfl ?_
  refine w_iconst (v := (2)) dL_law_336 (by decide) ?_
  refine w_iadd dL_law_337 ?_
  refine w_sld dL_law_338 (e3 ▸ z_ix h6 hL (j := 2) (by decide)) ha2 ?_
  refine w_aload_n 0 dL_law_339 rfl rfl ?_
  refine w_iload_n 3 dL_law_340 rfl rfl ?_
  refine w_iconst (v := (3)) dL_law_341 (by decide) ?_
  refine w_iadd dL_law_342 ?_
  refine w_sld dL_law_343 (e3 ▸ z_ix h6 hL (j := 3) (by decide)) ha3 ?_
  refine w_callMi [.int a1, .int a2, .int a3] (c_X11_tray (I := J) (L := K) hM) dL_law_344 lk_L_31 rfl cd_X11_tray rfl rfl rfl (Nat.le_of_ble_eq_true rfl) ⟨rfl, rfl, Nat.le_of_ble_eq_true rfl, Nat.le_of_ble_eq_true rfl⟩ ?_
  refine w_icmp_eq 1842 dL_law_347 (by decide) (fun _ => nx9 _ _ _ _ hR1) (fun h => absurd (congrArg zb hE) h)
set_option maxRecDepth 100000 in
set_option maxHeartbeats 4000000 in
theorem w_write_case {Rel : z_I → z_L → z_I → z_L → Prop} (hs : s_write Rel) {b Ln : Nat} {xs : Nat → Int32} {I : z_I} {L : z_L} {J : z_I} {K : z_L} (hR : Rel I L J K) {v3 : Int32} {i0 : Nat} (e3 : nI i0 = v3) (h6 : i0 + 6 ≤ Ln) (hL : Ln ≤ 3072) (nx9 : ∀ (I : z_I) (L : z_L) (J : z_I) (K : z_L), Rel I L J K → z_V b Ln xs 1842 [(0, .ref 1), (1, .ref 2), (2, .ref 3), (3, .int v3)] [] I L J K) : z_V b Ln xs 352 [(0, .ref 1), (1, .ref 2), (2, .ref 3), (3, .int v3)] [] I L J K := by
  obtain ⟨a1, ha1⟩ : ∃ a, xs ((v3 + (1 : Int32)).toNatClampNeg) = a := ⟨_, rfl⟩
  obtain ⟨a2, ha2⟩ : ∃ a, xs ((v3 + (2 : Int32)).toNatClampNeg) = a := ⟨_, rfl⟩
  obtain ⟨a3, ha3⟩ : ∃ a, xs ((v3 + (3 : Int32)).toNatClampNeg) = a := ⟨_, rfl⟩
  obtain ⟨a4, ha4⟩ : ∃ a, xs ((v3 + (4 : Int32)).toNatClampNeg) = a := ⟨_, rfl⟩
  refine w_aload_n 1 dL_law_352 rfl rfl ?_
  refine w_aload_n 0 dL_law_353 rfl rfl ?_
  refine w_iload_n 3 dL_law_354 rfl rfl ?_
  refine w_iconst (v := (1)) dL_law_355 (by decide) ?_
  refine w_iadd dL_law_356 ?_
  refine w_sld dL_law_357 (e3 ▸ z_ix h6 hL (j := 1) (by decide)) ha1 ?_
  refine w_aload_n 0 dL_law_358 rfl rfl ?_
  refine w_iload_n 3 dL_law_359 rfl rfl ?_
  refine w_iconst (v := (2)) dL_law_360 (by decide) ?_
  refine w_iadd dL_law_361 ?_
  refine w_sld dL_law_362 (e3 ▸ z_ix h6 hL (j := 2) (by decide)) ha2 ?_
  refine w_aload_n 0 dL_law_363 rfl rfl ?_
  refine w_iload_n 3 dL_law_364 rfl rfl ?_
  refine w_iconst (v := (3)) dL_law_365 (by decide) ?_
  refine w_iadd dL_law_366 ?_
  refine w_sld dL_law_367 (e3 ▸ z_ix h6 hL (j := 3) (by decide)) ha3 ?_
  refine w_i2l dL_law_368 ?_
  refine w_bipush (v := (32)) dL_law_369 (by decide) ?_
  refine w_lshl dL_law_371 ?_
  refine w_aload_n 0 dL_law_372 rfl rfl ?_
  refine w_iload_n 3 dL_law_373 rfl rfl ?_
  refine w_iconst (v := (4)) dL_law_374 (by decide) ?_
  refine w_iadd dL_law_375 ?_
  refine w_sld dL_law_376 (e3 ▸ z_ix h6 hL (j := 4) (by decide)) ha4 ?_
  refine w_i2l dL_law_377 ?_
  refine w_ldc2 (v := (4294967295)) dL_law_378 kc_L_32 ?_
  refine w_land dL_law_381 ?_
  refine w_lor dL_law_382 ?_
  obtain ⟨qX, qM, hX, hM, hE, hR1⟩ := hs I L J K a1 a2 (((a3.toInt64) <<< (((32) : Int32).toInt64 &&& 63)) ||| ((a4.toInt64) &&& (4294967295 : Int64))) hR
  refine w_callXi [.int a1, .int a2, .long (((a3.toInt64) <<< (((32) : Int32).toInt64 &&& 63)) ||| ((a4.toInt64) &&& (4294967295 : Int64)))] (c_X10_write (I := I) (L := L) hX) dL_law_383 lk_L_34 rfl cd_X10_write rfl rfl rfl (Nat.le_of_ble_eq_true rfl) ⟨rfl, rfl, Nat.le_of_ble_eq_true rfl, Nat.le_of_ble_eq_true rfl⟩ ?_
  refine w_aload_n 2 dL_law_386 rfl rfl ?_
  refine w_aload_n 0 dL_law_387 rfl rfl ?_
  refine w_iload_n 3 dL_law_388 rfl rfl ?_
  refine w_iconst (v := (1)) dL_law_389 (by decide) ?_
  refine w_iadd dL_law_390 ?_
  refine w_sld dL_law_391 (e3 ▸ z_ix h6 hL (j := 1) (by decide)) ha1 ?_
  refine w_aload_n 0 dL_law_392 rfl rfl ?_
  refine w_iload_n 3 dL_law_393 rfl rfl ?_
  refine w_iconst (v := (2)) dL_law_394 (by decide) ?_
  refine w_iadd dL_law_395 ?_
  refine w_sld dL_law_396 (e3 ▸ z_ix h6 hL (j := 2) (by decide)) ha2 ?_
  refine w_aload_n 0 dL_law_397 rfl rfl ?_
  refine w_iload_n 3 dL_law_398 rfl rfl ?_
  refine w_iconst (v := (3)) dL_law_399 (by decide) ?_
  refine w_iadd dL_law_400 ?_
  refine w_sld dL_law_401 (e3 ▸ z_ix h6 hL (j := 3) (by decide)) ha3 ?_
  refine w_i2l dL_law_402 ?_
  refine w_bipush (v := (32)) dL_law_403 (by decide) ?_
  refine w_lshl dL_law_405 ?_
  refine w_aload_n 0 dL_law_406 rfl rfl ?_
  refine w_iload_n 3 dL_law_407 rfl rfl ?_
  refine w_iconst (v := (4)) dL_law_408 (by decide) ?_
  refine w_iadd dL_law_409 ?_
  refine w_sld dL_law_410 (e3 ▸ z_ix h6 hL (j := 4) (by decide)) ha4 ?_
  refine w_i2l dL_law_411 ?_
  refine w_ldc2 (v := (4294967295)) dL_law_412 kc_L_32 ?_
  refine w_land dL_law_415 ?_
  refine w_lor dL_law_416 ?_
  refine w_callMi [.int a1, .int a2, .long (((a3.toInt64) <<< (((32) : Int32).toInt64 &&& 63)) ||| ((a4.toInt64) &&& (4294967295 : Int64)))] (c_X11_write (I := J) (L := K) hM) dL_law_417 lk_L_38 rfl cd_X11_write rfl rfl rfl (Nat.le_of_ble_eq_true rfl) ⟨rfl, rfl, Nat.le_of_ble_eq_true rfl, Nat.le_of_ble_eq_true rfl⟩ ?_
  refine w_icmp_eq 1842 dL_law_420 (by decide) (fun _ => nx9 _ _ _ _ hR1) (fun h => absurd (congrArg zb hE) h)
set_option maxRecDepth 100000 in
set_option maxHeartbeats 4000000 in
theorem w_read_case {Rel : z_I → z_L → z_I → z_L → Prop} (hs : s_read Rel) {b Ln : Nat} {xs : Nat → Int32} {I : z_I} {L : z_L} {J : z_I} {K : z_L} (hR : Rel I L J K) {v3 : Int32} {i0 : Nat} (e3 : nI i0 = v3) (h6 : i0 + 6 ≤ Ln) (hL : Ln ≤ 3072) (nx9 : ∀ (I : z_I) (L : z_L) (J : z_I) (K : z_L), Rel I L J K → z_V b Ln xs 1842 [(0, .ref 1), (1, .ref 2), (2, .ref 3), (3, .int v3)] [] I L J K) : z_V b Ln xs 425 [(0, .ref 1), (1, .ref 2), (2, .ref 3), (3, .int v3)] [] I L J K := by
  obtain ⟨a1, ha1⟩ : ∃ a, xs ((v3 + (1 : Int32)).toNatClampNeg) = a := ⟨_, rfl⟩
  obtain ⟨a2, ha2⟩ : ∃ a, xs ((v3 + (2 : Int32)).toNatClampNeg) = a := ⟨_, rfl⟩
  refine w_aload_n 1 dL_law_425 rfl rfl ?_
  refine w_aload_n 0 dL_law_426 rfl rfl ?_
  refine w_iload_n 3 dL_law_427 rfl rfl ?_
  refine w_iconst (v := (1)) dL_law_428 (by decide) ?_
  refine w_iadd dL_law_429 ?_
  refine w_sld dL_law_430 (e3 ▸ z_ix h6 hL (j := 1) (by decide)) ha1 ?_
  refine w_aload_n 0 dL_law_431 rfl rfl ?_
  refine w_iload_n 3 dL_law_432 rfl rfl ?_
  refine w_iconst (v := (2)) dL_law_433 (by decide) ?_
  refine w_iadd dL_law_434 ?_
  refine w_sld dL_law_435 (e3 ▸ z_ix h6 hL (j := 2) (by decide)) ha2 ?_
  obtain ⟨qX, qM, hX, hM, hE, hR1⟩ := hs I L J K a1 a2 hR
  refine w_callXl [.int a1, .int a2] (c_X10_read (I := I) (L := L) hX) dL_law_436 lk_L_39 rfl cd_X10_read rfl rfl rfl (Nat.le_of_ble_eq_true rfl) ⟨rfl, rfl, Nat.le_of_ble_eq_true rfl, Nat.le_of_ble_eq_true rfl⟩ ?_
  refine w_aload_n 2 dL_law_439 rfl rfl ?_
  refine w_aload_n 0 dL_law_440 rfl rfl ?_
  refine w_iload_n 3 dL_law_441 rfl rfl ?_
  refine w_iconst (v := (1)) dL_law_442 (by decide) ?_
  refine w_iadd dL_law_443 ?_
  refine w_sld dL_law_444 (e3 ▸ z_ix h6 hL (j := 1) (by decide)) ha1 ?_
  refine w_aload_n 0 dL_law_445 rfl rfl ?_
  refine w_iload_n 3 dL_law_446 rfl rfl ?_
  refine w_iconst (v := (2)) dL_law_447 (by decide) ?_
  refine w_iadd dL_law_448 ?_
  refine w_sld dL_law_449 (e3 ▸ z_ix h6 hL (j := 2) (by decide)) ha2 ?_
  refine w_callMl [.int a1, .int a2] (c_X11_read (I := J) (L := K) hM) dL_law_450 lk_L_43 rfl cd_X11_read rfl rfl rfl (Nat.le_of_ble_eq_true rfl) ⟨rfl, rfl, Nat.le_of_ble_eq_true rfl, Nat.le_of_ble_eq_true rfl⟩ ?_
  refine w_lcmp_eq 1842 dL_law_453 dL_law_454 (by decide) (fun _ => nx9 _ _ _ _ hR1) (fun h => absurd hE h)
set_option maxRecDepth 100000 in
set_option maxHeartbeats 4000000 in
theorem w_pour_case {Rel : z_I → z_L → z_I → z_L → Prop} (hs : s_pour Rel) {b Ln : Nat} {xs : Nat → Int32} {I : z_I} {L : z_L} {J : z_I} {K : z_L} (hR : Rel I L J K) {v3 : Int32} {i0 : Nat} (e3 : nI i0 = v3) (h6 : i0 + 6 ≤ Ln) (hL : Ln ≤ 3072) (nx9 : ∀ (I : z_I) (L : z_L) (J : z_I) (K : z_L), Rel I L J K → z_V b Ln xs 1842 [(0, .ref 1), (1, .ref 2), (2, .ref 3), (3, .int v3)] [] I L J K) : z_V b Ln xs 459 [(0, .ref 1), (1, .ref 2), (2, .ref 3), (3, .int v3)] [] I L J K := by
  obtain ⟨a1, ha1⟩ : ∃ a, xs ((v3 + (1 : Int32)).toNatClampNeg) = a := ⟨_, rfl⟩
  obtain ⟨a2, ha2⟩ : ∃ a, xs ((v3 + (2 : Int32)).toNatClampNeg) = a := ⟨_, rfl⟩
  obtain ⟨a3, ha3⟩ : ∃ a, xs ((v3 + (3 : Int32)).toNatClampNeg) = a := ⟨_, rfl⟩
  obtain ⟨a4, ha4⟩ : ∃ a, xs ((v3 + (4 : Int32)).toNatClampNeg) = a := ⟨_, rfl⟩
  obtain ⟨a5, ha5⟩ : ∃ a, xs ((v3 + (5 : Int32)).toNatClampNeg) = a := ⟨_, rfl⟩
  refine w_aload_n 1 dL_law_459 rfl rfl ?_
  refine w_aload_n 0 dL_law_460 rfl rfl ?_
  refine w_iload_n 3 dL_law_461 rfl rfl ?_
  refine w_iconst (v := (1)) dL_law_462 (by decide) ?_
  refine w_iadd dL_law_463 ?_
  refine w_sld dL_law_464 (e3 ▸ z_ix h6 hL (j := 1) (by decide)) ha1 ?_
  refine w_aload_n 0 dL_law_465 rfl rfl ?_
  refine w_iload_n 3 dL_law_466 rfl rfl ?_
  refine w_iconst (v := (2)) dL_law_467 (by decide) ?_
  refine w_iadd dL_law_468 ?_
  refine w_sld dL_law_469 (e3 ▸ z_ix h6 hL (j := 2) (by decide)) ha2 ?_
  refine w_aload_n 0 dL_law_470 rfl rfl ?_
  refine w_iload_n 3 dL_law_471 rfl rfl ?_
  refine w_iconst (v := (3)) dL_law_472 (by decide) ?_
  refine w_iadd dL_law_473 ?_
  refine w_sld dL_law_474 (e3 ▸ z_ix h6 hL (j := 3) (by decide)) ha3 ?_
  refine w_aload_n 0 dL_law_475 rfl rfl ?_
  refine w_iload_n 3 dL_law_476 rfl rfl ?_
  refine w_iconst (v := (4)) dL_law_477 (by decide) ?_
  refine w_iadd dL_law_478 ?_
  refine w_sld dL_law_479 (e3 ▸ z_ix h6 hL (j := 4) (by decide)) ha4 ?_
  refine w_aload_n 0 dL_law_480 rfl rfl ?_
  refine w_iload_n 3 dL_law_481 rfl rfl ?_
  refine w_iconst (v := (5)) dL_law_482 (by decide) ?_
  refine w_iadd dL_law_483 ?_
  refine w_sld dL_law_484 (e3 ▸ z_ix h6 hL (j := 5) (by decide)) ha5 ?_
  obtain ⟨qX, qM, hX, hM, hE, hR1⟩ := hs I L J K a1 a2 a3 a4 a5 hR
  refine w_callXi [.int a1, .int a2, .int a3, .int a4, .int a5] (c_X10_pour (I := I) (L := L) hX) dL_law_485 lk_L_44 rfl cd_X10_pour rfl rfl rfl (Nat.le_of_ble_eq_true rfl) ⟨rfl, rfl, Nat.le_of_ble_eq_true rfl, Nat.le_of_ble_eq_true rfl⟩ ?_
  refine w_aload_n 2 dL_law_488 rfl rfl ?_
  refine w_aload_n 0 dL_law_489 rfl rfl ?_
  refine w_iload_n 3 dL_law_490 rfl rfl ?_
  refine w_iconst (v := (1)) dL_law_491 (by decide) ?_
  refine w_iadd dL_law_492 ?_
  refine w_sld dL_law_493 (e3 ▸ z_ix h6 hL (j := 1) (by decide)) ha1 ?_
  refine w_aload_n 0 dL_law_494 rfl rfl ?_
  refine w_iload_n 3 dL_law_495 rfl rfl ?_
  refine w_iconst (v := (2)) dL_law_496 (by decide) ?_
  refine w_iadd dL_law_497 ?_
  refine w_sld dL_law_498 (e3 ▸ z_ix h6 hL (j := 2) (by decide)) ha2 ?_
  refine w_aload_n 0 dL_law_499 rfl rfl ?_
  refine w_iload_n 3 dL_law_500 rfl rfl ?_
  refine w_iconst (v := (3)) dL_law_501 (by decide) ?_
  refine w_iadd dL_law_502 ?_
  refine w_sld dL_law_503 (e3 ▸ z_ix h6 hL (j := 3) (by decide)) ha3 ?_
  refine w_aload_n 0 dL_law_504 rfl rfl ?_
  refine w_iload_n 3 dL_law_505 rfl rfl ?_
  refine w_iconst (v := (4)) dL_law_506 (by decide) ?_
  refine w_iadd dL_law_507 ?_
  refine w_sld dL_law_508 (e3 ▸ z_ix h6 hL (j := 4) (by decide)) ha4 ?_
  refine w_aload_n 0 dL_law_509 rfl rfl ?_
  refine w_iload_n 3 dL_law_510 rfl rfl ?_
  refine w_iconst (v := (5)) dL_law_511 (by decide) ?_
  refine w_iadd dL_law_512 ?_
  refine w_sld dL_law_513 (e3 ▸ z_ix h6 hL (j := 5) (by decide)) ha5 ?_
  refine w_callMi [.int a1, .int a2, .int a3, .int a4, .int a5] (c_X11_pour (I := J) (L := K) hM) dL_law_514 lk_L_48 rfl cd_X11_pour rfl rfl rfl (Nat.le_of_ble_eq_true rfl) ⟨rfl, rfl, Nat.le_of_ble_eq_true rfl, Nat.le_of_ble_eq_true rfl⟩ ?_
  refine w_icmp_eq 1842 dL_law_517 (by decide) (fun _ => nx9 _ _ _ _ hR1) (fun h => absurd (congrArg zb hE) h)
set_option maxRecDepth 100000 in
set_option maxHeartbeats 4000000 in
theorem w_feed_case {Rel : z_I → z_L → z_I → z_L → Prop} (hs : s_feed Rel) {b Ln : Nat} {xs : Nat → Int32} {I : z_I} {L : z_L} {J : z_I} {K : z_L} (hR : Rel I L J K) {v3 : Int32} {i0 : Nat} (e3 : nI i0 = v3) (h6 : i0 + 6 ≤ Ln) (hL : Ln ≤ 3072) (nx9 : ∀ (I : z_I) (L : z_L) (J : z_I) (K : z_L), Rel I L J K → z_V b Ln xs 1842 [(0, .ref 1), (1, .ref 2), (2, .ref 3), (3, .int v3)] [] I L J K) : z_V b Ln xs 522 [(0, .ref 1), (1, .ref 2), (2, .ref 3), (3, .int v3)] [] I L J K := by
  obtain ⟨a1, ha1⟩ : ∃ a, xs ((v3 + (1 : Int32)).toNatClampNeg) = a := ⟨_, rfl⟩
  obtain ⟨a2, ha2⟩ : ∃ a, xs ((v3 + (2 : Int32)).toNatClampNeg) = a := ⟨_, rfl⟩
  obtain ⟨a3, ha3⟩ : ∃ a, xs ((v3 + (3 : Int32)).toNatClampNeg) = a := ⟨_, rfl⟩
  obtain ⟨a4, ha4⟩ : ∃ a, xs ((v3 + (4 : Int32)).toNatClampNeg) = a := ⟨_, rfl⟩
  obtain ⟨a5, ha5⟩ : ∃ a, xs ((v3 + (5 : Int32)).toNatClampNeg) = a := ⟨_, rfl⟩
  refine w_aload_n 1 dL_law_522 rfl rfl ?_
  refine w_aload_n 0 dL_law_523 rfl rfl ?_
  refine w_iload_n 3 dL_law_524 rfl rfl ?_
  refine w_iconst (v := (1)) dL_law_525 (by decide) ?_
  refine w_iadd dL_law_526 ?_
  refine w_sld dL_law_527 (e3 ▸ z_ix h6 hL (j := 1) (by decide)) ha1 ?_
  refine w_aload_n 0 dL_law_528 rfl rfl ?_
  refine w_iload_n 3 dL_law_529 rfl rfl ?_
  refine w_iconst (v := (2)) dL_law_530 (by decide) ?_
  refine w_iadd dL_law_531 ?_
  refine w_sld dL_law_532 (e3 ▸ z_ix h6 hL (j := 2) (by decide)) ha2 ?_
  refine w_aload_n 0 dL_law_533 rfl rfl ?_
  refine w_iload_n 3 dL_law_534 rfl rfl ?_
  refine w_iconst (v := (3)) dL_law_535 (by decide) ?_
  refine w_iadd dL_law_536 ?_
  refine w_sld dL_law_537 (e3 ▸ z_ix h6 hL (j := 3) (by decide)) ha3 ?_
  refine w_aload_n 0 dL_law_538 rfl rfl ?_
  refine w_iload_n 3 dL_law_539 rfl rfl ?_
  refine w_iconst (v := (4)) dL_law_540 (by decide) ?_
  refine w_iadd dL_law_541 ?_
  refine w_sld dL_law_542 (e3 ▸ z_ix h6 hL (j := 4) (by decide)) ha4 ?_
  refine w_aload_n 0 dL_law_543 rfl rfl ?_
  refine w_iload_n 3 dL_law_544 rfl rfl ?_
  refine w_iconst (v := (5)) dL_law_545 (by decide) ?_
  refine w_iadd dL_law_546 ?_
  refine w_sld dL_law_547 (e3 ▸ z_ix h6 hL (j := 5) (by decide)) ha5 ?_
  obtain ⟨qX, qM, hX, hM, hE, hR1⟩ := hs I L J K a1 a2 a3 a4 a5 hR
  refine w_callXi [.int a1, .int a2, .int a3, .int a4, .int a5] (c_X10_feed (I := I) (L := L) hX) dL_law_548 lk_L_49 rfl cd_X10_feed rfl rfl rfl (Nat.le_of_ble_eq_true rfl) ⟨rfl, rfl, Nat.le_of_ble_eq_true rfl, Nat.le_of_ble_eq_true rfl⟩ ?_
  refine w_aload_n 2 dL_law_551 rfl rfl ?_
  refine w_aload_n 0 dL_law_552 rfl rfl ?_
  refine w_iload_n 3 dL_law_553 rfl rfl ?_
  refine w_iconst (v := (1)) dL_law_554 (by decide) ?_
  refine w_iadd dL_law_555 ?_
  refine w_sld dL_law_556 (e3 ▸ z_ix h6 hL (j := 1) (by decide)) ha1 ?_
  refine w_aload_n 0 dL_law_557 rfl rfl ?_
  refine w_iload_n 3 dL_law_558 rfl rfl ?_
  refine w_iconst (v := (2)) dL_law_559 (by decide) ?_
  refine w_iadd dL_law_560 ?_
  refine w_sld dL_law_561 (e3 ▸ z_ix h6 hL (j := 2) (by decide)) ha2 ?_
  refine w_aload_n 0 dL_law_562 rfl rfl ?_
  refine w_iload_n 3 dL_law_563 rfl rfl ?_
  refine w_iconst (v := (3)) dL_law_564 (by decide) ?_
  refine w_iadd dL_law_565 ?_
  refine w_sld dL_law_566 (e3 ▸ z_ix h6 hL (j := 3) (by decide)) ha3 ?_
  refine w_aload_n 0 dL_law_567 rfl rfl ?_
  refine w_iload_n 3 dL_law_568 rfl rfl ?_
  refine w_iconst (v := (4)) dL_law_569 (by decide) ?_
  refine w_iadd dL_law_570 ?_
  refine w_sld dL_law_571 (e3 ▸ z_ix h6 hL (j := 4) (by decide)) ha4 ?_
  refine w_aload_n 0 dL_law_572 rfl rfl ?_
  refine w_iload_n 3 dL_law_573 rfl rfl ?_
  refine w_iconst (v := (5)) dL_law_574 (by decide) ?_
  refine w_iadd dL_law_575 ?_
  refine w_sld dL_law_576 (e3 ▸ z_ix h6 hL (j := 5) (by decide)) ha5 ?_
  refine w_callMi [.int a1, .int a2, .int a3, .int a4, .int a5] (c_X11_feed (I := J) (L := K) hM) dL_law_577 lk_L_53 rfl cd_X11_feed rfl rfl rfl (Nat.le_of_ble_eq_true rfl) ⟨rfl, rfl, Nat.le_of_ble_eq_true rfl, Nat.le_of_ble_eq_true rfl⟩ ?_
  refine w_icmp_eq 1842 dL_law_580 (by decide) (fun _ => nx9 _ _ _ _ hR1) (fun h => absurd hE h)
set_option maxRecDepth 100000 in
set_option maxHeartbeats 4000000 in
theorem w_court_case {Rel : z_I → z_L → z_I → z_L → Prop} (hs : s_court Rel) {b Ln : Nat} {xs : Nat → Int32} {I : z_I} {L : z_L} {J : z_I} {K : z_L} (hR : Rel I L J K) {v3 : Int32} {i0 : Nat} (e3 : nI i0 = v3) (h6 : i0 + 6 ≤ Ln) (hL : Ln ≤ 3072) (nx9 : ∀ (I : z_I) (L : z_L) (J : z_I) (K : z_L), Rel I L J K → z_V b Ln xs 1842 [(0, .ref 1), (1, .ref 2), (2, .ref 3), (3, .int v3)] [] I L J K) : z_V b Ln xs 585 [(0, .ref 1), (1, .ref 2), (2, .ref 3), (3, .int v3)] [] I L J K := by
  obtain ⟨a1, ha1⟩ : ∃ a, xs ((v3 + (1 : Int32)).toNatClampNeg) = a := ⟨_, rfl⟩
  refine w_aload_n 1 dL_law_585 rfl rfl ?_
  refine w_aload_n 0 dL_law_586 rfl rfl ?_
  refine w_iload_n 3 dL_law_587 rfl rfl ?_
  refine w_iconst (v := (1)) dL_law_588 (by decide) ?_
  refine w_iadd dL_law_589 ?_
  refine w_sld dL_law_590 (e3 ▸ z_ix h6 hL (j := 1) (by decide)) ha1 ?_
  obtain ⟨qX, qM, hX, hM, hE, hR1⟩ := hs I L J K a1 hR
  refine w_callXi [.int a1] (c_X10_court (I := I) (L := L) hX) dL_law_591 lk_L_54 rfl cd_X10_court rfl rfl rfl (Nat.le_of_ble_eq_true rfl) ⟨rfl, rfl, Nat.le_of_ble_eq_true rfl, Nat.le_of_ble_eq_true rfl⟩ ?_
  refine w_aload_n 2 dL_law_594 rfl rfl ?_
  refine w_aload_n 0 dL_law_595 rfl rfl ?_
  refine w_iload_n 3 dL_law_596 rfl rfl ?_
  refine w_iconst (v := (1)) dL_law_597 (by decide) ?_
  refine w_iadd dL_law_598 ?_
  refine w_sld dL_law_599 (e3 ▸ z_ix h6 hL (j := 1) (by decide)) ha1 ?_
  refine w_callMi [.int a1] (c_X11_court (I := J) (L := K) hM) dL_law_600 lk_L_58 rfl cd_X11_court rfl rfl rfl (Nat.le_of_ble_eq_true rfl) ⟨rfl, rfl, Nat.le_of_ble_eq_true rfl, Nat.le_of_ble_eq_true rfl⟩ ?_
  refine w_icmp_eq 1842 dL_law_603 (by decide) (fun _ => nx9 _ _ _ _ hR1) (fun h => absurd hE h)
set_option maxRecDepth 100000 in
set_option maxHeartbeats 4000000 in
theorem w_terms_case {Rel : z_I → z_L → z_I → z_L → Prop} (hs : s_terms Rel) {b Ln : Nat} {xs : Nat → Int32} {I : z_I} {L : z_L} {J : z_I} {K : z_L} (hR : Rel I L J K) {v3 : Int32} {i0 : Nat} (e3 : nI i0 = v3) (h6 : i0 + 6 ≤ Ln) (hL : Ln ≤ 3072) (nx9 : ∀ (I : z_I) (L : z_L) (J : z_I) (K : z_L), Rel I L J K → z_V b Ln xs 1842 [(0, .ref 1), (1, .ref 2), (2, .ref 3), (3, .int v3)] [] I L J K) : z_V b Ln xs 608 [(0, .ref 1), (1, .ref 2), (2, .ref 3), (3, .int v3)] [] I L J K := by
  obtain ⟨a1, ha1⟩ : ∃ a, xs ((v3 + (1 : Int32)).toNatClampNeg) = a := ⟨_, rfl⟩
  refine w_aload_n 1 dL_law_608 rfl rfl ?_
  refine w_aload_n 0 dL_law_609 rfl rfl ?_
  refine w_iload_n 3 dL_law_610 rfl rfl ?_
  refine w_iconst (v := (1)) dL_law_611 (by decide) ?_
  refine w_iadd dL_law_612 ?_
  refine w_sld dL_law_613 (e3 ▸ z_ix h6 hL (j := 1) (by decide)) ha1 ?_
  obtain ⟨qX, qM, hX, hM, hE, hR1⟩ := hs I L J K a1 hR
  refine w_callXi [.int a1] (c_X10_terms (I := I) (L := L) hX) dL_law_614 lk_L_59 rfl cd_X10_terms rfl rfl rfl (Nat.le_of_ble_eq_true rfl) ⟨rfl, rfl, Nat.le_of_ble_eq_true rfl, Nat.le_of_ble_eq_true rfl⟩ ?_
  refine w_aload_n 2 dL_law_617 rfl rfl ?_
  refine w_aload_n 0 dL_law_618 rfl rfl ?_
  refine w_iload_n 3 dL_law_619 rfl rfl ?_
  refine w_iconst (v := (1)) dL_law_620 (by decide) ?_
  refine w_iadd dL_law_621 ?_
  refine w_sld dL_law_622 (e3 ▸ z_ix h6 hL (j := 1) (by decide)) ha1 ?_
  refine w_callMi [.int a1] (c_X11_terms (I := J) (L := K) hM) dL_law_623 lk_L_62 rfl cd_X11_terms rfl rfl rfl (Nat.le_of_ble_eq_true rfl) ⟨rfl, rfl, Nat.le_of_ble_eq_true rfl, Nat.le_of_ble_eq_true rfl⟩ ?_
  refine w_icmp_eq 1842 dL_law_626 (by decide) (fun _ => nx9 _ _ _ _ hR1) (fun h => absurd hE h)
set_option maxRecDepth 100000 in
set_option maxHeartbeats 4000000 in
theorem w_fault_case {Rel : z_I → z_L → z_I → z_L → Prop} (hs : s_fault Rel) {b Ln : Nat} {xs : Nat → Int32} {I : z_I} {L : z_L} {J : z_I} {K : z_L} (hR : Rel I L J K) {v3 : Int32} {i0 : Nat} (e3 : nI i0 = v3) (h6 : i0 + 6 ≤ Ln) (hL : Ln ≤ 3072) (nx9 : ∀ (I : z_I) (L : z_L) (J : z_I) (K : z_L), Rel I L J K → z_V b Ln xs 1842 [(0, .ref 1), (1, .ref 2), (2, .ref 3), (3, .int v3)] [] I L J K) : z_V b Ln xs 631 [(0, .ref 1), (1, .ref 2), (2, .ref 3), (3, .int v3)] [] I L J K := by
  obtain ⟨a1, ha1⟩ : ∃ a, xs ((v3 + (1 : Int32)).toNatClampNeg) = a := ⟨_, rfl⟩
  refine w_aload_n 1 dL_law_631 rfl rfl ?_
  refine w_aload_n 0 dL_law_632 rfl rfl ?_
  refine w_iload_n 3 dL_law_633 rfl rfl ?_
  refine w_iconst (v := (1)) dL_law_634 (by decide) ?_
  refine w_iadd dL_law_635 ?_
  refine w_sld dL_law_636 (e3 ▸ z_ix h6 hL (j := 1) (by decide)) ha1 ?_
  obtain ⟨hE, hR1⟩ := hs I L J K a1 hR
  refine w_callXi [.int a1] (c_X10_fault (I := I) (L := L) a1) dL_law_637 lk_L_63 rfl cd_X10_fault rfl rfl rfl (Nat.le_of_ble_eq_true rfl) ⟨rfl, rfl, Nat.le_of_ble_eq_true rfl, Nat.le_of_ble_eq_true rfl⟩ ?_
  refine w_aload_n 2 dL_law_640 rfl rfl ?_
  refine w_aload_n 0 dL_law_641 rfl rfl ?_
  refine w_iload_n 3 dL_law_642 rfl rfl ?_
  refine w_iconst (v := (1)) dL_law_643 (by decide) ?_
  refine w_iadd dL_law_644 ?_
  refine w_sld dL_law_645 (e3 ▸ z_ix h6 hL (j := 1) (by decide)) ha1 ?_
  refine w_callMi [.int a1] (c_X11_fault (I := J) (L := K) a1) dL_law_646 lk_L_66 rfl cd_X11_fault rfl rfl rfl (Nat.le_of_ble_eq_true rfl) ⟨rfl, rfl, Nat.le_of_ble_eq_true rfl, Nat.le_of_ble_eq_true rfl⟩ ?_
  refine w_icmp_eq 1842 dL_law_649 (by decide) (fun _ => nx9 _ _ _ _ hR1) (fun h => absurd hE h)
set_option maxRecDepth 100000 in
set_option maxHeartbeats 4000000 in
theorem w_told_case {Rel : z_I → z_L → z_I → z_L → Prop} (hs : s_told Rel) {b Ln : Nat} {xs : Nat → Int32} {I : z_I} {L : z_L} {J : z_I} {K : z_L} (hR : Rel I L J K) {v3 : Int32} {i0 : Nat} (e3 : nI i0 = v3) (h6 : i0 + 6 ≤ Ln) (hL : Ln ≤ 3072) (nx9 : ∀ (I : z_I) (L : z_L) (J : z_I) (K : z_L), Rel I L J K → z_V b Ln xs 1842 [(0, .ref 1), (1, .ref 2), (2, .ref 3), (3, .int v3)] [] I L J K) : z_V b Ln xs 654 [(0, .ref 1), (1, .ref 2), (2, .ref 3), (3, .int v3)] [] I L J K := by
  obtain ⟨a1, ha1⟩ : ∃ a, xs ((v3 + (1 : Int32)).toNatClampNeg) = a := ⟨_, rfl⟩
  refine w_aload_n 1 dL_law_654 rfl rfl ?_
  refine w_aload_n 0 dL_law_655 rfl rfl ?_
  refine w_iload_n 3 dL_law_656 rfl rfl ?_
  refine w_iconst (v := (1)) dL_law_657 (by decide) ?_
  refine w_iadd dL_law_658 ?_
  refine w_sld dL_law_659 (e3 ▸ z_ix h6 hL (j := 1) (by decide)) ha1 ?_
  obtain ⟨qX, qM, hX, hM, hE, hR1⟩ := hs I L J K a1 hR
  refine w_callXi [.int a1] (c_X10_told (I := I) (L := L) hX) dL_law_660 lk_L_67 rfl cd_X10_told rfl rfl rfl (Nat.le_of_ble_eq_true rfl) ⟨rfl, rfl, Nat.le_of_ble_eq_true rfl, Nat.le_of_ble_eq_true rfl⟩ ?_
  refine w_aload_n 2 dL_law_663 rfl rfl ?_
  refine w_aload_n 0 dL_law_664 rfl rfl ?_
  refine w_iload_n 3 dL_law_665 rfl rfl ?_
  refine w_iconst (v := (1)) dL_law_666 (by decide) ?_
  refine w_iadd dL_law_667 ?_
  refine w_sld dL_law_668 (e3 ▸ z_ix h6 hL (j := 1) (by decide)) ha1 ?_
  refine w_callMi [.int a1] (c_X11_told (I := J) (L := K) hM) dL_law_669 lk_L_70 rfl cd_X11_told rfl rfl rfl (Nat.le_of_ble_eq_true rfl) ⟨rfl, rfl, Nat.le_of_ble_eq_true rfl, Nat.le_of_ble_eq_true rfl⟩ ?_
  refine w_icmp_eq 1842 dL_law_672 (by decide) (fun _ => nx9 _ _ _ _ hR1) (fun h => absurd hE h)
set_option maxRecDepth 100000 in
set_option maxHeartbeats 4000000 in
theorem w_bed_case {Rel : z_I → z_L → z_I → z_L → Prop} (hs : s_bed Rel) {b Ln : Nat} {xs : Nat → Int32} {I : z_I} {L : z_L} {J : z_I} {K : z_L} (hR : Rel I L J K) {v3 : Int32} {i0 : Nat} (e3 : nI i0 = v3) (h6 : i0 + 6 ≤ Ln) (hL : Ln ≤ 3072) (nx9 : ∀ (I : z_I) (L : z_L) (J : z_I) (K : z_L), Rel I L J K → z_V b Ln xs 1842 [(0, .ref 1), (1, .ref 2), (2, .ref 3), (3, .int v3)] [] I L J K) : z_V b Ln xs 677 [(0, .ref 1), (1, .ref 2), (2, .ref 3), (3, .int v3)] [] I L J K := by
  obtain ⟨a1, ha1⟩ : ∃ a, xs ((v3 + (1 : Int32)).toNatClampNeg) = a := ⟨_, rfl⟩
  obtain ⟨a2, ha2⟩ : ∃ a, xs ((v3 + (2 : Int32)).toNatClampNeg) = a := ⟨_, rfl⟩
  refine w_aload_n 1 dL_law_677 rfl rfl ?_
  refine w_aload_n 0 dL_law_678 rfl rfl ?_
  refine w_iload_n 3 dL_law_679 rfl rfl ?_
  refine w_iconst (v := (1)) dL_law_680 (by decide) ?_
  refine w_iadd dL_law_681 ?_
  refine w_sld dL_law_682 (e3 ▸ z_ix h6 hL (j := 1) (by decide)) ha1 ?_
  refine w_aload_n 0 dL_law_683 rfl rfl ?_
  refine w_iload_n 3 dL_law_684 rfl rfl ?_
  refine w_iconst (v := (2)) dL_law_685 (by decide) ?_
  refine w_iadd dL_law_686 ?_
  refine w_sld dL_law_687 (e3 ▸ z_ix h6 hL (j := 2) (by decide)) ha2 ?_
  obtain ⟨qX, qM, hX, hM, hE, hR1⟩ := hs I L J K a1 a2 hR
  refine w_callXi [.int a1, .int a2] (c_X10_bed (I := I) (L := L) hX) dL_law_688 lk_L_71 rfl cd_X10_bed rfl rfl rfl (Nat.le_of_ble_eq_true rfl) ⟨rfl, rfl, Nat.le_of_ble_eq_true rfl, Nat.le_of_ble_eq_true rfl⟩ ?_
  refine w_aload_n 2 dL_law_691 rfl rfl ?_
  refine w_aload_n 0 dL_law_692 rfl rfl ?_
  refine w_iload_n 3 dL_law_693 rfl rfl ?_
  refine w_iconst (v := (1)) dL_law_694 (by decide) ?_
  refine w_iadd dL_law_695 ?_
  refine w_sld dL_law_696 (e3 ▸ z_ix h6 hL (j := 1) (by decide)) ha1 ?_
  refine w_aload_n 0 dL_law_697 rfl rfl ?_
  refine w_iload_n 3 dL_law_698 rfl rfl ?_
  refine w_iconst (v := (2)) dL_law_699 (by decide) ?_
  refine w_iadd dL_law_700 ?_
  refine w_sld dL_law_701 (e3 ▸ z_ix h6 hL (j := 2) (by decide)) ha2 ?_
  refine w_callMi [.int a1, .int a2] (c_X11_bed (I := J) (L := K) hM) dL_law_702 lk_L_75 rfl cd_X11_bed rfl rfl rfl (Nat.le_of_ble_eq_true rfl) ⟨rfl, rfl, Nat.le_of_ble_eq_true rfl, Nat.le_of_ble_eq_true rfl⟩ ?_
  refine w_icmp_eq 1842 dL_law_705 (by decide) (fun _ => nx9 _ _ _ _ hR1) (fun h => absurd hE h)
set_option maxRecDepth 100000 in
set_option maxHeartbeats 4000000 in
theorem w_weight_case {Rel : z_I → z_L → z_I → z_L → Prop} (hs : s_weight Rel) {b Ln : Nat} {xs : Nat → Int32} {I : z_I} {L : z_L} {J : z_I} {K : z_L} (hR : Rel I L J K) {v3 : Int32} {i0 : Nat} (e3 : nI i0 = v3) (h6 : i0 + 6 ≤ Ln) (hL : Ln ≤ 3072) (nx9 : ∀ (I : z_I) (L : z_L) (J : z_I) (K : z_L), Rel I L J K → z_V b Ln xs 1842 [(0, .ref 1), (1, .ref 2), (2, .ref 3), (3, .int v3)] [] I L J K) : z_V b Ln xs 710 [(0, .ref 1), (1, .ref 2), (2, .ref 3), (3, .int v3)] [] I L J K := by
  obtain ⟨a1, ha1⟩ : ∃ a, xs ((v3 + (1 : Int32)).toNatClampNeg) = a := ⟨_, rfl⟩
  refine w_aload_n 1 dL_law_710 rfl rfl ?_
  refine w_aload_n 0 dL_law_711 rfl rfl ?_
  refine w_iload_n 3 dL_law_712 rfl rfl ?_
  refine w_iconst (v := (1)) dL_law_713 (by decide) ?_
  refine w_iadd dL_law_714 ?_
  refine w_sld dL_law_715 (e3 ▸ z_ix h6 hL (j := 1) (by decide)) ha1 ?_
  obtain ⟨qX, qM, hX, hM, hE, hR1⟩ := hs I L J K a1 hR
  refine w_callXi [.int a1] (c_X10_weight (I := I) (L := L) hX) dL_law_716 lk_L_76 rfl cd_X10_weight rfl rfl rfl (Nat.le_of_ble_eq_true rfl) ⟨rfl, rfl, Nat.le_of_ble_eq_true rfl, Nat.le_of_ble_eq_true rfl⟩ ?_
  refine w_aload_n 2 dL_law_719 rfl rfl ?_
  refine w_aload_n 0 dL_law_720 rfl rfl ?_
  refine w_iload_n 3 dL_law_721 rfl rfl ?_
  refine w_iconst (v := (1)) dL_law_722 (by decide) ?_
  refine w_iadd dL_law_723 ?_
  refine w_sld dL_law_724 (e3 ▸ z_ix h6 hL (j := 1) (by decide)) ha1 ?_
  refine w_callMi [.int a1] (c_X11_weight (I := J) (L := K) hM) dL_law_725 lk_L_79 rfl cd_X11_weight rfl rfl rfl (Nat.le_of_ble_eq_true rfl) ⟨rfl, rfl, Nat.le_of_ble_eq_true rfl, Nat.le_of_ble_eq_true rfl⟩ ?_
  refine w_icmp_eq 1842 dL_law_728 (by decide) (fun _ => nx9 _ _ _ _ hR1) (fun h => absurd hE h)
set_option maxRecDepth 100000 in
set_option maxHeartbeats 4000000 in
theorem w_claim_case {Rel : z_I → z_L → z_I → z_L → Prop} (hs : s_claim Rel) {b Ln : Nat} {xs : Nat → Int32} {I : z_I} {L : z_L} {J : z_I} {K : z_L} (hR : Rel I L J K) {v3 : Int32} {i0 : Nat} (e3 : nI i0 = v3) (h6 : i0 + 6 ≤ Ln) (hL : Ln ≤ 3072) (nx9 : ∀ (I : z_I) (L : z_L) (J : z_I) (K : z_L), Rel I L J K → z_V b Ln xs 1842 [(0, .ref 1), (1, .ref 2), (2, .ref 3), (3, .int v3)] [] I L J K) : z_V b Ln xs 733 [(0, .ref 1), (1, .ref 2), (2, .ref 3), (3, .int v3)] [] I L J K := by
  obtain ⟨a1, ha1⟩ : ∃ a, xs ((v3 + (1 : Int32)).toNatClampNeg) = a := ⟨_, rfl⟩
  obtain ⟨a2, ha2⟩ : ∃ a, xs ((v3 + (2 : Int32)).toNatClampNeg) = a := ⟨_, rfl⟩
  refine w_aload_n 1 dL_law_733 rfl rfl ?_
  refine w_aload_n 0 dL_law_734 rfl rfl ?_
  refine w_iload_n 3 dL_law_735 rfl rfl ?_
  refine w_iconst (v := (1)) dL_law_736 (by decide) ?_
  refine w_iadd dL_law_737 ?_
  refine w_sld dL_law_738 (e3 ▸ z_ix h6 hL (j := 1) (by decide)) ha1 ?_
  refine w_aload_n 0 dL_law_739 rfl rfl ?_
  refine w_iload_n 3 dL_law_740 rfl rfl ?_
  refine w_iconst (v := (2)) dL_law_741 (by decide) ?_
  refine w_iadd dL_law_742 ?_
  refine w_sld dL_law_743 (e3 ▸ z_ix h6 hL (j := 2) (by decide)) ha2 ?_
  obtain ⟨qX, qM, hX, hM, hE, hR1⟩ := hs I L J K a1 a2 hR
  refine w_callXi [.int a1, .int a2] (c_X10_claim (I := I) (L := L) hX) dL_law_744 lk_L_80 rfl cd_X10_claim rfl rfl rfl (Nat.le_of_ble_eq_true rfl) ⟨rfl, rfl, Nat.le_of_ble_eq_true rfl, Nat.le_of_ble_eq_true rfl⟩ ?_
  refine w_aload_n 2 dL_law_747 rfl rfl ?_
  refine w_aload_n 0 dL_law_748 rfl rfl ?_
  refine w_iload_n 3 dL_law_749 rfl rfl ?_
  refine w_iconst (v := (1)) dL_law_750 (by decide) ?_
  refine w_iadd dL_law_751 ?_
  refine w_sld dL_law_752 (e3 ▸ z_ix h6 hL (j := 1) (by decide)) ha1 ?_
  refine w_aload_n 0 dL_law_753 rfl rfl ?_
  refine w_iload_n 3 dL_law_754 rfl rfl ?_
  refine w_iconst (v := (2)) dL_law_755 (by decide) ?_
  refine w_iadd dL_law_756 ?_
  refine w_sld dL_law_757 (e3 ▸ z_ix h6 hL (j := 2) (by decide)) ha2 ?_
  refine w_callMi [.int a1, .int a2] (c_X11_claim (I := J) (L := K) hM) dL_law_758 lk_L_83 rfl cd_X11_claim rfl rfl rfl (Nat.le_of_ble_eq_true rfl) ⟨rfl, rfl, Nat.le_of_ble_eq_true rfl, Nat.le_of_ble_eq_true rfl⟩ ?_
  refine w_icmp_eq 1842 dL_law_761 (by decide) (fun _ => nx9 _ _ _ _ hR1) (fun h => absurd hE h)
set_option maxRecDepth 100000 in
set_option maxHeartbeats 4000000 in
theorem w_scholar_case {Rel : z_I → z_L → z_I → z_L → Prop} (hs : s_scholar Rel) {b Ln : Nat} {xs : Nat → Int32} {I : z_I} {L : z_L} {J : z_I} {K : z_L} (hR : Rel I L J K) {v3 : Int32} {i0 : Nat} (e3 : nI i0 = v3) (h6 : i0 + 6 ≤ Ln) (hL : Ln ≤ 3072) (nx9 : ∀ (I : z_I) (L : z_L) (J : z_I) (K : z_L), Rel I L J K → z_V b Ln xs 1842 [(0, .ref 1), (1, .ref 2), (2, .ref 3), (3, .int v3)] [] I L J K) : z_V b Ln xs 766 [(0, .ref 1), (1, .ref 2), (2, .ref 3), (3, .int v3)] [] I L J K := by
  obtain ⟨a1, ha1⟩ : ∃ a, xs ((v3 + (1 : Int32)).toNatClampNeg) = a := ⟨_, rfl⟩
  obtain ⟨a2, ha2⟩ : ∃ a, xs ((v3 + (2 : Int32)).toNatClampNeg) = a := ⟨_, rfl⟩
  refine w_aload_n 1 dL_law_766 rfl rfl ?_
  refine w_aload_n 0 dL_law_767 rfl rfl ?_
  refine w_iload_n 3 dL_law_768 rfl rfl ?_
  refine w_iconst (v := (1)) dL_law_769 (by decide) ?_
  refine w_iadd dL_law_770 ?_
  refine w_sld dL_law_771 (e3 ▸ z_ix h6 hL (j := 1) (by decide)) ha1 ?_
  refine w_aload_n 0 dL_law_772 rfl rfl ?_
  refine w_iload_n 3 dL_law_773 rfl rfl ?_
  refine w_iconst (v := (2)) dL_law_774 (by decide) ?_
  refine w_iadd dL_law_775 ?_
  refine w_sld dL_law_776 (e3 ▸ z_ix h6 hL (j := 2) (by decide)) ha2 ?_
  obtain ⟨qX, qM, hX, hM, hE, hR1⟩ := hs I L J K a1 a2 hR
  refine w_callXi [.int a1, .int a2] (c_X10_scholar (I := I) (L := L) hX) dL_law_777 lk_L_84 rfl cd_X10_scholar rfl rfl rfl (Nat.le_of_ble_eq_true rfl) ⟨rfl, rfl, Nat.le_of_ble_eq_true rfl, Nat.le_of_ble_eq_true rfl⟩ ?_
  refine w_aload_n 2 dL_law_780 rfl rfl ?_
  refine w_aload_n 0 dL_law_781 rfl rfl ?_
  refine w_iload_n 3 dL_law_782 rfl rfl ?_
  refine w_iconst (v := (1)) dL_law_783 (by decide) ?_
  refine w_iadd dL_law_784 ?_
  refine w_sld dL_law_785 (e3 ▸ z_ix h6 hL (j := 1) (by decide)) ha1 ?_
  refine w_aload_n 0 dL_law_786 rfl rfl ?_
  refine w_iload_n 3 dL_law_787 rfl rfl ?_
  refine w_iconst (v := (2)) dL_law_788 (by decide) ?_
  refine w_iadd dL_law_789 ?_
  refine w_sld dL_law_790 (e3 ▸ z_ix h6 hL (j := 2) (by decide)) ha2 ?_
  refine w_callMi [.int a1, .int a2] (c_X11_scholar (I := J) (L := K) hM) dL_law_791 lk_L_87 rfl cd_X11_scholar rfl rfl rfl (Nat.le_of_ble_eq_true rfl) ⟨rfl, rfl, Nat.le_of_ble_eq_true rfl, Nat.le_of_ble_eq_true rfl⟩ ?_
  refine w_icmp_eq 1842 dL_law_794 (by decide) (fun _ => nx9 _ _ _ _ hR1) (fun h => absurd hE h)
set_option maxRecDepth 100000 in
set_option maxHeartbeats 4000000 in
theorem w_make_case {Rel : z_I → z_L → z_I → z_L → Prop} (hs : s_make Rel) {b Ln : Nat} {xs : Nat → Int32} {I : z_I} {L : z_L} {J : z_I} {K : z_L} (hR : Rel I L J K) {v3 : Int32} {i0 : Nat} (e3 : nI i0 = v3) (h6 : i0 + 6 ≤ Ln) (hL : Ln ≤ 3072) (nx9 : ∀ (I : z_I) (L : z_L) (J : z_I) (K : z_L), Rel I L J K → z_V b Ln xs 1842 [(0, .ref 1), (1, .ref 2), (2, .ref 3), (3, .int v3)] [] I L J K) : z_V b Ln xs 799 [(0, .ref 1), (1, .ref 2), (2, .ref 3), (3, .int v3)] [] I L J K := by
  obtain ⟨a1, ha1⟩ : ∃ a, xs ((v3 + (1 : Int32)).toNatClampNeg) = a := ⟨_, rfl⟩
  refine w_aload_n 1 dL_law_799 rfl rfl ?_
  refine w_aload_n 0 dL_law_800 rfl rfl ?_
  refine w_iload_n 3 dL_law_801 rfl rfl ?_
  refine w_iconst (v := (1)) dL_law_802 (by decide) ?_
  refine w_iadd dL_law_803 ?_
  refine w_sld dL_law_804 (e3 ▸ z_ix h6 hL (j := 1) (by decide)) ha1 ?_
  obtain ⟨qX, qM, hX, hM, hE, hR1⟩ := hs I L J K a1 hR
  refine w_callXi [.int a1] (c_X10_make (I := I) (L := L) hX) dL_law_805 lk_L_88 rfl cd_X10_make rfl rfl rfl (Nat.le_of_ble_eq_true rfl) ⟨rfl, rfl, Nat.le_of_ble_eq_true rfl, Nat.le_of_ble_eq_true rfl⟩ ?_
  refine w_aload_n 2 dL_law_808 rfl rfl ?_
  refine w_aload_n 0 dL_law_809 rfl rfl ?_
  refine w_iload_n 3 dL_law_810 rfl rfl ?_
  refine w_iconst (v := (1)) dL_law_811 (by decide) ?_
  refine w_iadd dL_law_812 ?_
  refine w_sld dL_law_813 (e3 ▸ z_ix h6 hL (j := 1) (by decide)) ha1 ?_
  refine w_callMi [.int a1] (c_X11_make (I := J) (L := K) hM) dL_law_814 lk_L_91 rfl cd_X11_make rfl rfl rfl (Nat.le_of_ble_eq_true rfl) ⟨rfl, rfl, Nat.le_of_ble_eq_true rfl, Nat.le_of_ble_eq_true rfl⟩ ?_
  refine w_icmp_eq 1842 dL_law_817 (by decide) (fun _ => nx9 _ _ _ _ hR1) (fun h => absurd hE h)
set_option maxRecDepth 100000 in
set_option maxHeartbeats 4000000 in
theorem w_recant_case {Rel : z_I → z_L → z_I → z_L → Prop} (hs : s_recant Rel) {b Ln : Nat} {xs : Nat → Int32} {I : z_I} {L : z_L} {J : z_I} {K : z_L} (hR : Rel I L J K) {v3 : Int32} {i0 : Nat} (e3 : nI i0 = v3) (h6 : i0 + 6 ≤ Ln) (hL : Ln ≤ 3072) (nx9 : ∀ (I : z_I) (L : z_L) (J : z_I) (K : z_L), Rel I L J K → z_V b Ln xs 1842 [(0, .ref 1), (1, .ref 2), (2, .ref 3), (3, .int v3)] [] I L J K) : z_V b Ln xs 822 [(0, .ref 1), (1, .ref 2), (2, .ref 3), (3, .int v3)] [] I L J K := by
  obtain ⟨a1, ha1⟩ : ∃ a, xs ((v3 + (1 : Int32)).toNatClampNeg) = a := ⟨_, rfl⟩
  refine w_aload_n 1 dL_law_822 rfl rfl ?_
  refine w_aload_n 0 dL_law_823 rfl rfl ?_
  refine w_iload_n 3 dL_law_824 rfl rfl ?_
  refine w_iconst (v := (1)) dL_law_825 (by decide) ?_
  refine w_iadd dL_law_826 ?_
  refine w_sld dL_law_827 (e3 ▸ z_ix h6 hL (j := 1) (by decide)) ha1 ?_
  obtain ⟨qM, hM, hE, hR1⟩ := hs I L J K a1 hR
  refine w_callXi [.int a1] (c_X10_recant (I := I) (L := L) a1) dL_law_828 lk_L_92 rfl cd_X10_recant rfl rfl rfl (Nat.le_of_ble_eq_true rfl) ⟨rfl, rfl, Nat.le_of_ble_eq_true rfl, Nat.le_of_ble_eq_true rfl⟩ ?_
  refine w_aload_n 2 dL_law_831 rfl rfl ?_
  refine w_aload_n 0 dL_law_832 rfl rfl ?_
  refine w_iload_n 3 dL_law_833 rfl rfl ?_
  refine w_iconst (v := (1)) dL_law_834 (by decide) ?_
  refine w_iadd dL_law_835 ?_
  refine w_sld dL_law_836 (e3 ▸ z_ix h6 hL (j := 1) (by decide)) ha1 ?_
  refine w_callMi [.int a1] (c_X11_recant (I := J) (L := K) hM) dL_law_837 lk_L_95 rfl cd_X11_recant rfl rfl rfl (Nat.le_of_ble_eq_true rfl) ⟨rfl, rfl, Nat.le_of_ble_eq_true rfl, Nat.le_of_ble_eq_true rfl⟩ ?_
  refine w_icmp_eq 1842 dL_law_840 (by decide) (fun _ => nx9 _ _ _ _ hR1) (fun h => absurd hE h)
set_option maxRecDepth 100000 in
set_option maxHeartbeats 4000000 in
theorem w_forget_case {Rel : z_I → z_L → z_I → z_L → Prop} (hs : s_forget Rel) {b Ln : Nat} {xs : Nat → Int32} {I : z_I} {L : z_L} {J : z_I} {K : z_L} (hR : Rel I L J K) {v3 : Int32} {i0 : Nat} (e3 : nI i0 = v3) (h6 : i0 + 6 ≤ Ln) (hL : Ln ≤ 3072) (nx9 : ∀ (I : z_I) (L : z_L) (J : z_I) (K : z_L), Rel I L J K → z_V b Ln xs 1842 [(0, .ref 1), (1, .ref 2), (2, .ref 3), (3, .int v3)] [] I L J K) : z_V b Ln xs 845 [(0, .ref 1), (1, .ref 2), (2, .ref 3), (3, .int v3)] [] I L J K := by
  refine w_aload_n 1 dL_law_845 rfl rfl ?_
  obtain ⟨qM, hM, hE, hR1⟩ := hs I L J K  hR
  refine w_callXi [] (c_X10_forget (I := I) (L := L) ) dL_law_846 lk_L_96 rfl cd_X10_forget rfl rfl rfl (Nat.le_of_ble_eq_true rfl) ⟨rfl, rfl, Nat.le_of_ble_eq_true rfl, Nat.le_of_ble_eq_true rfl⟩ ?_
  refine w_aload_n 2 dL_law_849 rfl rfl ?_
  refine w_callMi [] (c_X11_forget (I := J) (L := K) hM) dL_law_850 lk_L_99 rfl cd_X11_forget rfl rfl rfl (Nat.le_of_ble_eq_true rfl) ⟨rfl, rfl, Nat.le_of_ble_eq_true rfl, Nat.le_of_ble_eq_true rfl⟩ ?_
  refine w_icmp_eq 1842 dL_law_853 (by decide) (fun _ => nx9 _ _ _ _ hR1) (fun h => absurd hE h)
set_option maxRecDepth 100000 in
set_option maxHeartbeats 4000000 in
theorem w_walk_case {Rel : z_I → z_L → z_I → z_L → Prop} (hs : s_walk Rel) {b Ln : Nat} {xs : Nat → Int32} {I : z_I} {L : z_L} {J : z_I} {K : z_L} (hR : Rel I L J K) {v3 : Int32} {i0 : Nat} (e3 : nI i0 = v3) (h6 : i0 + 6 ≤ Ln) (hL : Ln ≤ 3072) (nx9 : ∀ (I : z_I) (L : z_L) (J : z_I) (K : z_L), Rel I L J K → z_V b Ln xs 1842 [(0, .ref 1), (1, .ref 2), (2, .ref 3), (3, .int v3)] [] I L J K) : z_V b Ln xs 858 [(0, .ref 1), (1, .ref 2), (2, .ref 3), (3, .int v3)] [] I L J K := by
  obtain ⟨a1, ha1⟩ : ∃ a, xs ((v3 + (1 : Int32)).toNatClampNeg) = a := ⟨_, rfl⟩
  obtain ⟨a2, ha2⟩ : ∃ a, xs ((v3 + (2 : Int32)).toNatClampNeg) = a := ⟨_, rfl⟩
  refine w_aload_n 1 dL_law_858 rfl rfl ?_
  refine w_aload_n 0 dL_law_859 rfl rfl ?_
  refine w_iload_n 3 dL_law_860 rfl rfl ?_
  refine w_iconst (v := (1)) dL_law_861 (by decide) ?_
  refine w_iadd dL_law_862 ?_
  refine w_sld dL_law_863 (e3 ▸ z_ix h6 hL (j := 1) (by decide)) ha1 ?_
  refine w_aload_n 0 dL_law_864 rfl rfl ?_
  refine w_iload_n 3 dL_law_865 rfl rfl ?_
  refine w_iconst (v := (2)) dL_law_866 (by decide) ?_
  refine w_iadd dL_law_867 ?_
  refine w_sld dL_law_868 (e3 ▸ z_ix h6 hL (j := 2) (by decide)) ha2 ?_
  obtain ⟨qX, qM, hX, hM, hE, hR1⟩ := hs I L J K a1 a2 hR
  refine w_callXi [.int a1, .int a2] (c_X10_walk (I := I) (L := L) hX) dL_law_869 lk_L_100 rfl cd_X10_walk rfl rfl rfl (Nat.le_of_ble_eq_true rfl) ⟨rfl, rfl, Nat.le_of_ble_eq_true rfl, Nat.le_of_ble_eq_true rfl⟩ ?_
  refine w_aload_n 2 dL_law_872 rfl rfl ?_
  refine w_aload_n 0 dL_law_873 rfl rfl ?_
  refine w_iload_n 3 dL_law_874 rfl rfl ?_
  refine w_iconst (v := (1)) dL_law_875 (by decide) ?_
  refine w_iadd dL_law_876 ?_
  refine w_sld dL_law_877 (e3 ▸ z_ix h6 hL (j := 1) (by decide)) ha1 ?_
  refine w_aload_n 0 dL_law_878 rfl rfl ?_
  refine w_iload_n 3 dL_law_879 rfl rfl ?_
  refine w_iconst (v := (2)) dL_law_880 (by decide) ?_
  refine w_iadd dL_law_881 ?_
  refine w_sld dL_law_882 (e3 ▸ z_ix h6 hL (j := 2) (by decide)) ha2 ?_
  refine w_callMi [.int a1, .int a2] (c_X11_walk (I := J) (L := K) hM) dL_law_883 lk_L_103 rfl cd_X11_walk rfl rfl rfl (Nat.le_of_ble_eq_true rfl) ⟨rfl, rfl, Nat.le_of_ble_eq_true rfl, Nat.le_of_ble_eq_true rfl⟩ ?_
  refine w_icmp_eq 1842 dL_law_886 (by decide) (fun _ => nx9 _ _ _ _ hR1) (fun h => absurd hE h)
set_option maxRecDepth 100000 in
set_option maxHeartbeats 4000000 in
theorem w_pick_case {Rel : z_I → z_L → z_I → z_L → Prop} (hs : s_pick Rel) {b Ln : Nat} {xs : Nat → Int32} {I : z_I} {L : z_L} {J : z_I} {K : z_L} (hR : Rel I L J K) {v3 : Int32} {i0 : Nat} (e3 : nI i0 = v3) (h6 : i0 + 6 ≤ Ln) (hL : Ln ≤ 3072) (nx9 : ∀ (I : z_I) (L : z_L) (J : z_I) (K : z_L), Rel I L J K → z_V b Ln xs 1842 [(0, .ref 1), (1, .ref 2), (2, .ref 3), (3, .int v3)] [] I L J K) : z_V b Ln xs 891 [(0, .ref 1), (1, .ref 2), (2, .ref 3), (3, .int v3)] [] I L J K := by
  obtain ⟨a1, ha1⟩ : ∃ a, xs ((v3 + (1 : Int32)).toNatClampNeg) = a := ⟨_, rfl⟩
  refine w_aload_n 1 dL_law_891 rfl rfl ?_
  refine w_aload_n 0 dL_law_892 rfl rfl ?_
  refine w_iload_n 3 dL_law_893 rfl rfl ?_
  refine w_iconst (v := (1)) dL_law_894 (by decide) ?_
  refine w_iadd dL_law_895 ?_
  refine w_sld dL_law_896 (e3 ▸ z_ix h6 hL (j := 1) (by decide)) ha1 ?_
  obtain ⟨qX, qM, hX, hM, hE, hR1⟩ := hs I L J K a1 hR
  refine w_callXi [.int a1] (c_X10_pick (I := I) (L := L) hX) dL_law_897 lk_L_104 rfl cd_X10_pick rfl rfl rfl (Nat.le_of_ble_eq_true rfl) ⟨rfl, rfl, Nat.le_of_ble_eq_true rfl, Nat.le_of_ble_eq_true rfl⟩ ?_
  refine w_aload_n 2 dL_law_900 rfl rfl ?_
  refine w_aload_n 0 dL_law_901 rfl rfl ?_
  refine w_iload_n 3 dL_law_902 rfl rfl ?_
  refine w_iconst (v := (1)) dL_law_903 (by decide) ?_
  refine w_iadd dL_law_904 ?_
  refine w_sld dL_law_905 (e3 ▸ z_ix h6 hL (j := 1) (by decide)) ha1 ?_
  refine w_callMi [.int a1] (c_X11_pick (I := J) (L := K) hM) dL_law_906 lk_L_107 rfl cd_X11_pick rfl rfl rfl (Nat.le_of_ble_eq_true rfl) ⟨rfl, rfl, Nat.le_of_ble_eq_true rfl, Nat.le_of_ble_eq_true rfl⟩ ?_
  refine w_icmp_eq 1842 dL_law_909 (by decide) (fun _ => nx9 _ _ _ _ hR1) (fun h => absurd hE h)
set_option maxRecDepth 100000 in
set_option maxHeartbeats 4000000 in
theorem w_night_case {Rel : z_I → z_L → z_I → z_L → Prop} (hs : s_night Rel) {b Ln : Nat} {xs : Nat → Int32} {I : z_I} {L : z_L} {J : z_I} {K : z_L} (hR : Rel I L J K) {v3 : Int32} {i0 : Nat} (e3 : nI i0 = v3) (h6 : i0 + 6 ≤ Ln) (hL : Ln ≤ 3072) (nx9 : ∀ (I : z_I) (L : z_L) (J : z_I) (K : z_L), Rel I L J K → z_V b Ln xs 1842 [(0, .ref 1), (1, .ref 2), (2, .ref 3), (3, .int v3)] [] I L J K) : z_V b Ln xs 914 [(0, .ref 1), (1, .ref 2), (2, .ref 3), (3, .int v3)] [] I L J K := by
  obtain ⟨a1, ha1⟩ : ∃ a, xs ((v3 + (1 : Int32)).toNatClampNeg) = a := ⟨_, rfl⟩
  refine w_aload_n 1 dL_law_914 rfl rfl ?_
  refine w_aload_n 0 dL_law_915 rfl rfl ?_
  refine w_iload_n 3 dL_law_916 rfl rfl ?_
  refine w_iconst (v := (1)) dL_law_917 (by decide) ?_
  refine w_iadd dL_law_918 ?_
  refine w_sld dL_law_919 (e3 ▸ z_ix h6 hL (j := 1) (by decide)) ha1 ?_
  obtain ⟨qX, qM, hX, hM, hE, hR1⟩ := hs I L J K a1 hR
  refine w_callXi [.int a1] (c_X10_night (I := I) (L := L) hX) dL_law_920 lk_L_108 rfl cd_X10_night rfl rfl rfl (Nat.le_of_ble_eq_true rfl) ⟨rfl, rfl, Nat.le_of_ble_eq_true rfl, Nat.le_of_ble_eq_true rfl⟩ ?_
  refine w_aload_n 2 dL_law_923 rfl rfl ?_
  refine w_aload_n 0 dL_law_924 rfl rfl ?_
  refine w_iload_n 3 dL_law_925 rfl rfl ?_
  refine w_iconst (v := (1)) dL_law_926 (by decide) ?_
  refine w_iadd dL_law_927 ?_
  refine w_sld dL_law_928 (e3 ▸ z_ix h6 hL (j := 1) (by decide)) ha1 ?_
  refine w_callMi [.int a1] (c_X11_night (I := J) (L := K) hM) dL_law_929 lk_L_111 rfl cd_X11_night rfl rfl rfl (Nat.le_of_ble_eq_true rfl) ⟨rfl, rfl, Nat.le_of_ble_eq_true rfl, Nat.le_of_ble_eq_true rfl⟩ ?_
  refine w_icmp_eq 1842 dL_law_932 (by decide) (fun _ => nx9 _ _ _ _ hR1) (fun h => absurd hE h)
set_option maxRecDepth 100000 in
set_option maxHeartbeats 4000000 in
theorem w_weed_case {Rel : z_I → z_L → z_I → z_L → Prop} (hs : s_weed Rel) {b Ln : Nat} {xs : Nat → Int32} {I : z_I} {L : z_L} {J : z_I} {K : z_L} (hR : Rel I L J K) {v3 : Int32} {i0 : Nat} (e3 : nI i0 = v3) (h6 : i0 + 6 ≤ Ln) (hL : Ln ≤ 3072) (nx9 : ∀ (I : z_I) (L : z_L) (J : z_I) (K : z_L), Rel I L J K → z_V b Ln xs 1842 [(0, .ref 1), (1, .ref 2), (2, .ref 3), (3, .int v3)] [] I L J K) : z_V b Ln xs 937 [(0, .ref 1), (1, .ref 2), (2, .ref 3), (3, .int v3)] [] I L J K := by
  obtain ⟨a1, ha1⟩ : ∃ a, xs ((v3 + (1 : Int32)).toNatClampNeg) = a := ⟨_, rfl⟩
  refine w_aload_n 1 dL_law_937 rfl rfl ?_
  refine w_aload_n 0 dL_law_938 rfl rfl ?_
  refine w_iload_n 3 dL_law_939 rfl rfl ?_
  refine w_iconst (v := (1)) dL_law_940 (by decide) ?_
  refine w_iadd dL_law_941 ?_
  refine w_sld dL_law_942 (e3 ▸ z_ix h6 hL (j := 1) (by decide)) ha1 ?_
  obtain ⟨qX, qM, hX, hM, hE, hR1⟩ := hs I L J K a1 hR
  refine w_callXi [.int a1] (c_X10_weed (I := I) (L := L) hX) dL_law_943 lk_L_112 rfl cd_X10_weed rfl rfl rfl (Nat.le_of_ble_eq_true rfl) ⟨rfl, rfl, Nat.le_of_ble_eq_true rfl, Nat.le_of_ble_eq_true rfl⟩ ?_
  refine w_aload_n 2 dL_law_946 rfl rfl ?_
  refine w_aload_n 0 dL_law_947 rfl rfl ?_
  refine w_iload_n 3 dL_law_948 rfl rfl ?_
  refine w_iconst (v := (1)) dL_law_949 (by decide) ?_
  refine w_iadd dL_law_950 ?_
  refine w_sld dL_law_951 (e3 ▸ z_ix h6 hL (j := 1) (by decide)) ha1 ?_
  refine w_callMi [.int a1] (c_X11_weed (I := J) (L := K) hM) dL_law_952 lk_L_115 rfl cd_X11_weed rfl rfl rfl (Nat.le_of_ble_eq_true rfl) ⟨rfl, rfl, Nat.le_of_ble_eq_true rfl, Nat.le_of_ble_eq_true rfl⟩ ?_
  refine w_icmp_eq 1842 dL_law_955 (by decide) (fun _ => nx9 _ _ _ _ hR1) (fun h => absurd hE h)
set_option maxRecDepth 100000 in
set_option maxHeartbeats 4000000 in
theorem w_teach_case {Rel : z_I → z_L → z_I → z_L → Prop} (hs : s_teach Rel) {b Ln : Nat} {xs : Nat → Int32} {I : z_I} {L : z_L} {J : z_I} {K : z_L} (hR : Rel I L J K) {v3 : Int32} {i0 : Nat} (e3 : nI i0 = v3) (h6 : i0 + 6 ≤ Ln) (hL : Ln ≤ 3072) (nx9 : ∀ (I : z_I) (L : z_L) (J : z_I) (K : z_L), Rel I L J K → z_V b Ln xs 1842 [(0, .ref 1), (1, .ref 2), (2, .ref 3), (3, .int v3)] [] I L J K) : z_V b Ln xs 960 [(0, .ref 1), (1, .ref 2), (2, .ref 3), (3, .int v3)] [] I L J K := by
  obtain ⟨a1, ha1⟩ : ∃ a, xs ((v3 + (1 : Int32)).toNatClampNeg) = a := ⟨_, rfl⟩
  obtain ⟨a2, ha2⟩ : ∃ a, xs ((v3 + (2 : Int32)).toNatClampNeg) = a := ⟨_, rfl⟩
  obtain ⟨a3, ha3⟩ : ∃ a, xs ((v3 + (3 : Int32)).toNatClampNeg) = a := ⟨_, rfl⟩
  refine w_aload_n 1 dL_law_960 rfl rfl ?_
  refine w_aload_n 0 dL_law_961 rfl rfl ?_
  refine w_iload_n 3 dL_law_962 rfl rfl ?_
  refine w_iconst (v := (1)) dL_law_963 (by decide) ?_
  refine w_iadd dL_law_964 ?_
  refine w_sld dL_law_965 (e3 ▸ z_ix h6 hL (j := 1) (by decide)) ha1 ?_
  refine w_aload_n 0 dL_law_966 rfl rfl ?_
  refine w_iload_n 3 dL_law_967 rfl rfl ?_
  refine w_iconst (v := (2)) dL_law_968 (by decide) ?_
  refine w_iadd dL_law_969 ?_
  refine w_sld dL_law_970 (e3 ▸ z_ix h6 hL (j := 2) (by decide)) ha2 ?_
  refine w_aload_n 0 dL_law_971 rfl rfl ?_
  refine w_iload_n 3 dL_law_972 rfl rfl ?_
  refine w_iconst (v := (3)) dL_law_973 (by decide) ?_
  refine w_iadd dL_law_974 ?_
  refine w_sld dL_law_975 (e3 ▸ z_ix h6 hL (j := 3) (by decide)) ha3 ?_
  by_cases ha3z : a3 = 0
  · refine w_if_eq 983 dL_law_976 (by decide) (fun _ => ?_) (fun h => absurd ha3z h)
    refine w_iconst (v := (0)) dL_law_983 (by decide) ?_
    obtain ⟨qX, qM, hX, hM, hE, hR1⟩ := hs I L J K a1 a2 false hR
    refine w_callXi [.int a1, .int a2, .int (zb false)] (c_X10_teach (I := I) (L := L) hX) dL_law_984 lk_L_116 rfl cd_X10_teach rfl rfl rfl (Nat.le_of_ble_eq_true rfl) ⟨rfl, rfl, Nat.le_of_ble_eq_true rfl, Nat.le_of_ble_eq_true rfl⟩ ?_
    refine w_aload_n 2 dL_law_987 rfl rfl ?_
    refine w_aload_n 0 dL_law_988 rfl rfl ?_
    refine w_iload_n 3 dL_law_989 rfl rfl ?_
    refine w_iconst (v := (1)) dL_law_990 (by decide) ?_
    refine w_iadd dL_law_991 ?_
    refine w_sld dL_law_992 (e3 ▸ z_ix h6 hL (j := 1) (by decide)) ha1 ?_
    refine w_aload_n 0 dL_law_993 rfl rfl ?_
    refine w_iload_n 3 dL_law_994 rfl rfl ?_
    refine w_iconst (v := (2)) dL_law_995 (by decide) ?_
    refine w_iadd dL_law_996 ?_
    refine w_sld dL_law_997 (e3 ▸ z_ix h6 hL (j := 2) (by decide)) ha2 ?_
    refine w_aload_n 0 dL_law_998 rfl rfl ?_
    refine w_iload_n 3 dL_law_999 rfl rfl ?_
    refine w_iconst (v := (3)) dL_law_1000 (by decide) ?_
    refine w_iadd dL_law_1001 ?_
    refine w_sld dL_law_1002 (e3 ▸ z_ix h6 hL (j := 3) (by decide)) ha3 ?_
    refine w_if_eq 1010 dL_law_1003 (by decide) (fun _ => ?_) (fun h => absurd ha3z h)
    refine w_iconst (v := (0)) dL_law_1010 (by decide) ?_
    refine w_callMi [.int a1, .int a2, .int (zb false)] (c_X11_teach (I := J) (L := K) hM) dL_law_1011 lk_L_120 rfl cd_X11_teach rfl rfl rfl (Nat.le_of_ble_eq_true rfl) ⟨rfl, rfl, Nat.le_of_ble_eq_true rfl, Nat.le_of_ble_eq_true rfl⟩ ?_
    refine w_icmp_eq 1842 dL_law_1014 (by decide) (fun _ => nx9 _ _ _ _ hR1) (fun h => absurd (congrArg zb hE) h)
  · refine w_if_eq 983 dL_law_976 (by decide) (fun h => absurd h ha3z) (fun _ => ?_)
    refine w_iconst (v := (1)) dL_law_979 (by decide) ?_
    refine w_goto 984 dL_law_980 (by decide) ?_
    obtain ⟨qX, qM, hX, hM, hE, hR1⟩ := hs I L J K a1 a2 true hR
    refine w_callXi [.int a1, .int a2, .int (zb true)] (c_X10_teach (I := I) (L := L) hX) dL_law_984 lk_L_116 rfl cd_X10_teach rfl rfl rfl (Nat.le_of_ble_eq_true rfl) ⟨rfl, rfl, Nat.le_of_ble_eq_true rfl, Nat.le_of_ble_eq_true rfl⟩ ?_
    refine w_aload_n 2 dL_law_987 rfl rfl ?_
    refine w_aload_n 0 dL_law_988 rfl rfl ?_
    refine w_iload_n 3 dL_law_989 rfl rfl ?_
    refine w_iconst (v := (1)) dL_law_990 (by decide) ?_
    refine w_iadd dL_law_991 ?_
    refine w_sld dL_law_992 (e3 ▸ z_ix h6 hL (j := 1) (by decide)) ha1 ?_
    refine w_aload_n 0 dL_law_993 rfl rfl ?_
    refine w_iload_n 3 dL_law_994 rfl rfl ?_
    refine w_iconst (v := (2)) dL_law_995 (by decide) ?_
    refine w_iadd dL_law_996 ?_
    refine w_sld dL_law_997 (e3 ▸ z_ix h6 hL (j := 2) (by decide)) ha2 ?_
    refine w_aload_n 0 dL_law_998 rfl rfl ?_
    refine w_iload_n 3 dL_law_999 rfl rfl ?_
    refine w_iconst (v := (3)) dL_law_1000 (by decide) ?_
    refine w_iadd dL_law_1001 ?_
    refine w_sld dL_law_1002 (e3 ▸ z_ix h6 hL (j := 3) (by decide)) ha3 ?_
    refine w_if_eq 1010 dL_law_1003 (by decide) (fun h => absurd h ha3z) (fun _ => ?_)
    refine w_iconst (v := (1)) dL_law_1006 (by decide) ?_
    refine w_goto 1011 dL_law_1007 (by decide) ?_
    refine w_callMi [.int a1, .int a2, .int (zb true)] (c_X11_teach (I := J) (L := K) hM) dL_law_1011 lk_L_120 rfl cd_X11_teach rfl rfl rfl (Nat.le_of_ble_eq_true rfl) ⟨rfl, rfl, Nat.le_of_ble_eq_true rfl, Nat.le_of_ble_eq_true rfl⟩ ?_
    refine w_icmp_eq 1842 dL_law_1014 (by decide) (fun _ => nx9 _ _ _ _ hR1) (fun h => absurd (congrArg zb hE) h)
set_option maxRecDepth 100000 in
set_option maxHeartbeats 4000000 in
theorem w_weigh_case {Rel : z_I → z_L → z_I → z_L → Prop} (hs : s_weigh Rel) {b Ln : Nat} {xs : Nat → Int32} {I : z_I} {L : z_L} {J : z_I} {K : z_L} (hR : Rel I L J K) {v3 : Int32} {i0 : Nat} (e3 : nI i0 = v3) (h6 : i0 + 6 ≤ Ln) (hL : Ln ≤ 3072) (nx9 : ∀ (I : z_I) (L : z_L) (J : z_I) (K : z_L), Rel I L J K → z_V b Ln xs 1842 [(0, .ref 1), (1, .ref 2), (2, .ref 3), (3, .int v3)] [] I L J K) : z_V b Ln xs 1019 [(0, .ref 1), (1, .ref 2), (2, .ref 3), (3, .int v3)] [] I L J K := by
  obtain ⟨a1, ha1⟩ : ∃ a, xs ((v3 + (1 : Int32)).toNatClampNeg) = a := ⟨_, rfl⟩
  obtain ⟨a2, ha2⟩ : ∃ a, xs ((v3 + (2 : Int32)).toNatClampNeg) = a := ⟨_, rfl⟩
  refine w_aload_n 1 dL_law_1019 rfl rfl ?_
  refine w_aload_n 0 dL_law_1020 rfl rfl ?_
  refine w_iload_n 3 dL_law_1021 rfl rfl ?_
  refine w_iconst (v := (1)) dL_law_1022 (by decide) ?_
  refine w_iadd dL_law_1023 ?_
  refine w_sld dL_law_1024 (e3 ▸ z_ix h6 hL (j := 1) (by decide)) ha1 ?_
  refine w_aload_n 0 dL_law_1025 rfl rfl ?_
  refine w_iload_n 3 dL_law_1026 rfl rfl ?_
  refine w_iconst (v := (2)) dL_law_1027 (by decide) ?_
  refine w_iadd dL_law_1028 ?_
  refine w_sld dL_law_1029 (e3 ▸ z_ix h6 hL (j := 2) (by decide)) ha2 ?_
  obtain ⟨qX, qM, hX, hM, hE, hR1⟩ := hs I L J K a1 a2 hR
  refine w_callXi [.int a1, .int a2] (c_X10_weigh (I := I) (L := L) hX) dL_law_1030 lk_L_121 rfl cd_X10_weigh rfl rfl rfl (Nat.le_of_ble_eq_true rfl) ⟨rfl, rfl, Nat.le_of_ble_eq_true rfl, Nat.le_of_ble_eq_true rfl⟩ ?_
  refine w_aload_n 2 dL_law_1033 rfl rfl ?_
  refine w_aload_n 0 dL_law_1034 rfl rfl ?_
  refine w_iload_n 3 dL_law_1035 rfl rfl ?_
  refine w_iconst (v := (1)) dL_law_1036 (by decide) ?_
  refine w_iadd dL_law_1037 ?_
  refine w_sld dL_law_1038 (e3 ▸ z_ix h6 hL (j := 1) (by decide)) ha1 ?_
  refine w_aload_n 0 dL_law_1039 rfl rfl ?_
  refine w_iload_n 3 dL_law_1040 rfl rfl ?_
  refine w_iconst (v := (2)) dL_law_1041 (by decide) ?_
  refine w_iadd dL_law_1042 ?_
  refine w_sld dL_law_1043 (e3 ▸ z_ix h6 hL (j := 2) (by decide)) ha2 ?_
  refine w_callMi [.int a1, .int a2] (c_X11_weigh (I := J) (L := K) hM) dL_law_1044 lk_L_124 rfl cd_X11_weigh rfl rfl rfl (Nat.le_of_ble_eq_true rfl) ⟨rfl, rfl, Nat.le_of_ble_eq_true rfl, Nat.le_of_ble_eq_true rfl⟩ ?_
  refine w_icmp_eq 1842 dL_law_1047 (by decide) (fun _ => nx9 _ _ _ _ hR1) (fun h => absurd hE h)
set_option maxRecDepth 100000 in
set_option maxHeartbeats 4000000 in
theorem w_think_case {Rel : z_I → z_L → z_I → z_L → Prop} (hs : s_think Rel) {b Ln : Nat} {xs : Nat → Int32} {I : z_I} {L : z_L} {J : z_I} {K : z_L} (hR : Rel I L J K) {v3 : Int32} {i0 : Nat} (e3 : nI i0 = v3) (h6 : i0 + 6 ≤ Ln) (hL : Ln ≤ 3072) (nx9 : ∀ (I : z_I) (L : z_L) (J : z_I) (K : z_L), Rel I L J K → z_V b Ln xs 1842 [(0, .ref 1), (1, .ref 2), (2, .ref 3), (3, .int v3)] [] I L J K) : z_V b Ln xs 1052 [(0, .ref 1), (1, .ref 2), (2, .ref 3), (3, .int v3)] [] I L J K := by
  obtain ⟨a1, ha1⟩ : ∃ a, xs ((v3 + (1 : Int32)).toNatClampNeg) = a := ⟨_, rfl⟩
  obtain ⟨a2, ha2⟩ : ∃ a, xs ((v3 + (2 : Int32)).toNatClampNeg) = a := ⟨_, rfl⟩
  obtain ⟨a3, ha3⟩ : ∃ a, xs ((v3 + (3 : Int32)).toNatClampNeg) = a := ⟨_, rfl⟩
  refine w_aload_n 1 dL_law_1052 rfl rfl ?_
  refine w_aload_n 0 dL_law_1053 rfl rfl ?_
  refine w_iload_n 3 dL_law_1054 rfl rfl ?_
  refine w_iconst (v := (1)) dL_law_1055 (by decide) ?_
  refine w_iadd dL_law_1056 ?_
  refine w_sld dL_law_1057 (e3 ▸ z_ix h6 hL (j := 1) (by decide)) ha1 ?_
  refine w_aload_n 0 dL_law_1058 rfl rfl ?_
  refine w_iload_n 3 dL_law_1059 rfl rfl ?_
  refine w_iconst (v := (2)) dL_law_1060 (by decide) ?_
  refine w_iadd dL_law_1061 ?_
  refine w_sld dL_law_1062 (e3 ▸ z_ix h6 hL (j := 2) (by decide)) ha2 ?_
  refine w_aload_n 0 dL_law_1063 rfl rfl ?_
  refine w_iload_n 3 dL_law_1064 rfl rfl ?_
  refine w_iconst (v := (3)) dL_law_1065 (by decide) ?_
  refine w_iadd dL_law_1066 ?_
  refine w_sld dL_law_1067 (e3 ▸ z_ix h6 hL (j := 3) (by decide)) ha3 ?_
  obtain ⟨qX, qM, hX, hM, hE, hR1⟩ := hs I L J K a1 a2 a3 hR
  refine w_callXi [.int a1, .int a2, .int a3] (c_X10_think (I := I) (L := L) hX) dL_law_1068 lk_L_125 rfl cd_X10_think rfl rfl rfl (Nat.le_of_ble_eq_true rfl) ⟨rfl, rfl, Nat.le_of_ble_eq_true rfl, Nat.le_of_ble_eq_true rfl⟩ ?_
  refine w_aload_n 2 dL_law_1071 rfl rfl ?_
  refine w_aload_n 0 dL_law_1072 rfl rfl ?_
  refine w_iload_n 3 dL_law_1073 rfl rfl ?_
  refine w_iconst (v := (1)) dL_law_1074 (by decide) ?_
  refine w_iadd dL_law_1075 ?_
  refine w_sld dL_law_1076 (e3 ▸ z_ix h6 hL (j := 1) (by decide)) ha1 ?_
  refine w_aload_n 0 dL_law_1077 rfl rfl ?_
  refine w_iload_n 3 dL_law_1078 rfl rfl ?_
  refine w_iconst (v := (2)) dL_law_1079 (by decide) ?_
  refine w_iadd dL_law_1080 ?_
  refine w_sld dL_law_1081 (e3 ▸ z_ix h6 hL (j := 2) (by decide)) ha2 ?_
  refine w_aload_n 0 dL_law_1082 rfl rfl ?_
  refine w_iload_n 3 dL_law_1083 rfl rfl ?_
  refine w_iconst (v := (3)) dL_law_1084 (by decide) ?_
  refine w_iadd dL_law_1085 ?_
  refine w_sld dL_law_1086 (e3 ▸ z_ix h6 hL (j := 3) (by decide)) ha3 ?_
  refine w_callMi [.int a1, .int a2, .int a3] (c_X11_think (I := J) (L := K) hM) dL_law_1087 lk_L_129 rfl cd_X11_think rfl rfl rfl (Nat.le_of_ble_eq_true rfl) ⟨rfl, rfl, Nat.le_of_ble_eq_true rfl, Nat.le_of_ble_eq_true rfl⟩ ?_
  refine w_icmp_eq 1842 dL_law_1090 (by decide) (fun _ => nx9 _ _ _ _ hR1) (fun h => absurd hE h)
set_option maxRecDepth 100000 in
set_option maxHeartbeats 4000000 in
theorem w_rule_case {Rel : z_I → z_L → z_I → z_L → Prop} (hs : s_rule Rel) {b Ln : Nat} {xs : Nat → Int32} {I : z_I} {L : z_L} {J : z_I} {K : z_L} (hR : Rel I L J K) {v3 : Int32} {i0 : Nat} (e3 : nI i0 = v3) (h6 : i0 + 6 ≤ Ln) (hL : Ln ≤ 3072) (nx9 : ∀ (I : z_I) (L : z_L) (J : z_I) (K : z_L), Rel I L J K → z_V b Ln xs 1842 [(0, .ref 1), (1, .ref 2), (2, .ref 3), (3, .int v3)] [] I L J K) : z_V b Ln xs 1095 [(0, .ref 1), (1, .ref 2), (2, .ref 3), (3, .int v3)] [] I L J K := by
  obtain ⟨a1, ha1⟩ : ∃ a, xs ((v3 + (1 : Int32)).toNatClampNeg) = a := ⟨_, rfl⟩
  refine w_aload_n 1 dL_law_1095 rfl rfl ?_
  refine w_aload_n 0 dL_law_1096 rfl rfl ?_
  refine w_iload_n 3 dL_law_1097 rfl rfl ?_
  refine w_iconst (v := (1)) dL_law_1098 (by decide) ?_
  refine w_iadd dL_law_1099 ?_
  refine w_sld dL_law_1100 (e3 ▸ z_ix h6 hL (j := 1) (by decide)) ha1 ?_
  obtain ⟨hE, hR1⟩ := hs I L J K a1 hR
  refine w_callXi [.int a1] (c_X10_rule (I := I) (L := L) a1) dL_law_1101 lk_L_130 rfl cd_X10_rule rfl rfl rfl (Nat.le_of_ble_eq_true rfl) ⟨rfl, rfl, Nat.le_of_ble_eq_true rfl, Nat.le_of_ble_eq_true rfl⟩ ?_
  refine w_aload_n 2 dL_law_1104 rfl rfl ?_
  refine w_aload_n 0 dL_law_1105 rfl rfl ?_
  refine w_iload_n 3 dL_law_1106 rfl rfl ?_
  refine w_iconst (v := (1)) dL_law_1107 (by decide) ?_
  refine w_iadd dL_law_1108 ?_
  refine w_sld dL_law_1109 (e3 ▸ z_ix h6 hL (j := 1) (by decide)) ha1 ?_
  refine w_callMi [.int a1] (c_X11_rule (I := J) (L := K) a1) dL_law_1110 lk_L_134 rfl cd_X11_rule rfl rfl rfl (Nat.le_of_ble_eq_true rfl) ⟨rfl, rfl, Nat.le_of_ble_eq_true rfl, Nat.le_of_ble_eq_true rfl⟩ ?_
  refine w_icmp_eq 1842 dL_law_1113 (by decide) (fun _ => nx9 _ _ _ _ hR1) (fun h => absurd (congrArg zb hE) h)
set_option maxRecDepth 100000 in
set_option maxHeartbeats 4000000 in
theorem w_partOf_case {Rel : z_I → z_L → z_I → z_L → Prop} (hs : s_partOf Rel) {b Ln : Nat} {xs : Nat → Int32} {I : z_I} {L : z_L} {J : z_I} {K : z_L} (hR : Rel I L J K) {v3 : Int32} {i0 : Nat} (e3 : nI i0 = v3) (h6 : i0 + 6 ≤ Ln) (hL : Ln ≤ 3072) (nx9 : ∀ (I : z_I) (L : z_L) (J : z_I) (K : z_L), Rel I L J K → z_V b Ln xs 1842 [(0, .ref 1), (1, .ref 2), (2, .ref 3), (3, .int v3)] [] I L J K) : z_V b Ln xs 1118 [(0, .ref 1), (1, .ref 2), (2, .ref 3), (3, .int v3)] [] I L J K := by
  obtain ⟨a1, ha1⟩ : ∃ a, xs ((v3 + (1 : Int32)).toNatClampNeg) = a := ⟨_, rfl⟩
  refine w_aload_n 1 dL_law_1118 rfl rfl ?_
  refine w_aload_n 0 dL_law_1119 rfl rfl ?_
  refine w_iload_n 3 dL_law_1120 rfl rfl ?_
  refine w_iconst (v := (1)) dL_law_1121 (by decide) ?_
  refine w_iadd dL_law_1122 ?_
  refine w_sld dL_law_1123 (e3 ▸ z_ix h6 hL (j := 1) (by decide)) ha1 ?_
  obtain ⟨qX, qM, hX, hM, hE, hR1⟩ := hs I L J K a1 hR
  refine w_callXi [.int a1] (c_X10_partOf (I := I) (L := L) hX) dL_law_1124 lk_L_135 rfl cd_X10_partOf rfl rfl rfl (Nat.le_of_ble_eq_true rfl) ⟨rfl, rfl, Nat.le_of_ble_eq_true rfl, Nat.le_of_ble_eq_true rfl⟩ ?_
  refine w_aload_n 2 dL_law_1127 rfl rfl ?_
  refine w_aload_n 0 dL_law_1128 rfl rfl ?_
  refine w_iload_n 3 dL_law_1129 rfl rfl ?_
  refine w_iconst (v := (1)) dL_law_1130 (by decide) ?_
  refine w_iadd dL_law_1131 ?_
  refine w_sld dL_law_1132 (e3 ▸ z_ix h6 hL (j := 1) (by decide)) ha1 ?_
  refine w_callMi [.int a1] (c_X11_partOf (I := J) (L := K) hM) dL_law_1133 lk_L_138 rfl cd_X11_partOf rfl rfl rfl (Nat.le_of_ble_eq_true rfl) ⟨rfl, rfl, Nat.le_of_ble_eq_true rfl, Nat.le_of_ble_eq_true rfl⟩ ?_
  refine w_icmp_eq 1842 dL_law_1136 (by decide) (fun _ => nx9 _ _ _ _ hR1) (fun h => absurd hE h)
set_option maxRecDepth 100000 in
set_option maxHeartbeats 4000000 in
theorem w_couples_case {Rel : z_I → z_L → z_I → z_L → Prop} (hs : s_couples Rel) {b Ln : Nat} {xs : Nat → Int32} {I : z_I} {L : z_L} {J : z_I} {K : z_L} (hR : Rel I L J K) {v3 : Int32} {i0 : Nat} (e3 : nI i0 = v3) (h6 : i0 + 6 ≤ Ln) (hL : Ln ≤ 3072) (nx9 : ∀ (I : z_I) (L : z_L) (J : z_I) (K : z_L), Rel I L J K → z_V b Ln xs 1842 [(0, .ref 1), (1, .ref 2), (2, .ref 3), (3, .int v3)] [] I L J K) : z_V b Ln xs 1141 [(0, .ref 1), (1, .ref 2), (2, .ref 3), (3, .int v3)] [] I L J K := by
  refine w_aload_n 1 dL_law_1141 rfl rfl ?_
  obtain ⟨qX, qM, hX, hM, hE, hR1⟩ := hs I L J K  hR
  refine w_callXi [] (c_X10_couples (I := I) (L := L) hX) dL_law_1142 lk_L_139 rfl cd_X10_couples rfl rfl rfl (Nat.le_of_ble_eq_true rfl) ⟨rfl, rfl, Nat.le_of_ble_eq_true rfl, Nat.le_of_ble_eq_true rfl⟩ ?_
  refine w_aload_n 2 dL_law_1145 rfl rfl ?_
  refine w_callMi [] (c_X11_couples (I := J) (L := K) hM) dL_law_1146 lk_L_142 rfl cd_X11_couples rfl rfl rfl (Nat.le_of_ble_eq_true rfl) ⟨rfl, rfl, Nat.le_of_ble_eq_true rfl, Nat.le_of_ble_eq_true rfl⟩ ?_
  refine w_icmp_eq 1842 dL_law_1149 (by decide) (fun _ => nx9 _ _ _ _ hR1) (fun h => absurd hE h)
set_option maxRecDepth 100000 in
set_option maxHeartbeats 4000000 in
theorem w_parting_case {Rel : z_I → z_L → z_I → z_L → Prop} (hs : s_parting Rel) {b Ln : Nat} {xs : Nat → Int32} {I : z_I} {L : z_L} {J : z_I} {K : z_L} (hR : Rel I L J K) {v3 : Int32} {i0 : Nat} (e3 : nI i0 = v3) (h6 : i0 + 6 ≤ Ln) (hL : Ln ≤ 3072) (nx9 : ∀ (I : z_I) (L : z_L) (J : z_I) (K : z_L), Rel I L J K → z_V b Ln xs 1842 [(0, .ref 1), (1, .ref 2), (2, .ref 3), (3, .int v3)] [] I L J K) : z_V b Ln xs 1154 [(0, .ref 1), (1, .ref 2), (2, .ref 3), (3, .int v3)] [] I L J K := by
  obtain ⟨a1, ha1⟩ : ∃ a, xs ((v3 + (1 : Int32)).toNatClampNeg) = a := ⟨_, rfl⟩
  obtain ⟨a2, ha2⟩ : ∃ a, xs ((v3 + (2 : Int32)).toNatClampNeg) = a := ⟨_, rfl⟩
  refine w_aload_n 1 dL_law_1154 rfl rfl ?_
  refine w_aload_n 0 dL_law_1155 rfl rfl ?_
  refine w_iload_n 3 dL_law_1156 rfl rfl ?_
  refine w_iconst (v := (1)) dL_law_1157 (by decide) ?_
  refine w_iadd dL_law_1158 ?_
  refine w_sld dL_law_1159 (e3 ▸ z_ix h6 hL (j := 1) (by decide)) ha1 ?_
  refine w_aload_n 0 dL_law_1160 rfl rfl ?_
  refine w_iload_n 3 dL_law_1161 rfl rfl ?_
  refine w_iconst (v := (2)) dL_law_1162 (by decide) ?_
  refine w_iadd dL_law_1163 ?_
  refine w_sld dL_law_1164 (e3 ▸ z_ix h6 hL (j := 2) (by decide)) ha2 ?_
  obtain ⟨qX, qM, hX, hM, hE, hR1⟩ := hs I L J K a1 a2 hR
  refine w_callXi [.int a1, .int a2] (c_X10_parting (I := I) (L := L) hX) dL_law_1165 lk_L_143 rfl cd_X10_parting rfl rfl rfl (Nat.le_of_ble_eq_true rfl) ⟨rfl, rfl, Nat.le_of_ble_eq_true rfl, Nat.le_of_ble_eq_true rfl⟩ ?_
  refine w_aload_n 2 dL_law_1168 rfl rfl ?_
  refine w_aload_n 0 dL_law_1169 rfl rfl ?_
  refine w_iload_n 3 dL_law_1170 rfl rfl ?_
  refine w_iconst (v := (1)) dL_law_1171 (by decide) ?_
  refine w_iadd dL_law_1172 ?_
  refine w_sld dL_law_1173 (e3 ▸ z_ix h6 hL (j := 1) (by decide)) ha1 ?_
  refine w_aload_n 0 dL_law_1174 rfl rfl ?_
  refine w_iload_n 3 dL_law_1175 rfl rfl ?_
  refine w_iconst (v := (2)) dL_law_1176 (by decide) ?_
  refine w_iadd dL_law_1177 ?_
  refine w_sld dL_law_1178 (e3 ▸ z_ix h6 hL (j := 2) (by decide)) ha2 ?_
  refine w_callMi [.int a1, .int a2] (c_X11_parting (I := J) (L := K) hM) dL_law_1179 lk_L_146 rfl cd_X11_parting rfl rfl rfl (Nat.le_of_ble_eq_true rfl) ⟨rfl, rfl, Nat.le_of_ble_eq_true rfl, Nat.le_of_ble_eq_true rfl⟩ ?_
  refine w_icmp_eq 1842 dL_law_1182 (by decide) (fun _ => nx9 _ _ _ _ hR1) (fun h => absurd hE h)
set_option maxRecDepth 100000 in
set_option maxHeartbeats 4000000 in
theorem w_barren_case {Rel : z_I → z_L → z_I → z_L → Prop} (hs : s_barren Rel) {b Ln : Nat} {xs : Nat → Int32} {I : z_I} {L : z_L} {J : z_I} {K : z_L} (hR : Rel I L J K) {v3 : Int32} {i0 : Nat} (e3 : nI i0 = v3) (h6 : i0 + 6 ≤ Ln) (hL : Ln ≤ 3072) (nx9 : ∀ (I : z_I) (L : z_L) (J : z_I) (K : z_L), Rel I L J K → z_V b Ln xs 1842 [(0, .ref 1), (1, .ref 2), (2, .ref 3), (3, .int v3)] [] I L J K) : z_V b Ln xs 1187 [(0, .ref 1), (1, .ref 2), (2, .ref 3), (3, .int v3)] [] I L J K := by
  refine w_aload_n 1 dL_law_1187 rfl rfl ?_
  obtain ⟨qX, qM, hX, hM, hE, hR1⟩ := hs I L J K  hR
  refine w_callXi [] (c_X10_barren (I := I) (L := L) hX) dL_law_1188 lk_L_147 rfl cd_X10_barren rfl rfl rfl (Nat.le_of_ble_eq_true rfl) ⟨rfl, rfl, Nat.le_of_ble_eq_true rfl, Nat.le_of_ble_eq_true rfl⟩ ?_
  refine w_aload_n 2 dL_law_1191 rfl rfl ?_
  refine w_callMi [] (c_X11_barren (I := J) (L := K) hM) dL_law_1192 lk_L_150 rfl cd_X11_barren rfl rfl rfl (Nat.le_of_ble_eq_true rfl) ⟨rfl, rfl, Nat.le_of_ble_eq_true rfl, Nat.le_of_ble_eq_true rfl⟩ ?_
  refine w_icmp_eq 1842 dL_law_1195 (by decide) (fun _ => nx9 _ _ _ _ hR1) (fun h => absurd hE h)
set_option maxRecDepth 100000 in
set_option maxHeartbeats 4000000 in
theorem w_most_case {Rel : z_I → z_L → z_I → z_L → Prop} (hs : s_most Rel) {b Ln : Nat} {xs : Nat → Int32} {I : z_I} {L : z_L} {J : z_I} {K : z_L} (hR : Rel I L J K) {v3 : Int32} {i0 : Nat} (e3 : nI i0 = v3) (h6 : i0 + 6 ≤ Ln) (hL : Ln ≤ 3072) (nx9 : ∀ (I : z_I) (L : z_L) (J : z_I) (K : z_L), Rel I L J K → z_V b Ln xs 1842 [(0, .ref 1), (1, .ref 2), (2, .ref 3), (3, .int v3)] [] I L J K) : z_V b Ln xs 1200 [(0, .ref 1), (1, .ref 2), (2, .ref 3), (3, .int v3)] [] I L J K := by
  obtain ⟨a1, ha1⟩ : ∃ a, xs ((v3 + (1 : Int32)).toNatClampNeg) = a := ⟨_, rfl⟩
  refine w_aload_n 1 dL_law_1200 rfl rfl ?_
  refine w_aload_n 0 dL_law_1201 rfl rfl ?_
  refine w_iload_n 3 dL_law_1202 rfl rfl ?_
  refine w_iconst (v := (1)) dL_law_1203 (by decide) ?_
  refine w_iadd dL_law_1204 ?_
  refine w_sld dL_law_1205 (e3 ▸ z_ix h6 hL (j := 1) (by decide)) ha1 ?_
  obtain ⟨qX, qM, hX, hM, hE, hR1⟩ := hs I L J K a1 hR
  refine w_callXi [.int a1] (c_X10_most (I := I) (L := L) hX) dL_law_1206 lk_L_151 rfl cd_X10_most rfl rfl rfl (Nat.le_of_ble_eq_true rfl) ⟨rfl, rfl, Nat.le_of_ble_eq_true rfl, Nat.le_of_ble_eq_true rfl⟩ ?_
  refine w_aload_n 2 dL_law_1209 rfl rfl ?_
  refine w_aload_n 0 dL_law_1210 rfl rfl ?_
  refine w_iload_n 3 dL_law_1211 rfl rfl ?_
  refine w_iconst (v := (1)) dL_law_1212 (by decide) ?_
  refine w_iadd dL_law_1213 ?_
  refine w_sld dL_law_1214 (e3 ▸ z_ix h6 hL (j := 1) (by decide)) ha1 ?_
  refine w_callMi [.int a1] (c_X11_most (I := J) (L := K) hM) dL_law_1215 lk_L_154 rfl cd_X11_most rfl rfl rfl (Nat.le_of_ble_eq_true rfl) ⟨rfl, rfl, Nat.le_of_ble_eq_true rfl, Nat.le_of_ble_eq_true rfl⟩ ?_
  refine w_icmp_eq 1842 dL_law_1218 (by decide) (fun _ => nx9 _ _ _ _ hR1) (fun h => absurd hE h)
set_option maxRecDepth 100000 in
set_option maxHeartbeats 4000000 in
theorem w_first_case {Rel : z_I → z_L → z_I → z_L → Prop} (hs : s_first Rel) {b Ln : Nat} {xs : Nat → Int32} {I : z_I} {L : z_L} {J : z_I} {K : z_L} (hR : Rel I L J K) {v3 : Int32} {i0 : Nat} (e3 : nI i0 = v3) (h6 : i0 + 6 ≤ Ln) (hL : Ln ≤ 3072) (nx9 : ∀ (I : z_I) (L : z_L) (J : z_I) (K : z_L), Rel I L J K → z_V b Ln xs 1842 [(0, .ref 1), (1, .ref 2), (2, .ref 3), (3, .int v3)] [] I L J K) : z_V b Ln xs 1223 [(0, .ref 1), (1, .ref 2), (2, .ref 3), (3, .int v3)] [] I L J K := by
  obtain ⟨a1, ha1⟩ : ∃ a, xs ((v3 + (1 : Int32)).toNatClampNeg) = a := ⟨_, rfl⟩
  obtain ⟨a2, ha2⟩ : ∃ a, xs ((v3 + (2 : Int32)).toNatClampNeg) = a := ⟨_, rfl⟩
  refine w_aload_n 1 dL_law_1223 rfl rfl ?_
  refine w_aload_n 0 dL_law_1224 rfl rfl ?_
  refine w_iload_n 3 dL_law_1225 rfl rfl ?_
  refine w_iconst (v := (1)) dL_law_1226 (by decide) ?_
  refine w_iadd dL_law_1227 ?_
  refine w_sld dL_law_1228 (e3 ▸ z_ix h6 hL (j := 1) (by decide)) ha1 ?_
  refine w_aload_n 0 dL_law_1229 rfl rfl ?_
  refine w_iload_n 3 dL_law_1230 rfl rfl ?_
  refine w_iconst (v := (2)) dL_law_1231 (by decide) ?_
  refine w_iadd dL_law_1232 ?_
  refine w_sld dL_law_1233 (e3 ▸ z_ix h6 hL (j := 2) (by decide)) ha2 ?_
  obtain ⟨qX, qM, hX, hM, hE, hR1⟩ := hs I L J K a1 a2 hR
  refine w_callXi [.int a1, .int a2] (c_X10_first (I := I) (L := L) hX) dL_law_1234 lk_L_155 rfl cd_X10_first rfl rfl rfl (Nat.le_of_ble_eq_true rfl) ⟨rfl, rfl, Nat.le_of_ble_eq_true rfl, Nat.le_of_ble_eq_true rfl⟩ ?_
  refine w_aload_n 2 dL_law_1237 rfl rfl ?_
  refine w_aload_n 0 dL_law_1238 rfl rfl ?_
  refine w_iload_n 3 dL_law_1239 rfl rfl ?_
  refine w_iconst (v := (1)) dL_law_1240 (by decide) ?_
  refine w_iadd dL_law_1241 ?_
  refine w_sld dL_law_1242 (e3 ▸ z_ix h6 hL (j := 1) (by decide)) ha1 ?_
  refine w_aload_n 0 dL_law_1243 rfl rfl ?_
  refine w_iload_n 3 dL_law_1244 rfl rfl ?_
  refine w_iconst (v := (2)) dL_law_1245 (by decide) ?_
  refine w_iadd dL_law_1246 ?_
  refine w_sld dL_law_1247 (e3 ▸ z_ix h6 hL (j := 2) (by decide)) ha2 ?_
  refine w_callMi [.int a1, .int a2] (c_X11_first (I := J) (L := K) hM) dL_law_1248 lk_L_158 rfl cd_X11_first rfl rfl rfl (Nat.le_of_ble_eq_true rfl) ⟨rfl, rfl, Nat.le_of_ble_eq_true rfl, Nat.le_of_ble_eq_true rfl⟩ ?_
  refine w_icmp_eq 1842 dL_law_1251 (by decide) (fun _ => nx9 _ _ _ _ hR1) (fun h => absurd hE h)
set_option maxRecDepth 100000 in
set_option maxHeartbeats 4000000 in
theorem w_fewest_case {Rel : z_I → z_L → z_I → z_L → Prop} (hs : s_fewest Rel) {b Ln : Nat} {xs : Nat → Int32} {I : z_I} {L : z_L} {J : z_I} {K : z_L} (hR : Rel I L J K) {v3 : Int32} {i0 : Nat} (e3 : nI i0 = v3) (h6 : i0 + 6 ≤ Ln) (hL : Ln ≤ 3072) (nx9 : ∀ (I : z_I) (L : z_L) (J : z_I) (K : z_L), Rel I L J K → z_V b Ln xs 1842 [(0, .ref 1), (1, .ref 2), (2, .ref 3), (3, .int v3)] [] I L J K) : z_V b Ln xs 1256 [(0, .ref 1), (1, .ref 2), (2, .ref 3), (3, .int v3)] [] I L J K := by
  obtain ⟨a1, ha1⟩ : ∃ a, xs ((v3 + (1 : Int32)).toNatClampNeg) = a := ⟨_, rfl⟩
  refine w_aload_n 1 dL_law_1256 rfl rfl ?_
  refine w_aload_n 0 dL_law_1257 rfl rfl ?_
  refine w_iload_n 3 dL_law_1258 rfl rfl ?_
  refine w_iconst (v := (1)) dL_law_1259 (by decide) ?_
  refine w_iadd dL_law_1260 ?_
  refine w_sld dL_law_1261 (e3 ▸ z_ix h6 hL (j := 1) (by decide)) ha1 ?_
  obtain ⟨qX, qM, hX, hM, hE, hR1⟩ := hs I L J K a1 hR
  refine w_callXi [.int a1] (c_X10_fewest (I := I) (L := L) hX) dL_law_1262 lk_L_159 rfl cd_X10_fewest rfl rfl rfl (Nat.le_of_ble_eq_true rfl) ⟨rfl, rfl, Nat.le_of_ble_eq_true rfl, Nat.le_of_ble_eq_true rfl⟩ ?_
  refine w_aload_n 2 dL_law_1265 rfl rfl ?_
  refine w_aload_n 0 dL_law_1266 rfl rfl ?_
  refine w_iload_n 3 dL_law_1267 rfl rfl ?_
  refine w_iconst (v := (1)) dL_law_1268 (by decide) ?_
  refine w_iadd dL_law_1269 ?_
  refine w_sld dL_law_1270 (e3 ▸ z_ix h6 hL (j := 1) (by decide)) ha1 ?_
  refine w_callMi [.int a1] (c_X11_fewest (I := J) (L := K) hM) dL_law_1271 lk_L_162 rfl cd_X11_fewest rfl rfl rfl (Nat.le_of_ble_eq_true rfl) ⟨rfl, rfl, Nat.le_of_ble_eq_true rfl, Nat.le_of_ble_eq_true rfl⟩ ?_
  refine w_icmp_eq 1842 dL_law_1274 (by decide) (fun _ => nx9 _ _ _ _ hR1) (fun h => absurd hE h)
set_option maxRecDepth 100000 in
set_option maxHeartbeats 4000000 in
theorem w_fewestSet_case {Rel : z_I → z_L → z_I → z_L → Prop} (hs : s_fewestSet Rel) {b Ln : Nat} {xs : Nat → Int32} {I : z_I} {L : z_L} {J : z_I} {K : z_L} (hR : Rel I L J K) {v3 : Int32} {i0 : Nat} (e3 : nI i0 = v3) (h6 : i0 + 6 ≤ Ln) (hL : Ln ≤ 3072) (nx9 : ∀ (I : z_I) (L : z_L) (J : z_I) (K : z_L), Rel I L J K → z_V b Ln xs 1842 [(0, .ref 1), (1, .ref 2), (2, .ref 3), (3, .int v3)] [] I L J K) : z_V b Ln xs 1279 [(0, .ref 1), (1, .ref 2), (2, .ref 3), (3, .int v3)] [] I L J K := by
  obtain ⟨a1, ha1⟩ : ∃ a, xs ((v3 + (1 : Int32)).toNatClampNeg) = a := ⟨_, rfl⟩
  refine w_aload_n 1 dL_law_1279 rfl rfl ?_
  refine w_aload_n 0 dL_law_1280 rfl rfl ?_
  refine w_iload_n 3 dL_law_1281 rfl rfl ?_
  refine w_iconst (v := (1)) dL_law_1282 (by decide) ?_
  refine w_iadd dL_law_1283 ?_
  refine w_sld dL_law_1284 (e3 ▸ z_ix h6 hL (j := 1) (by decide)) ha1 ?_
  obtain ⟨qX, qM, hX, hM, hE, hR1⟩ := hs I L J K a1 hR
  refine w_callXi [.int a1] (c_X10_fewestSet (I := I) (L := L) hX) dL_law_1285 lk_L_163 rfl cd_X10_fewestSet rfl rfl rfl (Nat.le_of_ble_eq_true rfl) ⟨rfl, rfl, Nat.le_of_ble_eq_true rfl, Nat.le_of_ble_eq_true rfl⟩ ?_
  refine w_aload_n 2 dL_law_1288 rfl rfl ?_
  refine w_aload_n 0 dL_law_1289 rfl rfl ?_
  refine w_iload_n 3 dL_law_1290 rfl rfl ?_
  refine w_iconst (v := (1)) dL_law_1291 (by decide) ?_
  refine w_iadd dL_law_1292 ?_
  refine w_sld dL_law_1293 (e3 ▸ z_ix h6 hL (j := 1) (by decide)) ha1 ?_
  refine w_callMi [.int a1] (c_X11_fewestSet (I := J) (L := K) hM) dL_law_1294 lk_L_166 rfl cd_X11_fewestSet rfl rfl rfl (Nat.le_of_ble_eq_true rfl) ⟨rfl, rfl, Nat.le_of_ble_eq_true rfl, Nat.le_of_ble_eq_true rfl⟩ ?_
  refine w_icmp_eq 1842 dL_law_1297 (by decide) (fun _ => nx9 _ _ _ _ hR1) (fun h => absurd hE h)
set_option maxRecDepth 100000 in
set_option maxHeartbeats 4000000 in
theorem w_deep_case {Rel : z_I → z_L → z_I → z_L → Prop} (hs : s_deep Rel) {b Ln : Nat} {xs : Nat → Int32} {I : z_I} {L : z_L} {J : z_I} {K : z_L} (hR : Rel I L J K) {v3 : Int32} {i0 : Nat} (e3 : nI i0 = v3) (h6 : i0 + 6 ≤ Ln) (hL : Ln ≤ 3072) (nx9 : ∀ (I : z_I) (L : z_L) (J : z_I) (K : z_L), Rel I L J K → z_V b Ln xs 1842 [(0, .ref 1), (1, .ref 2), (2, .ref 3), (3, .int v3)] [] I L J K) : z_V b Ln xs 1302 [(0, .ref 1), (1, .ref 2), (2, .ref 3), (3, .int v3)] [] I L J K := by
  obtain ⟨a1, ha1⟩ : ∃ a, xs ((v3 + (1 : Int32)).toNatClampNeg) = a := ⟨_, rfl⟩
  refine w_aload_n 1 dL_law_1302 rfl rfl ?_
  refine w_aload_n 0 dL_law_1303 rfl rfl ?_
  refine w_iload_n 3 dL_law_1304 rfl rfl ?_
  refine w_iconst (v := (1)) dL_law_1305 (by decide) ?_
  refine w_iadd dL_law_1306 ?_
  refine w_sld dL_law_1307 (e3 ▸ z_ix h6 hL (j := 1) (by decide)) ha1 ?_
  obtain ⟨qX, qM, hX, hM, hE, hR1⟩ := hs I L J K a1 hR
  refine w_callXi [.int a1] (c_X10_deep (I := I) (L := L) hX) dL_law_1308 lk_L_167 rfl cd_X10_deep rfl rfl rfl (Nat.le_of_ble_eq_true rfl) ⟨rfl, rfl, Nat.le_of_ble_eq_true rfl, Nat.le_of_ble_eq_true rfl⟩ ?_
  refine w_aload_n 2 dL_law_1311 rfl rfl ?_
  refine w_aload_n 0 dL_law_1312 rfl rfl ?_
  refine w_iload_n 3 dL_law_1313 rfl rfl ?_
  refine w_iconst (v := (1)) dL_law_1314 (by decide) ?_
  refine w_iadd dL_law_1315 ?_
  refine w_sld dL_law_1316 (e3 ▸ z_ix h6 hL (j := 1) (by decide)) ha1 ?_
  refine w_callMi [.int a1] (c_X11_deep (I := J) (L := K) hM) dL_law_1317 lk_L_170 rfl cd_X11_deep rfl rfl rfl (Nat.le_of_ble_eq_true rfl) ⟨rfl, rfl, Nat.le_of_ble_eq_true rfl, Nat.le_of_ble_eq_true rfl⟩ ?_
  refine w_icmp_eq 1842 dL_law_1320 (by decide) (fun _ => nx9 _ _ _ _ hR1) (fun h => absurd hE h)
set_option maxRecDepth 100000 in
set_option maxHeartbeats 4000000 in
theorem w_askDeep_case {Rel : z_I → z_L → z_I → z_L → Prop} (hs : s_askDeep Rel) {b Ln : Nat} {xs : Nat → Int32} {I : z_I} {L : z_L} {J : z_I} {K : z_L} (hR : Rel I L J K) {v3 : Int32} {i0 : Nat} (e3 : nI i0 = v3) (h6 : i0 + 6 ≤ Ln) (hL : Ln ≤ 3072) (nx9 : ∀ (I : z_I) (L : z_L) (J : z_I) (K : z_L), Rel I L J K → z_V b Ln xs 1842 [(0, .ref 1), (1, .ref 2), (2, .ref 3), (3, .int v3)] [] I L J K) : z_V b Ln xs 1325 [(0, .ref 1), (1, .ref 2), (2, .ref 3), (3, .int v3)] [] I L J K := by
  obtain ⟨a1, ha1⟩ : ∃ a, xs ((v3 + (1 : Int32)).toNatClampNeg) = a := ⟨_, rfl⟩
  refine w_aload_n 1 dL_law_1325 rfl rfl ?_
  refine w_aload_n 0 dL_law_1326 rfl rfl ?_
  refine w_iload_n 3 dL_law_1327 rfl rfl ?_
  refine w_iconst (v := (1)) dL_law_1328 (by decide) ?_
  refine w_iadd dL_law_1329 ?_
  refine w_sld dL_law_1330 (e3 ▸ z_ix h6 hL (j := 1) (by decide)) ha1 ?_
  obtain ⟨qX, qM, hX, hM, hE, hR1⟩ := hs I L J K a1 hR
  refine w_callXi [.int a1] (c_X10_askDeep (I := I) (L := L) hX) dL_law_1331 lk_L_171 rfl cd_X10_askDeep rfl rfl rfl (Nat.le_of_ble_eq_true rfl) ⟨rfl, rfl, Nat.le_of_ble_eq_true rfl, Nat.le_of_ble_eq_true rfl⟩ ?_
  refine w_aload_n 2 dL_law_1334 rfl rfl ?_
  refine w_aload_n 0 dL_law_1335 rfl rfl ?_
  refine w_iload_n 3 dL_law_1336 rfl rfl ?_
  refine w_iconst (v := (1)) dL_law_1337 (by decide) ?_
  refine w_iadd dL_law_1338 ?_
  refine w_sld dL_law_1339 (e3 ▸ z_ix h6 hL (j := 1) (by decide)) ha1 ?_
  refine w_callMi [.int a1] (c_X11_askDeep (I := J) (L := K) hM) dL_law_1340 lk_L_174 rfl cd_X11_askDeep rfl rfl rfl (Nat.le_of_ble_eq_true rfl) ⟨rfl, rfl, Nat.le_of_ble_eq_true rfl, Nat.le_of_ble_eq_true rfl⟩ ?_
  refine w_icmp_eq 1842 dL_law_1343 (by decide) (fun _ => nx9 _ _ _ _ hR1) (fun h => absurd hE h)
set_option maxRecDepth 100000 in
set_option maxHeartbeats 4000000 in
theorem w_dear_case {Rel : z_I → z_L → z_I → z_L → Prop} (hs : s_dear Rel) {b Ln : Nat} {xs : Nat → Int32} {I : z_I} {L : z_L} {J : z_I} {K : z_L} (hR : Rel I L J K) {v3 : Int32} {i0 : Nat} (e3 : nI i0 = v3) (h6 : i0 + 6 ≤ Ln) (hL : Ln ≤ 3072) (nx9 : ∀ (I : z_I) (L : z_L) (J : z_I) (K : z_L), Rel I L J K → z_V b Ln xs 1842 [(0, .ref 1), (1, .ref 2), (2, .ref 3), (3, .int v3)] [] I L J K) : z_V b Ln xs 1348 [(0, .ref 1), (1, .ref 2), (2, .ref 3), (3, .int v3)] [] I L J K := by
  obtain ⟨a1, ha1⟩ : ∃ a, xs ((v3 + (1 : Int32)).toNatClampNeg) = a := ⟨_, rfl⟩
  refine w_aload_n 1 dL_law_1348 rfl rfl ?_
  refine w_aload_n 0 dL_law_1349 rfl rfl ?_
  refine w_iload_n 3 dL_law_1350 rfl rfl ?_
  refine w_iconst (v := (1)) dL_law_1351 (by decide) ?_
  refine w_iadd dL_law_1352 ?_
  refine w_sld dL_law_1353 (e3 ▸ z_ix h6 hL (j := 1) (by decide)) ha1 ?_
  obtain ⟨qX, qM, hX, hM, hE, hR1⟩ := hs I L J K a1 hR
  refine w_callXi [.int a1] (c_X10_dear (I := I) (L := L) hX) dL_law_1354 lk_L_175 rfl cd_X10_dear rfl rfl rfl (Nat.le_of_ble_eq_true rfl) ⟨rfl, rfl, Nat.le_of_ble_eq_true rfl, Nat.le_of_ble_eq_true rfl⟩ ?_
  refine w_aload_n 2 dL_law_1357 rfl rfl ?_
  refine w_aload_n 0 dL_law_1358 rfl rfl ?_
  refine w_iload_n 3 dL_law_1359 rfl rfl ?_
  refine w_iconst (v := (1)) dL_law_1360 (by decide) ?_
  refine w_iadd dL_law_1361 ?_
  refine w_sld dL_law_1362 (e3 ▸ z_ix h6 hL (j := 1) (by decide)) ha1 ?_
  refine w_callMi [.int a1] (c_X11_dear (I := J) (L := K) hM) dL_law_1363 lk_L_178 rfl cd_X11_dear rfl rfl rfl (Nat.le_of_ble_eq_true rfl) ⟨rfl, rfl, Nat.le_of_ble_eq_true rfl, Nat.le_of_ble_eq_true rfl⟩ ?_
  refine w_icmp_eq 1842 dL_law_1366 (by decide) (fun _ => nx9 _ _ _ _ hR1) (fun h => absurd hE h)
set_option maxRecDepth 100000 in
set_option maxHeartbeats 4000000 in
theorem w_askDear_case {Rel : z_I → z_L → z_I → z_L → Prop} (hs : s_askDear Rel) {b Ln : Nat} {xs : Nat → Int32} {I : z_I} {L : z_L} {J : z_I} {K : z_L} (hR : Rel I L J K) {v3 : Int32} {i0 : Nat} (e3 : nI i0 = v3) (h6 : i0 + 6 ≤ Ln) (hL : Ln ≤ 3072) (nx9 : ∀ (I : z_I) (L : z_L) (J : z_I) (K : z_L), Rel I L J K → z_V b Ln xs 1842 [(0, .ref 1), (1, .ref 2), (2, .ref 3), (3, .int v3)] [] I L J K) : z_V b Ln xs 1371 [(0, .ref 1), (1, .ref 2), (2, .ref 3), (3, .int v3)] [] I L J K := by
  obtain ⟨a1, ha1⟩ : ∃ a, xs ((v3 + (1 : Int32)).toNatClampNeg) = a := ⟨_, rfl⟩
  refine w_aload_n 1 dL_law_1371 rfl rfl ?_
  refine w_aload_n 0 dL_law_1372 rfl rfl ?_
  refine w_iload_n 3 dL_law_1373 rfl rfl ?_
  refine w_iconst (v := (1)) dL_law_1374 (by decide) ?_
  refine w_iadd dL_law_1375 ?_
  refine w_sld dL_law_1376 (e3 ▸ z_ix h6 hL (j := 1) (by decide)) ha1 ?_
  obtain ⟨qX, qM, hX, hM, hE, hR1⟩ := hs I L J K a1 hR
  refine w_callXi [.int a1] (c_X10_askDear (I := I) (L := L) hX) dL_law_1377 lk_L_179 rfl cd_X10_askDear rfl rfl rfl (Nat.le_of_ble_eq_true rfl) ⟨rfl, rfl, Nat.le_of_ble_eq_true rfl, Nat.le_of_ble_eq_true rfl⟩ ?_
  refine w_aload_n 2 dL_law_1380 rfl rfl ?_
  refine w_aload_n 0 dL_law_1381 rfl rfl ?_
  refine w_iload_n 3 dL_law_1382 rfl rfl ?_
  refine w_iconst (v := (1)) dL_law_1383 (by decide) ?_
  refine w_iadd dL_law_1384 ?_
  refine w_sld dL_law_1385 (e3 ▸ z_ix h6 hL (j := 1) (by decide)) ha1 ?_
  refine w_callMi [.int a1] (c_X11_askDear (I := J) (L := K) hM) dL_law_1386 lk_L_182 rfl cd_X11_askDear rfl rfl rfl (Nat.le_of_ble_eq_true rfl) ⟨rfl, rfl, Nat.le_of_ble_eq_true rfl, Nat.le_of_ble_eq_true rfl⟩ ?_
  refine w_icmp_eq 1842 dL_law_1389 (by decide) (fun _ => nx9 _ _ _ _ hR1) (fun h => absurd hE h)
set_option maxRecDepth 100000 in
set_option maxHeartbeats 4000000 in
theorem w_fits_case {Rel : z_I → z_L → z_I → z_L → Prop} (hs : s_fits Rel) {b Ln : Nat} {xs : Nat → Int32} {I : z_I} {L : z_L} {J : z_I} {K : z_L} (hR : Rel I L J K) {v3 : Int32} {i0 : Nat} (e3 : nI i0 = v3) (h6 : i0 + 6 ≤ Ln) (hL : Ln ≤ 3072) (nx9 : ∀ (I : z_I) (L : z_L) (J : z_I) (K : z_L), Rel I L J K → z_V b Ln xs 1842 [(0, .ref 1), (1, .ref 2), (2, .ref 3), (3, .int v3)] [] I L J K) : z_V b Ln xs 1394 [(0, .ref 1), (1, .ref 2), (2, .ref 3), (3, .int v3)] [] I L J K := by
  obtain ⟨a1, ha1⟩ : ∃ a, xs ((v3 + (1 : Int32)).toNatClampNeg) = a := ⟨_, rfl⟩
  obtain ⟨a2, ha2⟩ : ∃ a, xs ((v3 + (2 : Int32)).toNatClampNeg) = a := ⟨_, rfl⟩
  refine w_aload_n 1 dL_law_1394 rfl rfl ?_
  refine w_aload_n 0 dL_law_1395 rfl rfl ?_
  refine w_iload_n 3 dL_law_1396 rfl rfl ?_
  refine w_iconst (v := (1)) dL_law_1397 (by decide) ?_
  refine w_iadd dL_law_1398 ?_
  refine w_sld dL_law_1399 (e3 ▸ z_ix h6 hL (j := 1) (by decide)) ha1 ?_
  refine w_aload_n 0 dL_law_1400 rfl rfl ?_
  refine w_iload_n 3 dL_law_1401 rfl rfl ?_
  refine w_iconst (v := (2)) dL_law_1402 (by decide) ?_
  refine w_iadd dL_law_1403 ?_
  refine w_sld dL_law_1404 (e3 ▸ z_ix h6 hL (j := 2) (by decide)) ha2 ?_
  obtain ⟨qX, qM, hX, hM, hE, hR1⟩ := hs I L J K a1 a2 hR
  refine w_callXi [.int a1, .int a2] (c_X10_fits (I := I) (L := L) hX) dL_law_1405 lk_L_183 rfl cd_X10_fits rfl rfl rfl (Nat.le_of_ble_eq_true rfl) ⟨rfl, rfl, Nat.le_of_ble_eq_true rfl, Nat.le_of_ble_eq_true rfl⟩ ?_
  refine w_aload_n 2 dL_law_1408 rfl rfl ?_
  refine w_aload_n 0 dL_law_1409 rfl rfl ?_
  refine w_iload_n 3 dL_law_1410 rfl rfl ?_
  refine w_iconst (v := (1)) dL_law_1411 (by decide) ?_
  refine w_iadd dL_law_1412 ?_
  refine w_sld dL_law_1413 (e3 ▸ z_ix h6 hL (j := 1) (by decide)) ha1 ?_
  refine w_aload_n 0 dL_law_1414 rfl rfl ?_
  refine w_iload_n 3 dL_law_1415 rfl rfl ?_
  refine w_iconst (v := (2)) dL_law_1416 (by decide) ?_
  refine w_iadd dL_law_1417 ?_
  refine w_sld dL_law_1418 (e3 ▸ z_ix h6 hL (j := 2) (by decide)) ha2 ?_
  refine w_callMi [.int a1, .int a2] (c_X11_fits (I := J) (L := K) hM) dL_law_1419 lk_L_186 rfl cd_X11_fits rfl rfl rfl (Nat.le_of_ble_eq_true rfl) ⟨rfl, rfl, Nat.le_of_ble_eq_true rfl, Nat.le_of_ble_eq_true rfl⟩ ?_
  refine w_icmp_eq 1842 dL_law_1422 (by decide) (fun _ => nx9 _ _ _ _ hR1) (fun h => absurd hE h)
set_option maxRecDepth 100000 in
set_option maxHeartbeats 4000000 in
theorem w_likely_case {Rel : z_I → z_L → z_I → z_L → Prop} (hs : s_likely Rel) {b Ln : Nat} {xs : Nat → Int32} {I : z_I} {L : z_L} {J : z_I} {K : z_L} (hR : Rel I L J K) {v3 : Int32} {i0 : Nat} (e3 : nI i0 = v3) (h6 : i0 + 6 ≤ Ln) (hL : Ln ≤ 3072) (nx9 : ∀ (I : z_I) (L : z_L) (J : z_I) (K : z_L), Rel I L J K → z_V b Ln xs 1842 [(0, .ref 1), (1, .ref 2), (2, .ref 3), (3, .int v3)] [] I L J K) : z_V b Ln xs 1427 [(0, .ref 1), (1, .ref 2), (2, .ref 3), (3, .int v3)] [] I L J K := by
  obtain ⟨a1, ha1⟩ : ∃ a, xs ((v3 + (1 : Int32)).toNatClampNeg) = a := ⟨_, rfl⟩
  obtain ⟨a2, ha2⟩ : ∃ a, xs ((v3 + (2 : Int32)).toNatClampNeg) = a := ⟨_, rfl⟩
  refine w_aload_n 1 dL_law_1427 rfl rfl ?_
  refine w_aload_n 0 dL_law_1428 rfl rfl ?_
  refine w_iload_n 3 dL_law_1429 rfl rfl ?_
  refine w_iconst (v := (1)) dL_law_1430 (by decide) ?_
  refine w_iadd dL_law_1431 ?_
  refine w_sld dL_law_1432 (e3 ▸ z_ix h6 hL (j := 1) (by decide)) ha1 ?_
  refine w_aload_n 0 dL_law_1433 rfl rfl ?_
  refine w_iload_n 3 dL_law_1434 rfl rfl ?_
  refine w_iconst (v := (2)) dL_law_1435 (by decide) ?_
  refine w_iadd dL_law_1436 ?_
  refine w_sld dL_law_1437 (e3 ▸ z_ix h6 hL (j := 2) (by decide)) ha2 ?_
  obtain ⟨qX, qM, hX, hM, hE, hR1⟩ := hs I L J K a1 a2 hR
  refine w_callXi [.int a1, .int a2] (c_X10_likely (I := I) (L := L) hX) dL_law_1438 lk_L_187 rfl cd_X10_likely rfl rfl rfl (Nat.le_of_ble_eq_true rfl) ⟨rfl, rfl, Nat.le_of_ble_eq_true rfl, Nat.le_of_ble_eq_true rfl⟩ ?_
  refine w_aload_n 2 dL_law_1441 rfl rfl ?_
  refine w_aload_n 0 dL_law_1442 rfl rfl ?_
  refine w_iload_n 3 dL_law_1443 rfl rfl ?_
  refine w_iconst (v := (1)) dL_law_1444 (by decide) ?_
  refine w_iadd dL_law_1445 ?_
  refine w_sld dL_law_1446 (e3 ▸ z_ix h6 hL (j := 1) (by decide)) ha1 ?_
  refine w_aload_n 0 dL_law_1447 rfl rfl ?_
  refine w_iload_n 3 dL_law_1448 rfl rfl ?_
  refine w_iconst (v := (2)) dL_law_1449 (by decide) ?_
  refine w_iadd dL_law_1450 ?_
  refine w_sld dL_law_1451 (e3 ▸ z_ix h6 hL (j := 2) (by decide)) ha2 ?_
  refine w_callMi [.int a1, .int a2] (c_X11_likely (I := J) (L := K) hM) dL_law_1452 lk_L_190 rfl cd_X11_likely rfl rfl rfl (Nat.le_of_ble_eq_true rfl) ⟨rfl, rfl, Nat.le_of_ble_eq_true rfl, Nat.le_of_ble_eq_true rfl⟩ ?_
  refine w_icmp_eq 1842 dL_law_1455 (by decide) (fun _ => nx9 _ _ _ _ hR1) (fun h => absurd hE h)
set_option maxRecDepth 100000 in
set_option maxHeartbeats 4000000 in
theorem w_oddsThat_case {Rel : z_I → z_L → z_I → z_L → Prop} (hs : s_oddsThat Rel) {b Ln : Nat} {xs : Nat → Int32} {I : z_I} {L : z_L} {J : z_I} {K : z_L} (hR : Rel I L J K) {v3 : Int32} {i0 : Nat} (e3 : nI i0 = v3) (h6 : i0 + 6 ≤ Ln) (hL : Ln ≤ 3072) (nx9 : ∀ (I : z_I) (L : z_L) (J : z_I) (K : z_L), Rel I L J K → z_V b Ln xs 1842 [(0, .ref 1), (1, .ref 2), (2, .ref 3), (3, .int v3)] [] I L J K) : z_V b Ln xs 1460 [(0, .ref 1), (1, .ref 2), (2, .ref 3), (3, .int v3)] [] I L J K := by
  obtain ⟨a1, ha1⟩ : ∃ a, xs ((v3 + (1 : Int32)).toNatClampNeg) = a := ⟨_, rfl⟩
  obtain ⟨a2, ha2⟩ : ∃ a, xs ((v3 + (2 : Int32)).toNatClampNeg) = a := ⟨_, rfl⟩
  obtain ⟨a3, ha3⟩ : ∃ a, xs ((v3 + (3 : Int32)).toNatClampNeg) = a := ⟨_, rfl⟩
  refine w_aload_n 1 dL_law_1460 rfl rfl ?_
  refine w_aload_n 0 dL_law_1461 rfl rfl ?_
  refine w_iload_n 3 dL_law_1462 rfl rfl ?_
  refine w_iconst (v := (1)) dL_law_1463 (by decide) ?_
  refine w_iadd dL_law_1464 ?_
  refine w_sld dL_law_1465 (e3 ▸ z_ix h6 hL (j := 1) (by decide)) ha1 ?_
  refine w_aload_n 0 dL_law_1466 rfl rfl ?_
  refine w_iload_n 3 dL_law_1467 rfl rfl ?_
  refine w_iconst (v := (2)) dL_law_1468 (by decide) ?_
  refine w_iadd dL_law_1469 ?_
  refine w_sld dL_law_1470 (e3 ▸ z_ix h6 hL (j := 2) (by decide)) ha2 ?_
  refine w_aload_n 0 dL_law_1471 rfl rfl ?_
  refine w_iload_n 3 dL_law_1472 rfl rfl ?_
  refine w_iconst (v := (3)) dL_law_1473 (by decide) ?_
  refine w_iadd dL_law_1474 ?_
  refine w_sld dL_law_1475 (e3 ▸ z_ix h6 hL (j := 3) (by decide)) ha3 ?_
  obtain ⟨qX, qM, hX, hM, hE, hR1⟩ := hs I L J K a1 a2 a3 hR
  refine w_callXi [.int a1, .int a2, .int a3] (c_X10_oddsThat (I := I) (L := L) hX) dL_law_1476 lk_L_191 rfl cd_X10_oddsThat rfl rfl rfl (Nat.le_of_ble_eq_true rfl) ⟨rfl, rfl, Nat.le_of_ble_eq_true rfl, Nat.le_of_ble_eq_true rfl⟩ ?_
  refine w_aload_n 2 dL_law_1479 rfl rfl ?_
  refine w_aload_n 0 dL_law_1480 rfl rfl ?_
  refine w_iload_n 3 dL_law_1481 rfl rfl ?_
  refine w_iconst (v := (1)) dL_law_1482 (by decide) ?_
  refine w_iadd dL_law_1483 ?_
  refine w_sld dL_law_1484 (e3 ▸ z_ix h6 hL (j := 1) (by decide)) ha1 ?_
  refine w_aload_n 0 dL_law_1485 rfl rfl ?_
  refine w_iload_n 3 dL_law_1486 rfl rfl ?_
  refine w_iconst (v := (2)) dL_law_1487 (by decide) ?_
  refine w_iadd dL_law_1488 ?_
  refine w_sld dL_law_1489 (e3 ▸ z_ix h6 hL (j := 2) (by decide)) ha2 ?_
  refine w_aload_n 0 dL_law_1490 rfl rfl ?_
  refine w_iload_n 3 dL_law_1491 rfl rfl ?_
  refine w_iconst (v := (3)) dL_law_1492 (by decide) ?_
  refine w_iadd dL_law_1493 ?_
  refine w_sld dL_law_1494 (e3 ▸ z_ix h6 hL (j := 3) (by decide)) ha3 ?_
  refine w_callMi [.int a1, .int a2, .int a3] (c_X11_oddsThat (I := J) (L := K) hM) dL_law_1495 lk_L_194 rfl cd_X11_oddsThat rfl rfl rfl (Nat.le_of_ble_eq_true rfl) ⟨rfl, rfl, Nat.le_of_ble_eq_true rfl, Nat.le_of_ble_eq_true rfl⟩ ?_
  refine w_icmp_eq 1842 dL_law_1498 (by decide) (fun _ => nx9 _ _ _ _ hR1) (fun h => absurd (congrArg zb hE) h)
set_option maxRecDepth 100000 in
set_option maxHeartbeats 4000000 in
theorem w_next_case {Rel : z_I → z_L → z_I → z_L → Prop} (hs : s_next Rel) {b Ln : Nat} {xs : Nat → Int32} {I : z_I} {L : z_L} {J : z_I} {K : z_L} (hR : Rel I L J K) {v3 : Int32} {i0 : Nat} (e3 : nI i0 = v3) (h6 : i0 + 6 ≤ Ln) (hL : Ln ≤ 3072) (nx9 : ∀ (I : z_I) (L : z_L) (J : z_I) (K : z_L), Rel I L J K → z_V b Ln xs 1842 [(0, .ref 1), (1, .ref 2), (2, .ref 3), (3, .int v3)] [] I L J K) : z_V b Ln xs 1503 [(0, .ref 1), (1, .ref 2), (2, .ref 3), (3, .int v3)] [] I L J K := by
  obtain ⟨a1, ha1⟩ : ∃ a, xs ((v3 + (1 : Int32)).toNatClampNeg) = a := ⟨_, rfl⟩
  obtain ⟨a2, ha2⟩ : ∃ a, xs ((v3 + (2 : Int32)).toNatClampNeg) = a := ⟨_, rfl⟩
  refine w_aload_n 1 dL_law_1503 rfl rfl ?_
  refine w_aload_n 0 dL_law_1504 rfl rfl ?_
  refine w_iload_n 3 dL_law_1505 rfl rfl ?_
  refine w_iconst (v := (1)) dL_law_1506 (by decide) ?_
  refine w_iadd dL_law_1507 ?_
  refine w_sld dL_law_1508 (e3 ▸ z_ix h6 hL (j := 1) (by decide)) ha1 ?_
  refine w_aload_n 0 dL_law_1509 rfl rfl ?_
  refine w_iload_n 3 dL_law_1510 rfl rfl ?_
  refine w_iconst (v := (2)) dL_law_1511 (by decide) ?_
  refine w_iadd dL_law_1512 ?_
  refine w_sld dL_law_1513 (e3 ▸ z_ix h6 hL (j := 2) (by decide)) ha2 ?_
  obtain ⟨qX, qM, hX, hM, hE, hR1⟩ := hs I L J K a1 a2 hR
  refine w_callXi [.int a1, .int a2] (c_X10_next (I := I) (L := L) hX) dL_law_1514 lk_L_195 rfl cd_X10_next rfl rfl rfl (Nat.le_of_ble_eq_true rfl) ⟨rfl, rfl, Nat.le_of_ble_eq_true rfl, Nat.le_of_ble_eq_true rfl⟩ ?_
  refine w_aload_n 2 dL_law_1517 rfl rfl ?_
  refine w_aload_n 0 dL_law_1518 rfl rfl ?_
  refine w_iload_n 3 dL_law_1519 rfl rfl ?_
  refine w_iconst (v := (1)) dL_law_1520 (by decide) ?_
  refine w_iadd dL_law_1521 ?_
  refine w_sld dL_law_1522 (e3 ▸ z_ix h6 hL (j := 1) (by decide)) ha1 ?_
  refine w_aload_n 0 dL_law_1523 rfl rfl ?_
  refine w_iload_n 3 dL_law_1524 rfl rfl ?_
  refine w_iconst (v := (2)) dL_law_1525 (by decide) ?_
  refine w_iadd dL_law_1526 ?_
  refine w_sld dL_law_1527 (e3 ▸ z_ix h6 hL (j := 2) (by decide)) ha2 ?_
  refine w_callMi [.int a1, .int a2] (c_X11_next (I := J) (L := K) hM) dL_law_1528 lk_L_198 rfl cd_X11_next rfl rfl rfl (Nat.le_of_ble_eq_true rfl) ⟨rfl, rfl, Nat.le_of_ble_eq_true rfl, Nat.le_of_ble_eq_true rfl⟩ ?_
  refine w_icmp_eq 1842 dL_law_1531 (by decide) (fun _ => nx9 _ _ _ _ hR1) (fun h => absurd hE h)
set_option maxRecDepth 100000 in
set_option maxHeartbeats 4000000 in
theorem w_gather_case {Rel : z_I → z_L → z_I → z_L → Prop} (hs : s_gather Rel) {b Ln : Nat} {xs : Nat → Int32} {I : z_I} {L : z_L} {J : z_I} {K : z_L} (hR : Rel I L J K) {v3 : Int32} {i0 : Nat} (e3 : nI i0 = v3) (h6 : i0 + 6 ≤ Ln) (hL : Ln ≤ 3072) (nx9 : ∀ (I : z_I) (L : z_L) (J : z_I) (K : z_L), Rel I L J K → z_V b Ln xs 1842 [(0, .ref 1), (1, .ref 2), (2, .ref 3), (3, .int v3)] [] I L J K) : z_V b Ln xs 1536 [(0, .ref 1), (1, .ref 2), (2, .ref 3), (3, .int v3)] [] I L J K := by
  obtain ⟨a1, ha1⟩ : ∃ a, xs ((v3 + (1 : Int32)).toNatClampNeg) = a := ⟨_, rfl⟩
  obtain ⟨a2, ha2⟩ : ∃ a, xs ((v3 + (2 : Int32)).toNatClampNeg) = a := ⟨_, rfl⟩
  refine w_aload_n 1 dL_law_1536 rfl rfl ?_
  refine w_aload_n 0 dL_law_1537 rfl rfl ?_
  refine w_iload_n 3 dL_law_1538 rfl rfl ?_
  refine w_iconst (v := (1)) dL_law_1539 (by decide) ?_
  refine w_iadd dL_law_1540 ?_
  refine w_sld dL_law_1541 (e3 ▸ z_ix h6 hL (j := 1) (by decide)) ha1 ?_
  refine w_aload_n 0 dL_law_1542 rfl rfl ?_
  refine w_iload_n 3 dL_law_1543 rfl rfl ?_
  refine w_iconst (v := (2)) dL_law_1544 (by decide) ?_
  refine w_iadd dL_law_1545 ?_
  refine w_sld dL_law_1546 (e3 ▸ z_ix h6 hL (j := 2) (by decide)) ha2 ?_
  obtain ⟨qX, qM, hX, hM, hE, hR1⟩ := hs I L J K a1 a2 hR
  refine w_callXi [.int a1, .int a2] (c_X10_gather (I := I) (L := L) hX) dL_law_1547 lk_L_199 rfl cd_X10_gather rfl rfl rfl (Nat.le_of_ble_eq_true rfl) ⟨rfl, rfl, Nat.le_of_ble_eq_true rfl, Nat.le_of_ble_eq_true rfl⟩ ?_
  refine w_aload_n 2 dL_law_1550 rfl rfl ?_
  refine w_aload_n 0 dL_law_1551 rfl rfl ?_
  refine w_iload_n 3 dL_law_1552 rfl rfl ?_
  refine w_iconst (v := (1)) dL_law_1553 (by decide) ?_
  refine w_iadd dL_law_1554 ?_
  refine w_sld dL_law_1555 (e3 ▸ z_ix h6 hL (j := 1) (by decide)) ha1 ?_
  refine w_aload_n 0 dL_law_1556 rfl rfl ?_
  refine w_iload_n 3 dL_law_1557 rfl rfl ?_
  refine w_iconst (v := (2)) dL_law_1558 (by decide) ?_
  refine w_iadd dL_law_1559 ?_
  refine w_sld dL_law_1560 (e3 ▸ z_ix h6 hL (j := 2) (by decide)) ha2 ?_
  refine w_callMi [.int a1, .int a2] (c_X11_gather (I := J) (L := K) hM) dL_law_1561 lk_L_202 rfl cd_X11_gather rfl rfl rfl (Nat.le_of_ble_eq_true rfl) ⟨rfl, rfl, Nat.le_of_ble_eq_true rfl, Nat.le_of_ble_eq_true rfl⟩ ?_
  refine w_icmp_eq 1842 dL_law_1564 (by decide) (fun _ => nx9 _ _ _ _ hR1) (fun h => absurd hE h)
set_option maxRecDepth 100000 in
set_option maxHeartbeats 4000000 in
theorem w_brisk_case {Rel : z_I → z_L → z_I → z_L → Prop} (hs : s_brisk Rel) {b Ln : Nat} {xs : Nat → Int32} {I : z_I} {L : z_L} {J : z_I} {K : z_L} (hR : Rel I L J K) {v3 : Int32} {i0 : Nat} (e3 : nI i0 = v3) (h6 : i0 + 6 ≤ Ln) (hL : Ln ≤ 3072) (nx9 : ∀ (I : z_I) (L : z_L) (J : z_I) (K : z_L), Rel I L J K → z_V b Ln xs 1842 [(0, .ref 1), (1, .ref 2), (2, .ref 3), (3, .int v3)] [] I L J K) : z_V b Ln xs 1569 [(0, .ref 1), (1, .ref 2), (2, .ref 3), (3, .int v3)] [] I L J K := by
  obtain ⟨a1, ha1⟩ : ∃ a, xs ((v3 + (1 : Int32)).toNatClampNeg) = a := ⟨_, rfl⟩
  obtain ⟨a2, ha2⟩ : ∃ a, xs ((v3 + (2 : Int32)).toNatClampNeg) = a := ⟨_, rfl⟩
  refine w_aload_n 1 dL_law_1569 rfl rfl ?_
  refine w_aload_n 0 dL_law_1570 rfl rfl ?_
  refine w_iload_n 3 dL_law_1571 rfl rfl ?_
  refine w_iconst (v := (1)) dL_law_1572 (by decide) ?_
  refine w_iadd dL_law_1573 ?_
  refine w_sld dL_law_1574 (e3 ▸ z_ix h6 hL (j := 1) (by decide)) ha1 ?_
  refine w_aload_n 0 dL_law_1575 rfl rfl ?_
  refine w_iload_n 3 dL_law_1576 rfl rfl ?_
  refine w_iconst (v := (2)) dL_law_1577 (by decide) ?_
  refine w_iadd dL_law_1578 ?_
  refine w_sld dL_law_1579 (e3 ▸ z_ix h6 hL (j := 2) (by decide)) ha2 ?_
  obtain ⟨qX, qM, hX, hM, hE, hR1⟩ := hs I L J K a1 a2 hR
  refine w_callXi [.int a1, .int a2] (c_X10_brisk (I := I) (L := L) hX) dL_law_1580 lk_L_203 rfl cd_X10_brisk rfl rfl rfl (Nat.le_of_ble_eq_true rfl) ⟨rfl, rfl, Nat.le_of_ble_eq_true rfl, Nat.le_of_ble_eq_true rfl⟩ ?_
  refine w_aload_n 2 dL_law_1583 rfl rfl ?_
  refine w_aload_n 0 dL_law_1584 rfl rfl ?_
  refine w_iload_n 3 dL_law_1585 rfl rfl ?_
  refine w_iconst (v := (1)) dL_law_1586 (by decide) ?_
  refine w_iadd dL_law_1587 ?_
  refine w_sld dL_law_1588 (e3 ▸ z_ix h6 hL (j := 1) (by decide)) ha1 ?_
  refine w_aload_n 0 dL_law_1589 rfl rfl ?_
  refine w_iload_n 3 dL_law_1590 rfl rfl ?_
  refine w_iconst (v := (2)) dL_law_1591 (by decide) ?_
  refine w_iadd dL_law_1592 ?_
  refine w_sld dL_law_1593 (e3 ▸ z_ix h6 hL (j := 2) (by decide)) ha2 ?_
  refine w_callMi [.int a1, .int a2] (c_X11_brisk (I := J) (L := K) hM) dL_law_1594 lk_L_206 rfl cd_X11_brisk rfl rfl rfl (Nat.le_of_ble_eq_true rfl) ⟨rfl, rfl, Nat.le_of_ble_eq_true rfl, Nat.le_of_ble_eq_true rfl⟩ ?_
  refine w_icmp_eq 1842 dL_law_1597 (by decide) (fun _ => nx9 _ _ _ _ hR1) (fun h => absurd hE h)
set_option maxRecDepth 100000 in
set_option maxHeartbeats 4000000 in
theorem w_game_case {Rel : z_I → z_L → z_I → z_L → Prop} (hs : s_game Rel) {b Ln : Nat} {xs : Nat → Int32} {I : z_I} {L : z_L} {J : z_I} {K : z_L} (hR : Rel I L J K) {v3 : Int32} {i0 : Nat} (e3 : nI i0 = v3) (h6 : i0 + 6 ≤ Ln) (hL : Ln ≤ 3072) (nx9 : ∀ (I : z_I) (L : z_L) (J : z_I) (K : z_L), Rel I L J K → z_V b Ln xs 1842 [(0, .ref 1), (1, .ref 2), (2, .ref 3), (3, .int v3)] [] I L J K) : z_V b Ln xs 1602 [(0, .ref 1), (1, .ref 2), (2, .ref 3), (3, .int v3)] [] I L J K := by
  obtain ⟨a1, ha1⟩ : ∃ a, xs ((v3 + (1 : Int32)).toNatClampNeg) = a := ⟨_, rfl⟩
  refine w_aload_n 1 dL_law_1602 rfl rfl ?_
  refine w_aload_n 0 dL_law_1603 rfl rfl ?_
  refine w_iload_n 3 dL_law_1604 rfl rfl ?_
  refine w_iconst (v := (1)) dL_law_1605 (by decide) ?_
  refine w_iadd dL_law_1606 ?_
  refine w_sld dL_law_1607 (e3 ▸ z_ix h6 hL (j := 1) (by decide)) ha1 ?_
  obtain ⟨qX, qM, hX, hM, hE, hR1⟩ := hs I L J K a1 hR
  refine w_callXi [.int a1] (c_X10_game (I := I) (L := L) hX) dL_law_1608 lk_L_207 rfl cd_X10_game rfl rfl rfl (Nat.le_of_ble_eq_true rfl) ⟨rfl, rfl, Nat.le_of_ble_eq_true rfl, Nat.le_of_ble_eq_true rfl⟩ ?_
  refine w_aload_n 2 dL_law_1611 rfl rfl ?_
  refine w_aload_n 0 dL_law_1612 rfl rfl ?_
  refine w_iload_n 3 dL_law_1613 rfl rfl ?_
  refine w_iconst (v := (1)) dL_law_1614 (by decide) ?_
  refine w_iadd dL_law_1615 ?_
  refine w_sld dL_law_1616 (e3 ▸ z_ix h6 hL (j := 1) (by decide)) ha1 ?_
  refine w_callMi [.int a1] (c_X11_game (I := J) (L := K) hM) dL_law_1617 lk_L_210 rfl cd_X11_game rfl rfl rfl (Nat.le_of_ble_eq_true rfl) ⟨rfl, rfl, Nat.le_of_ble_eq_true rfl, Nat.le_of_ble_eq_true rfl⟩ ?_
  refine w_icmp_eq 1842 dL_law_1620 (by decide) (fun _ => nx9 _ _ _ _ hR1) (fun h => absurd hE h)
set_option maxRecDepth 100000 in
set_option maxHeartbeats 4000000 in
theorem w_moveOf_case {Rel : z_I → z_L → z_I → z_L → Prop} (hs : s_moveOf Rel) {b Ln : Nat} {xs : Nat → Int32} {I : z_I} {L : z_L} {J : z_I} {K : z_L} (hR : Rel I L J K) {v3 : Int32} {i0 : Nat} (e3 : nI i0 = v3) (h6 : i0 + 6 ≤ Ln) (hL : Ln ≤ 3072) (nx9 : ∀ (I : z_I) (L : z_L) (J : z_I) (K : z_L), Rel I L J K → z_V b Ln xs 1842 [(0, .ref 1), (1, .ref 2), (2, .ref 3), (3, .int v3)] [] I L J K) : z_V b Ln xs 1625 [(0, .ref 1), (1, .ref 2), (2, .ref 3), (3, .int v3)] [] I L J K := by
  obtain ⟨a1, ha1⟩ : ∃ a, xs ((v3 + (1 : Int32)).toNatClampNeg) = a := ⟨_, rfl⟩
  refine w_aload_n 1 dL_law_1625 rfl rfl ?_
  refine w_aload_n 0 dL_law_1626 rfl rfl ?_
  refine w_iload_n 3 dL_law_1627 rfl rfl ?_
  refine w_iconst (v := (1)) dL_law_1628 (by decide) ?_
  refine w_iadd dL_law_1629 ?_
  refine w_sld dL_law_1630 (e3 ▸ z_ix h6 hL (j := 1) (by decide)) ha1 ?_
  obtain ⟨qX, qM, hX, hM, hE, hR1⟩ := hs I L J K a1 hR
  refine w_callXi [.int a1] (c_X10_moveOf (I := I) (L := L) hX) dL_law_1631 lk_L_211 rfl cd_X10_moveOf rfl rfl rfl (Nat.le_of_ble_eq_true rfl) ⟨rfl, rfl, Nat.le_of_ble_eq_true rfl, Nat.le_of_ble_eq_true rfl⟩ ?_
  refine w_aload_n 2 dL_law_1634 rfl rfl ?_
  refine w_aload_n 0 dL_law_1635 rfl rfl ?_
  refine w_iload_n 3 dL_law_1636 rfl rfl ?_
  refine w_iconst (v := (1)) dL_law_1637 (by decide) ?_
  refine w_iadd dL_law_1638 ?_
  refine w_sld dL_law_1639 (e3 ▸ z_ix h6 hL (j := 1) (by decide)) ha1 ?_
  refine w_callMi [.int a1] (c_X11_moveOf (I := J) (L := K) hM) dL_law_1640 lk_L_214 rfl cd_X11_moveOf rfl rfl rfl (Nat.le_of_ble_eq_true rfl) ⟨rfl, rfl, Nat.le_of_ble_eq_true rfl, Nat.le_of_ble_eq_true rfl⟩ ?_
  refine w_icmp_eq 1842 dL_law_1643 (by decide) (fun _ => nx9 _ _ _ _ hR1) (fun h => absurd hE h)
set_option maxRecDepth 100000 in
set_option maxHeartbeats 4000000 in
theorem w_blind_case {Rel : z_I → z_L → z_I → z_L → Prop} (hs : s_blind Rel) {b Ln : Nat} {xs : Nat → Int32} {I : z_I} {L : z_L} {J : z_I} {K : z_L} (hR : Rel I L J K) {v3 : Int32} {i0 : Nat} (e3 : nI i0 = v3) (h6 : i0 + 6 ≤ Ln) (hL : Ln ≤ 3072) (nx9 : ∀ (I : z_I) (L : z_L) (J : z_I) (K : z_L), Rel I L J K → z_V b Ln xs 1842 [(0, .ref 1), (1, .ref 2), (2, .ref 3), (3, .int v3)] [] I L J K) : z_V b Ln xs 1648 [(0, .ref 1), (1, .ref 2), (2, .ref 3), (3, .int v3)] [] I L J K := by
  obtain ⟨a1, ha1⟩ : ∃ a, xs ((v3 + (1 : Int32)).toNatClampNeg) = a := ⟨_, rfl⟩
  obtain ⟨a2, ha2⟩ : ∃ a, xs ((v3 + (2 : Int32)).toNatClampNeg) = a := ⟨_, rfl⟩
  obtain ⟨a3, ha3⟩ : ∃ a, xs ((v3 + (3 : Int32)).toNatClampNeg) = a := ⟨_, rfl⟩
  refine w_aload_n 1 dL_law_1648 rfl rfl ?_
  refine w_aload_n 0 dL_law_1649 rfl rfl ?_
  refine w_iload_n 3 dL_law_1650 rfl rfl ?_
  refine w_iconst (v := (1)) dL_law_1651 (by decide) ?_
  refine w_iadd dL_law_1652 ?_
  refine w_sld dL_law_1653 (e3 ▸ z_ix h6 hL (j := 1) (by decide)) ha1 ?_
  refine w_aload_n 0 dL_law_1654 rfl rfl ?_
  refine w_iload_n 3 dL_law_1655 rfl rfl ?_
  refine w_iconst (v := (2)) dL_law_1656 (by decide) ?_
  refine w_iadd dL_law_1657 ?_
  refine w_sld dL_law_1658 (e3 ▸ z_ix h6 hL (j := 2) (by decide)) ha2 ?_
  refine w_aload_n 0 dL_law_1659 rfl rfl ?_
  refine w_iload_n 3 dL_law_1660 rfl rfl ?_
  refine w_iconst (v := (3)) dL_law_1661 (by decide) ?_
  refine w_iadd dL_law_1662 ?_
  refine w_sld dL_law_1663 (e3 ▸ z_ix h6 hL (j := 3) (by decide)) ha3 ?_
  obtain ⟨qX, qM, hX, hM, hE, hR1⟩ := hs I L J K a1 a2 a3 hR
  refine w_callXi [.int a1, .int a2, .int a3] (c_X10_blind (I := I) (L := L) hX) dL_law_1664 lk_L_215 rfl cd_X10_blind rfl rfl rfl (Nat.le_of_ble_eq_true rfl) ⟨rfl, rfl, Nat.le_of_ble_eq_true rfl, Nat.le_of_ble_eq_true rfl⟩ ?_
  refine w_aload_n 2 dL_law_1667 rfl rfl ?_
  refine w_aload_n 0 dL_law_1668 rfl rfl ?_
  refine w_iload_n 3 dL_law_1669 rfl rfl ?_
  refine w_iconst (v := (1)) dL_law_1670 (by decide) ?_
  refine w_iadd dL_law_1671 ?_
  refine w_sld dL_law_1672 (e3 ▸ z_ix h6 hL (j := 1) (by decide)) ha1 ?_
  refine w_aload_n 0 dL_law_1673 rfl rfl ?_
  refine w_iload_n 3 dL_law_1674 rfl rfl ?_
  refine w_iconst (v := (2)) dL_law_1675 (by decide) ?_
  refine w_iadd dL_law_1676 ?_
  refine w_sld dL_law_1677 (e3 ▸ z_ix h6 hL (j := 2) (by decide)) ha2 ?_
  refine w_aload_n 0 dL_law_1678 rfl rfl ?_
  refine w_iload_n 3 dL_law_1679 rfl rfl ?_
  refine w_iconst (v := (3)) dL_law_1680 (by decide) ?_
  refine w_iadd dL_law_1681 ?_
  refine w_sld dL_law_1682 (e3 ▸ z_ix h6 hL (j := 3) (by decide)) ha3 ?_
  refine w_callMi [.int a1, .int a2, .int a3] (c_X11_blind (I := J) (L := K) hM) dL_law_1683 lk_L_218 rfl cd_X11_blind rfl rfl rfl (Nat.le_of_ble_eq_true rfl) ⟨rfl, rfl, Nat.le_of_ble_eq_true rfl, Nat.le_of_ble_eq_true rfl⟩ ?_
  refine w_icmp_eq 1842 dL_law_1686 (by decide) (fun _ => nx9 _ _ _ _ hR1) (fun h => absurd (congrArg zb hE) h)
set_option maxRecDepth 100000 in
set_option maxHeartbeats 4000000 in
theorem w_share_case {Rel : z_I → z_L → z_I → z_L → Prop} (hs : s_share Rel) {b Ln : Nat} {xs : Nat → Int32} {I : z_I} {L : z_L} {J : z_I} {K : z_L} (hR : Rel I L J K) {v3 : Int32} {i0 : Nat} (e3 : nI i0 = v3) (h6 : i0 + 6 ≤ Ln) (hL : Ln ≤ 3072) (nx9 : ∀ (I : z_I) (L : z_L) (J : z_I) (K : z_L), Rel I L J K → z_V b Ln xs 1842 [(0, .ref 1), (1, .ref 2), (2, .ref 3), (3, .int v3)] [] I L J K) : z_V b Ln xs 1691 [(0, .ref 1), (1, .ref 2), (2, .ref 3), (3, .int v3)] [] I L J K := by
  obtain ⟨a1, ha1⟩ : ∃ a, xs ((v3 + (1 : Int32)).toNatClampNeg) = a := ⟨_, rfl⟩
  refine w_aload_n 1 dL_law_1691 rfl rfl ?_
  refine w_aload_n 0 dL_law_1692 rfl rfl ?_
  refine w_iload_n 3 dL_law_1693 rfl rfl ?_
  refine w_iconst (v := (1)) dL_law_1694 (by decide) ?_
  refine w_iadd dL_law_1695 ?_
  refine w_sld dL_law_1696 (e3 ▸ z_ix h6 hL (j := 1) (by decide)) ha1 ?_
  obtain ⟨qX, qM, hX, hM, hE, hR1⟩ := hs I L J K a1 hR
  refine w_callXi [.int a1] (c_X10_share (I := I) (L := L) hX) dL_law_1697 lk_L_219 rfl cd_X10_share rfl rfl rfl (Nat.le_of_ble_eq_true rfl) ⟨rfl, rfl, Nat.le_of_ble_eq_true rfl, Nat.le_of_ble_eq_true rfl⟩ ?_
  refine w_aload_n 2 dL_law_1700 rfl rfl ?_
  refine w_aload_n 0 dL_law_1701 rfl rfl ?_
  refine w_iload_n 3 dL_law_1702 rfl rfl ?_
  refine w_iconst (v := (1)) dL_law_1703 (by decide) ?_
  refine w_iadd dL_law_1704 ?_
  refine w_sld dL_law_1705 (e3 ▸ z_ix h6 hL (j := 1) (by decide)) ha1 ?_
  refine w_callMi [.int a1] (c_X11_share (I := J) (L := K) hM) dL_law_1706 lk_L_222 rfl cd_X11_share rfl rfl rfl (Nat.le_of_ble_eq_true rfl) ⟨rfl, rfl, Nat.le_of_ble_eq_true rfl, Nat.le_of_ble_eq_true rfl⟩ ?_
  refine w_icmp_eq 1842 dL_law_1709 (by decide) (fun _ => nx9 _ _ _ _ hR1) (fun h => absurd (congrArg zb hE) h)
set_option maxRecDepth 100000 in
set_option maxHeartbeats 4000000 in
theorem w_copyBeds_case {Rel : z_I → z_L → z_I → z_L → Prop} (hs : s_copyBeds Rel) {b Ln : Nat} {xs : Nat → Int32} {I : z_I} {L : z_L} {J : z_I} {K : z_L} (hR : Rel I L J K) {v3 : Int32} {i0 : Nat} (e3 : nI i0 = v3) (h6 : i0 + 6 ≤ Ln) (hL : Ln ≤ 3072) (nx9 : ∀ (I : z_I) (L : z_L) (J : z_I) (K : z_L), Rel I L J K → z_V b Ln xs 1842 [(0, .ref 1), (1, .ref 2), (2, .ref 3), (3, .int v3)] [] I L J K) : z_V b Ln xs 1714 [(0, .ref 1), (1, .ref 2), (2, .ref 3), (3, .int v3)] [] I L J K := by
  obtain ⟨a1, ha1⟩ : ∃ a, xs ((v3 + (1 : Int32)).toNatClampNeg) = a := ⟨_, rfl⟩
  refine w_aload_n 1 dL_law_1714 rfl rfl ?_
  refine w_aload_n 0 dL_law_1715 rfl rfl ?_
  refine w_iload_n 3 dL_law_1716 rfl rfl ?_
  refine w_iconst (v := (1)) dL_law_1717 (by decide) ?_
  refine w_iadd dL_law_1718 ?_
  refine w_sld dL_law_1719 (e3 ▸ z_ix h6 hL (j := 1) (by decide)) ha1 ?_
  obtain ⟨qX, qM, hX, hM, hE, hR1⟩ := hs I L J K a1 hR
  refine w_callXi [.int a1] (c_X10_copyBeds (I := I) (L := L) hX) dL_law_1720 lk_L_223 rfl cd_X10_copyBeds rfl rfl rfl (Nat.le_of_ble_eq_true rfl) ⟨rfl, rfl, Nat.le_of_ble_eq_true rfl, Nat.le_of_ble_eq_true rfl⟩ ?_
  refine w_aload_n 2 dL_law_1723 rfl rfl ?_
  refine w_aload_n 0 dL_law_1724 rfl rfl ?_
  refine w_iload_n 3 dL_law_1725 rfl rfl ?_
  refine w_iconst (v := (1)) dL_law_1726 (by decide) ?_
  refine w_iadd dL_law_1727 ?_
  refine w_sld dL_law_1728 (e3 ▸ z_ix h6 hL (j := 1) (by decide)) ha1 ?_
  refine w_callMi [.int a1] (c_X11_copyBeds (I := J) (L := K) hM) dL_law_1729 lk_L_226 rfl cd_X11_copyBeds rfl rfl rfl (Nat.le_of_ble_eq_true rfl) ⟨rfl, rfl, Nat.le_of_ble_eq_true rfl, Nat.le_of_ble_eq_true rfl⟩ ?_
  refine w_icmp_eq 1842 dL_law_1732 (by decide) (fun _ => nx9 _ _ _ _ hR1) (fun h => absurd hE h)
set_option maxRecDepth 100000 in
set_option maxHeartbeats 4000000 in
theorem w_live_case {Rel : z_I → z_L → z_I → z_L → Prop} (hs : s_live Rel) {b Ln : Nat} {xs : Nat → Int32} {I : z_I} {L : z_L} {J : z_I} {K : z_L} (hR : Rel I L J K) {v3 : Int32} {i0 : Nat} (e3 : nI i0 = v3) (h6 : i0 + 6 ≤ Ln) (hL : Ln ≤ 3072) (nx9 : ∀ (I : z_I) (L : z_L) (J : z_I) (K : z_L), Rel I L J K → z_V b Ln xs 1842 [(0, .ref 1), (1, .ref 2), (2, .ref 3), (3, .int v3)] [] I L J K) : z_V b Ln xs 1737 [(0, .ref 1), (1, .ref 2), (2, .ref 3), (3, .int v3)] [] I L J K := by
  obtain ⟨a1, ha1⟩ : ∃ a, xs ((v3 + (1 : Int32)).toNatClampNeg) = a := ⟨_, rfl⟩
  refine w_aload_n 1 dL_law_1737 rfl rfl ?_
  refine w_aload_n 0 dL_law_1738 rfl rfl ?_
  refine w_iload_n 3 dL_law_1739 rfl rfl ?_
  refine w_iconst (v := (1)) dL_law_1740 (by decide) ?_
  refine w_iadd dL_law_1741 ?_
  refine w_sld dL_law_1742 (e3 ▸ z_ix h6 hL (j := 1) (by decide)) ha1 ?_
  obtain ⟨qX, qM, hX, hM, hE, hR1⟩ := hs I L J K a1 hR
  refine w_callXi [.int a1] (c_X10_live (I := I) (L := L) hX) dL_law_1743 lk_L_227 rfl cd_X10_live rfl rfl rfl (Nat.le_of_ble_eq_true rfl) ⟨rfl, rfl, Nat.le_of_ble_eq_true rfl, Nat.le_of_ble_eq_true rfl⟩ ?_
  refine w_aload_n 2 dL_law_1746 rfl rfl ?_
  refine w_aload_n 0 dL_law_1747 rfl rfl ?_
  refine w_iload_n 3 dL_law_1748 rfl rfl ?_
  refine w_iconst (v := (1)) dL_law_1749 (by decide) ?_
  refine w_iadd dL_law_1750 ?_
  refine w_sld dL_law_1751 (e3 ▸ z_ix h6 hL (j := 1) (by decide)) ha1 ?_
  refine w_callMi [.int a1] (c_X11_live (I := J) (L := K) hM) dL_law_1752 lk_L_230 rfl cd_X11_live rfl rfl rfl (Nat.le_of_ble_eq_true rfl) ⟨rfl, rfl, Nat.le_of_ble_eq_true rfl, Nat.le_of_ble_eq_true rfl⟩ ?_
  refine w_icmp_eq 1842 dL_law_1755 (by decide) (fun _ => nx9 _ _ _ _ hR1) (fun h => absurd hE h)
set_option maxRecDepth 100000 in
set_option maxHeartbeats 4000000 in
theorem w_lived_case {Rel : z_I → z_L → z_I → z_L → Prop} (hs : s_lived Rel) {b Ln : Nat} {xs : Nat → Int32} {I : z_I} {L : z_L} {J : z_I} {K : z_L} (hR : Rel I L J K) {v3 : Int32} {i0 : Nat} (e3 : nI i0 = v3) (h6 : i0 + 6 ≤ Ln) (hL : Ln ≤ 3072) (nx9 : ∀ (I : z_I) (L : z_L) (J : z_I) (K : z_L), Rel I L J K → z_V b Ln xs 1842 [(0, .ref 1), (1, .ref 2), (2, .ref 3), (3, .int v3)] [] I L J K) : z_V b Ln xs 1760 [(0, .ref 1), (1, .ref 2), (2, .ref 3), (3, .int v3)] [] I L J K := by
  obtain ⟨a1, ha1⟩ : ∃ a, xs ((v3 + (1 : Int32)).toNatClampNeg) = a := ⟨_, rfl⟩
  refine w_aload_n 1 dL_law_1760 rfl rfl ?_
  refine w_aload_n 0 dL_law_1761 rfl rfl ?_
  refine w_iload_n 3 dL_law_1762 rfl rfl ?_
  refine w_iconst (v := (1)) dL_law_1763 (by decide) ?_
  refine w_iadd dL_law_1764 ?_
  refine w_sld dL_law_1765 (e3 ▸ z_ix h6 hL (j := 1) (by decide)) ha1 ?_
  obtain ⟨qX, qM, hX, hM, hE, hR1⟩ := hs I L J K a1 hR
  refine w_callXi [.int a1] (c_X10_lived (I := I) (L := L) hX) dL_law_1766 lk_L_231 rfl cd_X10_lived rfl rfl rfl (Nat.le_of_ble_eq_true rfl) ⟨rfl, rfl, Nat.le_of_ble_eq_true rfl, Nat.le_of_ble_eq_true rfl⟩ ?_
  refine w_aload_n 2 dL_law_1769 rfl rfl ?_
  refine w_aload_n 0 dL_law_1770 rfl rfl ?_
  refine w_iload_n 3 dL_law_1771 rfl rfl ?_
  refine w_iconst (v := (1)) dL_law_1772 (by decide) ?_
  refine w_iadd dL_law_1773 ?_
  refine w_sld dL_law_1774 (e3 ▸ z_ix h6 hL (j := 1) (by decide)) ha1 ?_
  refine w_callMi [.int a1] (c_X11_lived (I := J) (L := K) hM) dL_law_1775 lk_L_234 rfl cd_X11_lived rfl rfl rfl (Nat.le_of_ble_eq_true rfl) ⟨rfl, rfl, Nat.le_of_ble_eq_true rfl, Nat.le_of_ble_eq_true rfl⟩ ?_
  refine w_icmp_eq 1842 dL_law_1778 (by decide) (fun _ => nx9 _ _ _ _ hR1) (fun h => absurd hE h)
set_option maxRecDepth 100000 in
set_option maxHeartbeats 4000000 in
theorem w_mean_case {Rel : z_I → z_L → z_I → z_L → Prop} (hs : s_mean Rel) {b Ln : Nat} {xs : Nat → Int32} {I : z_I} {L : z_L} {J : z_I} {K : z_L} (hR : Rel I L J K) {v3 : Int32} {i0 : Nat} (e3 : nI i0 = v3) (h6 : i0 + 6 ≤ Ln) (hL : Ln ≤ 3072) (nx9 : ∀ (I : z_I) (L : z_L) (J : z_I) (K : z_L), Rel I L J K → z_V b Ln xs 1842 [(0, .ref 1), (1, .ref 2), (2, .ref 3), (3, .int v3)] [] I L J K) : z_V b Ln xs 1783 [(0, .ref 1), (1, .ref 2), (2, .ref 3), (3, .int v3)] [] I L J K := by
  obtain ⟨a1, ha1⟩ : ∃ a, xs ((v3 + (1 : Int32)).toNatClampNeg) = a := ⟨_, rfl⟩
  obtain ⟨a2, ha2⟩ : ∃ a, xs ((v3 + (2 : Int32)).toNatClampNeg) = a := ⟨_, rfl⟩
  refine w_aload_n 1 dL_law_1783 rfl rfl ?_
  refine w_aload_n 0 dL_law_1784 rfl rfl ?_
  refine w_iload_n 3 dL_law_1785 rfl rfl ?_
  refine w_iconst (v := (1)) dL_law_1786 (by decide) ?_
  refine w_iadd dL_law_1787 ?_
  refine w_sld dL_law_1788 (e3 ▸ z_ix h6 hL (j := 1) (by decide)) ha1 ?_
  refine w_aload_n 0 dL_law_1789 rfl rfl ?_
  refine w_iload_n 3 dL_law_1790 rfl rfl ?_
  refine w_iconst (v := (2)) dL_law_1791 (by decide) ?_
  refine w_iadd dL_law_1792 ?_
  refine w_sld dL_law_1793 (e3 ▸ z_ix h6 hL (j := 2) (by decide)) ha2 ?_
  obtain ⟨qX, qM, hX, hM, hE, hR1⟩ := hs I L J K a1 a2 hR
  refine w_callXi [.int a1, .int a2] (c_X10_mean (I := I) (L := L) hX) dL_law_1794 lk_L_235 rfl cd_X10_mean rfl rfl rfl (Nat.le_of_ble_eq_true rfl) ⟨rfl, rfl, Nat.le_of_ble_eq_true rfl, Nat.le_of_ble_eq_true rfl⟩ ?_
  refine w_aload_n 2 dL_law_1797 rfl rfl ?_
  refine w_aload_n 0 dL_law_1798 rfl rfl ?_
  refine w_iload_n 3 dL_law_1799 rfl rfl ?_
  refine w_iconst (v := (1)) dL_law_1800 (by decide) ?_
  refine w_iadd dL_law_1801 ?_
  refine w_sld dL_law_1802 (e3 ▸ z_ix h6 hL (j := 1) (by decide)) ha1 ?_
  refine w_aload_n 0 dL_law_1803 rfl rfl ?_
  refine w_iload_n 3 dL_law_1804 rfl rfl ?_
  refine w_iconst (v := (2)) dL_law_1805 (by decide) ?_
  refine w_iadd dL_law_1806 ?_
  refine w_sld dL_law_1807 (e3 ▸ z_ix h6 hL (j := 2) (by decide)) ha2 ?_
  refine w_callMi [.int a1, .int a2] (c_X11_mean (I := J) (L := K) hM) dL_law_1808 lk_L_239 rfl cd_X11_mean rfl rfl rfl (Nat.le_of_ble_eq_true rfl) ⟨rfl, rfl, Nat.le_of_ble_eq_true rfl, Nat.le_of_ble_eq_true rfl⟩ ?_
  refine w_icmp_eq 1842 dL_law_1811 (by decide) (fun _ => nx9 _ _ _ _ hR1) (fun h => absurd (congrArg zb hE) h)
set_option maxRecDepth 100000 in
set_option maxHeartbeats 4000000 in
theorem w_mark_case {Rel : z_I → z_L → z_I → z_L → Prop} (hs : s_mark Rel) {b Ln : Nat} {xs : Nat → Int32} {I : z_I} {L : z_L} {J : z_I} {K : z_L} (hR : Rel I L J K) {v3 : Int32} {i0 : Nat} (e3 : nI i0 = v3) (h6 : i0 + 6 ≤ Ln) (hL : Ln ≤ 3072) (nx9 : ∀ (I : z_I) (L : z_L) (J : z_I) (K : z_L), Rel I L J K → z_V b Ln xs 1842 [(0, .ref 1), (1, .ref 2), (2, .ref 3), (3, .int v3)] [] I L J K) : z_V b Ln xs 1816 [(0, .ref 1), (1, .ref 2), (2, .ref 3), (3, .int v3)] [] I L J K := by
  refine w_aload_n 1 dL_law_1816 rfl rfl ?_
  obtain ⟨qX, qM, hX, hM, hE, hR1⟩ := hs I L J K  hR
  refine w_callXi [] (c_X10_mark (I := I) (L := L) hX) dL_law_1817 lk_L_240 rfl cd_X10_mark rfl rfl rfl (Nat.le_of_ble_eq_true rfl) ⟨rfl, rfl, Nat.le_of_ble_eq_true rfl, Nat.le_of_ble_eq_true rfl⟩ ?_
  refine w_aload_n 2 dL_law_1820 rfl rfl ?_
  refine w_callMi [] (c_X11_mark (I := J) (L := K) hM) dL_law_1821 lk_L_243 rfl cd_X11_mark rfl rfl rfl (Nat.le_of_ble_eq_true rfl) ⟨rfl, rfl, Nat.le_of_ble_eq_true rfl, Nat.le_of_ble_eq_true rfl⟩ ?_
  refine w_icmp_eq 1842 dL_law_1824 (by decide) (fun _ => nx9 _ _ _ _ hR1) (fun h => absurd hE h)
set_option maxRecDepth 100000 in
set_option maxHeartbeats 4000000 in
theorem w_undo_case {Rel : z_I → z_L → z_I → z_L → Prop} (hs : s_undo Rel) {b Ln : Nat} {xs : Nat → Int32} {I : z_I} {L : z_L} {J : z_I} {K : z_L} (hR : Rel I L J K) {v3 : Int32} {i0 : Nat} (e3 : nI i0 = v3) (h6 : i0 + 6 ≤ Ln) (hL : Ln ≤ 3072) (nx9 : ∀ (I : z_I) (L : z_L) (J : z_I) (K : z_L), Rel I L J K → z_V b Ln xs 1842 [(0, .ref 1), (1, .ref 2), (2, .ref 3), (3, .int v3)] [] I L J K) : z_V b Ln xs 1829 [(0, .ref 1), (1, .ref 2), (2, .ref 3), (3, .int v3)] [] I L J K := by
  refine w_aload_n 1 dL_law_1829 rfl rfl ?_
  obtain ⟨qX, qM, hX, hM, hE, hR1⟩ := hs I L J K  hR
  refine w_callXi [] (c_X10_undo (I := I) (L := L) hX) dL_law_1830 lk_L_244 rfl cd_X10_undo rfl rfl rfl (Nat.le_of_ble_eq_true rfl) ⟨rfl, rfl, Nat.le_of_ble_eq_true rfl, Nat.le_of_ble_eq_true rfl⟩ ?_
  refine w_aload_n 2 dL_law_1833 rfl rfl ?_
  refine w_callMi [] (c_X11_undo (I := J) (L := K) hM) dL_law_1834 lk_L_247 rfl cd_X11_undo rfl rfl rfl (Nat.le_of_ble_eq_true rfl) ⟨rfl, rfl, Nat.le_of_ble_eq_true rfl, Nat.le_of_ble_eq_true rfl⟩ ?_
  refine w_icmp_eq 1842 dL_law_1837 (by decide) (fun _ => nx9 _ _ _ _ hR1) (fun h => absurd hE h)
