set_option maxRecDepth 100000 in
set_option maxHeartbeats 4000000 in
theorem q_place {p : Program} {l : Launch} {e : Env} {s : State} {m : MethodId} {below : List Frame} {meth : Method} {c : Code} {b L : Nat} {xs : Nat → Int32} {D : va_G} {cA ad am t : Nat → Nat} {Q : State → Prop} {j : Nat} (hC : LC p l s m c b L xs D cA ad am t) {H : Heap} {locs : List Loc} {σ μ : Nat → Nat → Int32} {f : Nat → Int64} {ls : Array Slot} (hI : LI D cA ad am s H locs σ μ f) (hj : 3 * j + 3 ≤ L) (hL : L ≤ 1536) (hl : lv_has ls 7 (lvs b ad am (nI (3 * j)))) (kk : LG p l e s m below meth c b D cA ad am j Q) : W p l e room_1 s m #[Value.ref b] below meth c H locs (16 + j) (480 + 6 * j) Q (F0 m 336 ls []) := by
  have hx := hC.1
  have hb := hC.2.1
  have hT := hC.2.2.2.2.1
  have hS := hI.2.2.2
  have i1 : vp_in (nI (3 * j) + (1 : Int32)) L := by
    rw [nI_1]
    exact vp_in_nI (by omega) (by omega)
  have i2 : vp_in (nI (3 * j) + (2 : Int32)) L := by
    show vp_in (nI (3 * j) + nI 2) L
    rw [nI_add]
    exact vp_in_nI (by omega) (by omega)
  obtain ⟨k, σ', f', z, μ', hH, hMM, hR, hk, hz9⟩ := L_place l hC.hl0 D cA ad am t hC.hap hC.hapm hI.2.2.1 f (xs ((nI (3 * j)) + (1 : Int32)).toNatClampNeg)
  refine lv_aload_n hx hb d_law_336 rfl (lv_at hl 3 rfl) ?_
  refine lv_aload_n hx hb d_law_337 rfl (lv_at hl 4 rfl) ?_
  refine lv_iload hx hb d_law_338 (lv_at hl 0 rfl) ?_
  refine lv_iconst (v := (1 : Int32)) hx hb d_law_340 (by decide) ?_
  refine lv_iadd hx hb d_law_341 ?_
  refine va_sld hx hb hC.hX hC.hbl hC.hbA hS i1 d_law_342 ?_
  refine lv_aload_n hx hb d_law_343 rfl (lv_at hl 1 rfl) ?_
  refine kciM (vx_runSW (As := [.ref (ad 0), .int (xs ((nI (3 * j)) + (1 : Int32)).toNatClampNeg), .ref (ad 7)]) (rest := []) hC.fix hH (kCSW 3 hT ml_L_70 wc_L_place wi_L wst_L_place ⟨by decide +kernel, by decide +kernel, by decide +kernel⟩ ⟨Nat.le_of_ble_eq_true rfl, Nat.le_of_ble_eq_true rfl⟩) (lpreS hC hI) rfl rfl hl.1 rfl (lv_room (Nat.le_of_ble_eq_true rfl)) d_law_344 ⟨by show 16 + j + 1 ≤ 1050; omega, by show 480 + 6 * j + 6 ≤ 8732; omega⟩) hS (fun q _ h => hC.inB q h) (fun q h => hC.inB q h) (fun H1 locs1 hP1 hz1 hq1 hS1 => ?_)
  obtain ⟨hP2, hM2⟩ := hI.sB hC hP1 hq1
  refine lv_istore (lv' := [(5, .int k), (4, .int (nI (3 * j))), (3, .ref (ad 7)), (2, .ref (am 0)), (1, .ref (ad 0)), (0, .ref b)]) hx hb d_law_347 hl (by decide) rfl (fun ls hl => ?_)
  refine lv_aload_n hx hb d_law_349 rfl (lv_at hl 3 rfl) ?_
  refine lv_aload_n hx hb d_law_350 rfl (lv_at hl 5 rfl) ?_
  refine lv_iload hx hb d_law_351 (lv_at hl 1 rfl) ?_
  refine lv_iconst (v := (1 : Int32)) hx hb d_law_353 (by decide) ?_
  refine lv_iadd hx hb d_law_354 ?_
  refine va_sld hx hb hC.hX hC.hbl hC.hbA hS1 i1 d_law_355 ?_
  refine kciJ (va_runV (As := [.int (xs ((nI (3 * j)) + (1 : Int32)).toNatClampNeg)]) (rest := []) hC.fix hMM (kCV 1 hT ml_L_72 mi_M_place ⟨Nat.le_of_ble_eq_true rfl, Nat.le_of_ble_eq_true rfl⟩) (mpreV hC.hK hM2) rfl rfl hl.1 rfl (lv_room (Nat.le_of_ble_eq_true rfl)) d_law_356 ⟨by show 16 + j + 1 + 0 ≤ 1050; omega, by show 480 + 6 * j + 6 + 0 ≤ 8732; omega⟩) hS1 (fun q _ h => hC.inM q h) (fun q h => hC.inM q h) (fun H3 locs3 hM3 hz3 hq3 hS3 => ?_)
  obtain ⟨hP4, hM4⟩ := LI.sM hC hP2 hM3 hq3
  refine lv_istore (lv' := [(6, .int z), (5, .int k), (4, .int (nI (3 * j))), (3, .ref (ad 7)), (2, .ref (am 0)), (1, .ref (ad 0)), (0, .ref b)]) hx hb d_law_359 hl (by decide) rfl (fun ls hl => ?_)
  refine lv_aload_n hx hb d_law_361 rfl (lv_at hl 4 rfl) ?_
  refine vp_callSi (va_Run.run (va_runV (As := []) (rest := []) hC.fix (c_M_thrown l D cA am hC.hapm μ') (kCV 0 hT ml_L_51 mi_M_thrown ⟨Nat.le_of_ble_eq_true rfl, Nat.le_of_ble_eq_true rfl⟩) (mpreV hC.hK hM4) rfl rfl hl.1 rfl (lv_room (Nat.le_of_ble_eq_true rfl)) d_law_362 ⟨by show 16 + j + 1 + 0 ≤ 1050; omega, by show 480 + 6 * j + 6 + 0 ≤ 8732; omega⟩)) (fun r9 e9 => ?_)
  rw [hk] at e9
  have e8 := e9.symm
  subst e8
  refine lv_iload hx hb d_law_365 (lv_at hl 1 rfl) ?_
  refine lv_icmp_eq (tgt := 372) hx hb d_law_367 (by decide) (fun _ => ?_) (fun h9 => absurd rfl h9)
  refine lv_iload hx hb d_law_372 (lv_at hl 1 rfl) ?_
  refine lv_if_ne (tgt := 389) hx hb d_law_374 (by decide) (fun _ => ?_) (fun h9 => ?_)
  · refine lv_goto (tgt := 591) hx hb d_law_389 (by decide) ?_
    refine W.widen (k := 16 + (j + 1)) (n := 480 + 6 * (j + 1)) (by omega) (by omega) ?_
    exact kk H3 locs3 σ' μ' f' ls ⟨hP4, hM4, hR, hS3⟩ (lv_sub hl [2, 3, 4, 5, 6] rfl)
  · have hk0 : k = 0 := h9
    refine lv_aload_n hx hb d_law_377 rfl (lv_at hl 3 rfl) ?_
    refine lv_iconst (v := (0 : Int32)) hx hb d_law_378 (by decide) ?_
    refine va_lald (D := D) hx hb hC.hK hP4 7 2 rfl rfl (kin (by decide)) d_law_379 ?_
    refine lv_iload hx hb d_law_380 (lv_at hl 0 rfl) ?_
    refine lv_i2l (v := z.toInt64) hx hb d_law_382 rfl ?_
    refine W.lcmp hx hb d_law_383 ?_
    rw [lcmp0 (show f' (0 : Int32).toNatClampNeg = _ from hz9 hk0)]
    refine lv_if_eq (tgt := 389) hx hb d_law_384 (by decide) (fun _ => ?_) (fun h8 => absurd rfl h8)
    refine lv_goto (tgt := 591) hx hb d_law_389 (by decide) ?_
    refine W.widen (k := 16 + (j + 1)) (n := 480 + 6 * (j + 1)) (by omega) (by omega) ?_
    exact kk H3 locs3 σ' μ' f' ls ⟨hP4, hM4, hR, hS3⟩ (lv_sub hl [2, 3, 4, 5, 6] rfl)

set_option maxRecDepth 100000 in
set_option maxHeartbeats 4000000 in
theorem q_there {p : Program} {l : Launch} {e : Env} {s : State} {m : MethodId} {below : List Frame} {meth : Method} {c : Code} {b L : Nat} {xs : Nat → Int32} {D : va_G} {cA ad am t : Nat → Nat} {Q : State → Prop} {j : Nat} (hC : LC p l s m c b L xs D cA ad am t) {H : Heap} {locs : List Loc} {σ μ : Nat → Nat → Int32} {f : Nat → Int64} {ls : Array Slot} (hI : LI D cA ad am s H locs σ μ f) (hj : 3 * j + 3 ≤ L) (hL : L ≤ 1536) (hl : lv_has ls 7 (lvs b ad am (nI (3 * j)))) (kk : LG p l e s m below meth c b D cA ad am j Q) : W p l e room_1 s m #[Value.ref b] below meth c H locs (16 + j) (480 + 6 * j) Q (F0 m 392 ls []) := by
  have hx := hC.1
  have hb := hC.2.1
  have hT := hC.2.2.2.2.1
  have hS := hI.2.2.2
  have i1 : vp_in (nI (3 * j) + (1 : Int32)) L := by
    rw [nI_1]
    exact vp_in_nI (by omega) (by omega)
  have i2 : vp_in (nI (3 * j) + (2 : Int32)) L := by
    show vp_in (nI (3 * j) + nI 2) L
    rw [nI_add]
    exact vp_in_nI (by omega) (by omega)
  obtain ⟨k, σ', f', z, μ', hH, hMM, hR, hk, hz9⟩ := L_there l hC.hl0 D cA ad am t hC.hap hC.hapm hI.2.2.1 f (xs ((nI (3 * j)) + (1 : Int32)).toNatClampNeg) (xs ((nI (3 * j)) + (2 : Int32)).toNatClampNeg)
  refine lv_aload_n hx hb d_law_392 rfl (lv_at hl 3 rfl) ?_
  refine lv_aload_n hx hb d_law_393 rfl (lv_at hl 4 rfl) ?_
  refine lv_iload hx hb d_law_394 (lv_at hl 0 rfl) ?_
  refine lv_iconst (v := (1 : Int32)) hx hb d_law_396 (by decide) ?_
  refine lv_iadd hx hb d_law_397 ?_
  refine va_sld hx hb hC.hX hC.hbl hC.hbA hS i1 d_law_398 ?_
  refine lv_aload_n hx hb d_law_399 rfl (lv_at hl 4 rfl) ?_
  refine lv_iload hx hb d_law_400 (lv_at hl 0 rfl) ?_
  refine lv_iconst (v := (2 : Int32)) hx hb d_law_402 (by decide) ?_
  refine lv_iadd hx hb d_law_403 ?_
  refine va_sld hx hb hC.hX hC.hbl hC.hbA hS i2 d_law_404 ?_
  refine lv_aload_n hx hb d_law_405 rfl (lv_at hl 1 rfl) ?_
  refine kciM (vx_runSW (As := [.ref (ad 0), .int (xs ((nI (3 * j)) + (1 : Int32)).toNatClampNeg), .int (xs ((nI (3 * j)) + (2 : Int32)).toNatClampNeg), .ref (ad 7)]) (rest := []) hC.fix hH (kCSW 4 hT ml_L_73 wc_L_there wi_L wst_L_there ⟨by decide +kernel, by decide +kernel, by decide +kernel⟩ ⟨Nat.le_of_ble_eq_true rfl, Nat.le_of_ble_eq_true rfl⟩) (lpreS hC hI) rfl rfl hl.1 rfl (lv_room (Nat.le_of_ble_eq_true rfl)) d_law_406 ⟨by show 16 + j + 1 ≤ 1050; omega, by show 480 + 6 * j + 6 ≤ 8732; omega⟩) hS (fun q _ h => hC.inB q h) (fun q h => hC.inB q h) (fun H1 locs1 hP1 hz1 hq1 hS1 => ?_)
  obtain ⟨hP2, hM2⟩ := hI.sB hC hP1 hq1
  refine lv_istore (lv' := [(5, .int k), (4, .int (nI (3 * j))), (3, .ref (ad 7)), (2, .ref (am 0)), (1, .ref (ad 0)), (0, .ref b)]) hx hb d_law_409 hl (by decide) rfl (fun ls hl => ?_)
  refine lv_aload_n hx hb d_law_411 rfl (lv_at hl 3 rfl) ?_
  refine lv_aload_n hx hb d_law_412 rfl (lv_at hl 5 rfl) ?_
  refine lv_iload hx hb d_law_413 (lv_at hl 1 rfl) ?_
  refine lv_iconst (v := (1 : Int32)) hx hb d_law_415 (by decide) ?_
  refine lv_iadd hx hb d_law_416 ?_
  refine va_sld hx hb hC.hX hC.hbl hC.hbA hS1 i1 d_law_417 ?_
  refine lv_aload_n hx hb d_law_418 rfl (lv_at hl 5 rfl) ?_
  refine lv_iload hx hb d_law_419 (lv_at hl 1 rfl) ?_
  refine lv_iconst (v := (2 : Int32)) hx hb d_law_421 (by decide) ?_
  refine lv_iadd hx hb d_law_422 ?_
  refine va_sld hx hb hC.hX hC.hbl hC.hbA hS1 i2 d_law_423 ?_
  refine kciJ (va_runV (As := [.int (xs ((nI (3 * j)) + (1 : Int32)).toNatClampNeg), .int (xs ((nI (3 * j)) + (2 : Int32)).toNatClampNeg)]) (rest := []) hC.fix hMM (kCV 2 hT ml_L_75 mi_M_there ⟨Nat.le_of_ble_eq_true rfl, Nat.le_of_ble_eq_true rfl⟩) (mpreV hC.hK hM2) rfl rfl hl.1 rfl (lv_room (Nat.le_of_ble_eq_true rfl)) d_law_424 ⟨by show 16 + j + 1 + 0 ≤ 1050; omega, by show 480 + 6 * j + 6 + 0 ≤ 8732; omega⟩) hS1 (fun q _ h => hC.inM q h) (fun q h => hC.inM q h) (fun H3 locs3 hM3 hz3 hq3 hS3 => ?_)
  obtain ⟨hP4, hM4⟩ := LI.sM hC hP2 hM3 hq3
  refine lv_istore (lv' := [(6, .int z), (5, .int k), (4, .int (nI (3 * j))), (3, .ref (ad 7)), (2, .ref (am 0)), (1, .ref (ad 0)), (0, .ref b)]) hx hb d_law_427 hl (by decide) rfl (fun ls hl => ?_)
  refine lv_aload_n hx hb d_law_429 rfl (lv_at hl 4 rfl) ?_
  refine vp_callSi (va_Run.run (va_runV (As := []) (rest := []) hC.fix (c_M_thrown l D cA am hC.hapm μ') (kCV 0 hT ml_L_51 mi_M_thrown ⟨Nat.le_of_ble_eq_true rfl, Nat.le_of_ble_eq_true rfl⟩) (mpreV hC.hK hM4) rfl rfl hl.1 rfl (lv_room (Nat.le_of_ble_eq_true rfl)) d_law_430 ⟨by show 16 + j + 1 + 0 ≤ 1050; omega, by show 480 + 6 * j + 6 + 0 ≤ 8732; omega⟩)) (fun r9 e9 => ?_)
  rw [hk] at e9
  have e8 := e9.symm
  subst e8
  refine lv_iload hx hb d_law_433 (lv_at hl 1 rfl) ?_
  refine lv_icmp_eq (tgt := 440) hx hb d_law_435 (by decide) (fun _ => ?_) (fun h9 => absurd rfl h9)
  refine lv_iload hx hb d_law_440 (lv_at hl 1 rfl) ?_
  refine lv_if_ne (tgt := 464) hx hb d_law_442 (by decide) (fun _ => ?_) (fun h9 => ?_)
  · refine lv_goto (tgt := 591) hx hb d_law_464 (by decide) ?_
    refine W.widen (k := 16 + (j + 1)) (n := 480 + 6 * (j + 1)) (by omega) (by omega) ?_
    exact kk H3 locs3 σ' μ' f' ls ⟨hP4, hM4, hR, hS3⟩ (lv_sub hl [2, 3, 4, 5, 6] rfl)
  · have hk0 : k = 0 := h9
    refine lv_aload_n hx hb d_law_445 rfl (lv_at hl 3 rfl) ?_
    refine lv_iconst (v := (0 : Int32)) hx hb d_law_446 (by decide) ?_
    refine va_lald (D := D) hx hb hC.hK hP4 7 2 rfl rfl (kin (by decide)) d_law_447 ?_
    refine lv_iload hx hb d_law_448 (lv_at hl 0 rfl) ?_
    obtain ⟨hz8, hz7⟩ := hz9 hk0
    refine lv_if_eq (tgt := 457) hx hb d_law_450 (by decide) (fun h8 => ?_) (fun h8 => ?_)
    · refine lv_lconst (v := z.toInt64) hx hb d_law_457 (by rw [h8]; decide) ?_
      refine W.lcmp hx hb d_law_458 ?_
      rw [lcmp0 (show f' (0 : Int32).toNatClampNeg = _ from hz8)]
      refine lv_if_eq (tgt := 464) hx hb d_law_459 (by decide) (fun _ => ?_) (fun h8 => absurd rfl h8)
      refine lv_goto (tgt := 591) hx hb d_law_464 (by decide) ?_
      refine W.widen (k := 16 + (j + 1)) (n := 480 + 6 * (j + 1)) (by omega) (by omega) ?_
      exact kk H3 locs3 σ' μ' f' ls ⟨hP4, hM4, hR, hS3⟩ (lv_sub hl [2, 3, 4, 5, 6] rfl)
    · refine lv_lconst (v := z.toInt64) hx hb d_law_453 (by rw [hz7.resolve_left h8]; decide) ?_
      refine lv_goto (tgt := 458) hx hb d_law_454 (by decide) ?_
      refine W.lcmp hx hb d_law_458 ?_
      rw [lcmp0 (show f' (0 : Int32).toNatClampNeg = _ from hz8)]
      refine lv_if_eq (tgt := 464) hx hb d_law_459 (by decide) (fun _ => ?_) (fun h8 => absurd rfl h8)
      refine lv_goto (tgt := 591) hx hb d_law_464 (by decide) ?_
      refine W.widen (k := 16 + (j + 1)) (n := 480 + 6 * (j + 1)) (by omega) (by omega) ?_
      exact kk H3 locs3 σ' μ' f' ls ⟨hP4, hM4, hR, hS3⟩ (lv_sub hl [2, 3, 4, 5, 6] rfl)

set_option maxRecDepth 100000 in
set_option maxHeartbeats 4000000 in
theorem q_set {p : Program} {l : Launch} {e : Env} {s : State} {m : MethodId} {below : List Frame} {meth : Method} {c : Code} {b L : Nat} {xs : Nat → Int32} {D : va_G} {cA ad am t : Nat → Nat} {Q : State → Prop} {j : Nat} (hC : LC p l s m c b L xs D cA ad am t) {H : Heap} {locs : List Loc} {σ μ : Nat → Nat → Int32} {f : Nat → Int64} {ls : Array Slot} (hI : LI D cA ad am s H locs σ μ f) (hj : 3 * j + 3 ≤ L) (hL : L ≤ 1536) (hl : lv_has ls 7 (lvs b ad am (nI (3 * j)))) (kk : LG p l e s m below meth c b D cA ad am j Q) : W p l e room_1 s m #[Value.ref b] below meth c H locs (16 + j) (480 + 6 * j) Q (F0 m 467 ls []) := by
  have hx := hC.1
  have hb := hC.2.1
  have hT := hC.2.2.2.2.1
  have hS := hI.2.2.2
  have i1 : vp_in (nI (3 * j) + (1 : Int32)) L := by
    rw [nI_1]
    exact vp_in_nI (by omega) (by omega)
  have i2 : vp_in (nI (3 * j) + (2 : Int32)) L := by
    show vp_in (nI (3 * j) + nI 2) L
    rw [nI_add]
    exact vp_in_nI (by omega) (by omega)
  obtain ⟨k, σ', f', z, μ', hH, hMM, hR, hk, hz9⟩ := L_set l hC.hl0 D cA ad am t hC.hap hC.hapm hI.2.2.1 f (xs ((nI (3 * j)) + (1 : Int32)).toNatClampNeg) (xs ((nI (3 * j)) + (2 : Int32)).toNatClampNeg)
  refine lv_aload_n hx hb d_law_467 rfl (lv_at hl 3 rfl) ?_
  refine lv_aload_n hx hb d_law_468 rfl (lv_at hl 4 rfl) ?_
  refine lv_iload hx hb d_law_469 (lv_at hl 0 rfl) ?_
  refine lv_iconst (v := (1 : Int32)) hx hb d_law_471 (by decide) ?_
  refine lv_iadd hx hb d_law_472 ?_
  refine va_sld hx hb hC.hX hC.hbl hC.hbA hS i1 d_law_473 ?_
  refine lv_aload_n hx hb d_law_474 rfl (lv_at hl 4 rfl) ?_
  refine lv_iload hx hb d_law_475 (lv_at hl 0 rfl) ?_
  refine lv_iconst (v := (2 : Int32)) hx hb d_law_477 (by decide) ?_
  refine lv_iadd hx hb d_law_478 ?_
  refine va_sld hx hb hC.hX hC.hbl hC.hbA hS i2 d_law_479 ?_
  refine lv_aload_n hx hb d_law_480 rfl (lv_at hl 1 rfl) ?_
  refine kciM (vx_runSW (As := [.ref (ad 0), .int (xs ((nI (3 * j)) + (1 : Int32)).toNatClampNeg), .int (xs ((nI (3 * j)) + (2 : Int32)).toNatClampNeg), .ref (ad 7)]) (rest := []) hC.fix hH (kCSW 4 hT ml_L_76 wc_L_set wi_L wst_L_set ⟨by decide +kernel, by decide +kernel, by decide +kernel⟩ ⟨Nat.le_of_ble_eq_true rfl, Nat.le_of_ble_eq_true rfl⟩) (lpreS hC hI) rfl rfl hl.1 rfl (lv_room (Nat.le_of_ble_eq_true rfl)) d_law_481 ⟨by show 16 + j + 1 ≤ 1050; omega, by show 480 + 6 * j + 6 ≤ 8732; omega⟩) hS (fun q _ h => hC.inB q h) (fun q h => hC.inB q h) (fun H1 locs1 hP1 hz1 hq1 hS1 => ?_)
  obtain ⟨hP2, hM2⟩ := hI.sB hC hP1 hq1
  refine lv_istore (lv' := [(5, .int k), (4, .int (nI (3 * j))), (3, .ref (ad 7)), (2, .ref (am 0)), (1, .ref (ad 0)), (0, .ref b)]) hx hb d_law_484 hl (by decide) rfl (fun ls hl => ?_)
  refine lv_aload_n hx hb d_law_486 rfl (lv_at hl 3 rfl) ?_
  refine lv_aload_n hx hb d_law_487 rfl (lv_at hl 5 rfl) ?_
  refine lv_iload hx hb d_law_488 (lv_at hl 1 rfl) ?_
  refine lv_iconst (v := (1 : Int32)) hx hb d_law_490 (by decide) ?_
  refine lv_iadd hx hb d_law_491 ?_
  refine va_sld hx hb hC.hX hC.hbl hC.hbA hS1 i1 d_law_492 ?_
  refine lv_aload_n hx hb d_law_493 rfl (lv_at hl 5 rfl) ?_
  refine lv_iload hx hb d_law_494 (lv_at hl 1 rfl) ?_
  refine lv_iconst (v := (2 : Int32)) hx hb d_law_496 (by decide) ?_
  refine lv_iadd hx hb d_law_497 ?_
  refine va_sld hx hb hC.hX hC.hbl hC.hbA hS1 i2 d_law_498 ?_
  refine kciJ (va_runV (As := [.int (xs ((nI (3 * j)) + (1 : Int32)).toNatClampNeg), .int (xs ((nI (3 * j)) + (2 : Int32)).toNatClampNeg)]) (rest := []) hC.fix hMM (kCV 2 hT ml_L_78 mi_M_set ⟨Nat.le_of_ble_eq_true rfl, Nat.le_of_ble_eq_true rfl⟩) (mpreV hC.hK hM2) rfl rfl hl.1 rfl (lv_room (Nat.le_of_ble_eq_true rfl)) d_law_499 ⟨by show 16 + j + 1 + 0 ≤ 1050; omega, by show 480 + 6 * j + 6 + 0 ≤ 8732; omega⟩) hS1 (fun q _ h => hC.inM q h) (fun q h => hC.inM q h) (fun H3 locs3 hM3 hz3 hq3 hS3 => ?_)
  obtain ⟨hP4, hM4⟩ := LI.sM hC hP2 hM3 hq3
  refine lv_istore (lv' := [(6, .int z), (5, .int k), (4, .int (nI (3 * j))), (3, .ref (ad 7)), (2, .ref (am 0)), (1, .ref (ad 0)), (0, .ref b)]) hx hb d_law_502 hl (by decide) rfl (fun ls hl => ?_)
  refine lv_aload_n hx hb d_law_504 rfl (lv_at hl 4 rfl) ?_
  refine vp_callSi (va_Run.run (va_runV (As := []) (rest := []) hC.fix (c_M_thrown l D cA am hC.hapm μ') (kCV 0 hT ml_L_51 mi_M_thrown ⟨Nat.le_of_ble_eq_true rfl, Nat.le_of_ble_eq_true rfl⟩) (mpreV hC.hK hM4) rfl rfl hl.1 rfl (lv_room (Nat.le_of_ble_eq_true rfl)) d_law_505 ⟨by show 16 + j + 1 + 0 ≤ 1050; omega, by show 480 + 6 * j + 6 + 0 ≤ 8732; omega⟩)) (fun r9 e9 => ?_)
  rw [hk] at e9
  have e8 := e9.symm
  subst e8
  refine lv_iload hx hb d_law_508 (lv_at hl 1 rfl) ?_
  refine lv_icmp_eq (tgt := 515) hx hb d_law_510 (by decide) (fun _ => ?_) (fun h9 => absurd rfl h9)
  refine lv_iload hx hb d_law_515 (lv_at hl 1 rfl) ?_
  refine lv_if_ne (tgt := 532) hx hb d_law_517 (by decide) (fun _ => ?_) (fun h9 => ?_)
  · refine lv_goto (tgt := 591) hx hb d_law_532 (by decide) ?_
    refine W.widen (k := 16 + (j + 1)) (n := 480 + 6 * (j + 1)) (by omega) (by omega) ?_
    exact kk H3 locs3 σ' μ' f' ls ⟨hP4, hM4, hR, hS3⟩ (lv_sub hl [2, 3, 4, 5, 6] rfl)
  · have hk0 : k = 0 := h9
    refine lv_aload_n hx hb d_law_520 rfl (lv_at hl 3 rfl) ?_
    refine lv_iconst (v := (0 : Int32)) hx hb d_law_521 (by decide) ?_
    refine va_lald (D := D) hx hb hC.hK hP4 7 2 rfl rfl (kin (by decide)) d_law_522 ?_
    refine lv_iload hx hb d_law_523 (lv_at hl 0 rfl) ?_
    refine lv_i2l (v := z.toInt64) hx hb d_law_525 rfl ?_
    refine W.lcmp hx hb d_law_526 ?_
    rw [lcmp0 (show f' (0 : Int32).toNatClampNeg = _ from hz9 hk0)]
    refine lv_if_eq (tgt := 532) hx hb d_law_527 (by decide) (fun _ => ?_) (fun h8 => absurd rfl h8)
    refine lv_goto (tgt := 591) hx hb d_law_532 (by decide) ?_
    refine W.widen (k := 16 + (j + 1)) (n := 480 + 6 * (j + 1)) (by omega) (by omega) ?_
    exact kk H3 locs3 σ' μ' f' ls ⟨hP4, hM4, hR, hS3⟩ (lv_sub hl [2, 3, 4, 5, 6] rfl)

set_option maxRecDepth 100000 in
set_option maxHeartbeats 4000000 in
theorem q_count {p : Program} {l : Launch} {e : Env} {s : State} {m : MethodId} {below : List Frame} {meth : Method} {c : Code} {b L : Nat} {xs : Nat → Int32} {D : va_G} {cA ad am t : Nat → Nat} {Q : State → Prop} {j : Nat} (hC : LC p l s m c b L xs D cA ad am t) {H : Heap} {locs : List Loc} {σ μ : Nat → Nat → Int32} {f : Nat → Int64} {ls : Array Slot} (hI : LI D cA ad am s H locs σ μ f) (hj : 3 * j + 3 ≤ L) (hL : L ≤ 1536) (hl : lv_has ls 7 (lvs b ad am (nI (3 * j)))) (kk : LG p l e s m below meth c b D cA ad am j Q) : W p l e room_1 s m #[Value.ref b] below meth c H locs (16 + j) (480 + 6 * j) Q (F0 m 535 ls []) := by
  have hx := hC.1
  have hb := hC.2.1
  have hT := hC.2.2.2.2.1
  have hS := hI.2.2.2
  have i1 : vp_in (nI (3 * j) + (1 : Int32)) L := by
    rw [nI_1]
    exact vp_in_nI (by omega) (by omega)
  have i2 : vp_in (nI (3 * j) + (2 : Int32)) L := by
    show vp_in (nI (3 * j) + nI 2) L
    rw [nI_add]
    exact vp_in_nI (by omega) (by omega)
  obtain ⟨k, σ', f', z, μ', hH, hMM, hR, hk, hz9⟩ := L_count l hC.hl0 D cA ad am t hC.hap hC.hapm hI.2.2.1 f (xs ((nI (3 * j)) + (1 : Int32)).toNatClampNeg)
  refine lv_aload_n hx hb d_law_535 rfl (lv_at hl 3 rfl) ?_
  refine lv_aload_n hx hb d_law_536 rfl (lv_at hl 4 rfl) ?_
  refine lv_iload hx hb d_law_537 (lv_at hl 0 rfl) ?_
  refine lv_iconst (v := (1 : Int32)) hx hb d_law_539 (by decide) ?_
  refine lv_iadd hx hb d_law_540 ?_
  refine va_sld hx hb hC.hX hC.hbl hC.hbA hS i1 d_law_541 ?_
  refine lv_aload_n hx hb d_law_542 rfl (lv_at hl 1 rfl) ?_
  refine kciM (vx_runSW (As := [.ref (ad 0), .int (xs ((nI (3 * j)) + (1 : Int32)).toNatClampNeg), .ref (ad 7)]) (rest := []) hC.fix hH (kCSW 3 hT ml_L_79 wc_L_count wi_L wst_L_count ⟨by decide +kernel, by decide +kernel, by decide +kernel⟩ ⟨Nat.le_of_ble_eq_true rfl, Nat.le_of_ble_eq_true rfl⟩) (lpreS hC hI) rfl rfl hl.1 rfl (lv_room (Nat.le_of_ble_eq_true rfl)) d_law_543 ⟨by show 16 + j + 1 ≤ 1050; omega, by show 480 + 6 * j + 6 ≤ 8732; omega⟩) hS (fun q _ h => hC.inB q h) (fun q h => hC.inB q h) (fun H1 locs1 hP1 hz1 hq1 hS1 => ?_)
  obtain ⟨hP2, hM2⟩ := hI.sB hC hP1 hq1
  refine lv_istore (lv' := [(5, .int k), (4, .int (nI (3 * j))), (3, .ref (ad 7)), (2, .ref (am 0)), (1, .ref (ad 0)), (0, .ref b)]) hx hb d_law_546 hl (by decide) rfl (fun ls hl => ?_)
  refine lv_aload_n hx hb d_law_548 rfl (lv_at hl 3 rfl) ?_
  refine lv_aload_n hx hb d_law_549 rfl (lv_at hl 5 rfl) ?_
  refine lv_iload hx hb d_law_550 (lv_at hl 1 rfl) ?_
  refine lv_iconst (v := (1 : Int32)) hx hb d_law_552 (by decide) ?_
  refine lv_iadd hx hb d_law_553 ?_
  refine va_sld hx hb hC.hX hC.hbl hC.hbA hS1 i1 d_law_554 ?_
  refine kciJ (va_runV (As := [.int (xs ((nI (3 * j)) + (1 : Int32)).toNatClampNeg)]) (rest := []) hC.fix hMM (kCV 1 hT ml_L_81 mi_M_count ⟨Nat.le_of_ble_eq_true rfl, Nat.le_of_ble_eq_true rfl⟩) (mpreV hC.hK hM2) rfl rfl hl.1 rfl (lv_room (Nat.le_of_ble_eq_true rfl)) d_law_555 ⟨by show 16 + j + 1 + 0 ≤ 1050; omega, by show 480 + 6 * j + 6 + 0 ≤ 8732; omega⟩) hS1 (fun q _ h => hC.inM q h) (fun q h => hC.inM q h) (fun H3 locs3 hM3 hz3 hq3 hS3 => ?_)
  obtain ⟨hP4, hM4⟩ := LI.sM hC hP2 hM3 hq3
  refine lv_istore (lv' := [(6, .int z), (5, .int k), (4, .int (nI (3 * j))), (3, .ref (ad 7)), (2, .ref (am 0)), (1, .ref (ad 0)), (0, .ref b)]) hx hb d_law_558 hl (by decide) rfl (fun ls hl => ?_)
  refine lv_aload_n hx hb d_law_560 rfl (lv_at hl 4 rfl) ?_
  refine vp_callSi (va_Run.run (va_runV (As := []) (rest := []) hC.fix (c_M_thrown l D cA am hC.hapm μ') (kCV 0 hT ml_L_51 mi_M_thrown ⟨Nat.le_of_ble_eq_true rfl, Nat.le_of_ble_eq_true rfl⟩) (mpreV hC.hK hM4) rfl rfl hl.1 rfl (lv_room (Nat.le_of_ble_eq_true rfl)) d_law_561 ⟨by show 16 + j + 1 + 0 ≤ 1050; omega, by show 480 + 6 * j + 6 + 0 ≤ 8732; omega⟩)) (fun r9 e9 => ?_)
  rw [hk] at e9
  have e8 := e9.symm
  subst e8
  refine lv_iload hx hb d_law_564 (lv_at hl 1 rfl) ?_
  refine lv_icmp_eq (tgt := 571) hx hb d_law_566 (by decide) (fun _ => ?_) (fun h9 => absurd rfl h9)
  refine lv_iload hx hb d_law_571 (lv_at hl 1 rfl) ?_
  refine lv_if_ne (tgt := 588) hx hb d_law_573 (by decide) (fun _ => ?_) (fun h9 => ?_)
  · refine lv_goto (tgt := 591) hx hb d_law_588 (by decide) ?_
    refine W.widen (k := 16 + (j + 1)) (n := 480 + 6 * (j + 1)) (by omega) (by omega) ?_
    exact kk H3 locs3 σ' μ' f' ls ⟨hP4, hM4, hR, hS3⟩ (lv_sub hl [2, 3, 4, 5, 6] rfl)
  · have hk0 : k = 0 := h9
    refine lv_aload_n hx hb d_law_576 rfl (lv_at hl 3 rfl) ?_
    refine lv_iconst (v := (0 : Int32)) hx hb d_law_577 (by decide) ?_
    refine va_lald (D := D) hx hb hC.hK hP4 7 2 rfl rfl (kin (by decide)) d_law_578 ?_
    refine lv_iload hx hb d_law_579 (lv_at hl 0 rfl) ?_
    refine lv_i2l (v := z.toInt64) hx hb d_law_581 rfl ?_
    refine W.lcmp hx hb d_law_582 ?_
    rw [lcmp0 (show f' (0 : Int32).toNatClampNeg = _ from hz9 hk0)]
    refine lv_if_eq (tgt := 588) hx hb d_law_583 (by decide) (fun _ => ?_) (fun h8 => absurd rfl h8)
    refine lv_goto (tgt := 591) hx hb d_law_588 (by decide) ?_
    refine W.widen (k := 16 + (j + 1)) (n := 480 + 6 * (j + 1)) (by omega) (by omega) ?_
    exact kk H3 locs3 σ' μ' f' ls ⟨hP4, hM4, hR, hS3⟩ (lv_sub hl [2, 3, 4, 5, 6] rfl)

set_option maxRecDepth 100000 in
set_option maxHeartbeats 4000000 in
theorem q_sync {p : Program} {l : Launch} {e : Env} {s : State} {m : MethodId} {below : List Frame} {meth : Method} {c : Code} {b L : Nat} {xs : Nat → Int32} {D : va_G} {cA ad am t : Nat → Nat} {Q : State → Prop} {j : Nat} (hC : LC p l s m c b L xs D cA ad am t) {H : Heap} {locs : List Loc} {σ μ : Nat → Nat → Int32} {f : Nat → Int64} {ls : Array Slot} (hI : LI D cA ad am s H locs σ μ f) (hj : 3 * j + 3 ≤ L) (hL : L ≤ 1536) (hl : lv_has ls 7 (lvs b ad am (nI (3 * j)))) (kk : LG p l e s m below meth c b D cA ad am j Q) : W p l e room_1 s m #[Value.ref b] below meth c H locs (16 + j) (480 + 6 * j) Q (F0 m 192 ls []) := by
  have hx := hC.1
  have hb := hC.2.1
  have hT := hC.2.2.2.2.1
  have hS := hI.2.2.2
  obtain ⟨N, hN, e1, e2, hR, e3⟩ := s_sync hI.2.2.1
  refine lv_aload_n hx hb d_law_192 rfl (lv_at hl 3 rfl) ?_
  refine kciJ (va_runV (As := []) (rest := []) hC.fix (c_B_sync l D cA ad t (kap7 hC.hap) σ N hN hI.2.2.1.bclk e1) (kCV 0 hT ml_L_59 mi_B_sync ⟨Nat.le_of_ble_eq_true rfl, Nat.le_of_ble_eq_true rfl⟩) (lpreB hC hI) rfl rfl hl.1 rfl (lv_room (Nat.le_of_ble_eq_true rfl)) d_law_193 ⟨by show 16 + j + 0 ≤ 1050; omega, by show 480 + 6 * j + 0 ≤ 8732; omega⟩) hS (fun q _ h => hC.inB q (kA78 h)) (fun q h => hC.inB q (kA78 h)) (fun H1 locs1 hP1 hz1 hq1 hS1 => ?_)
  obtain ⟨hP2, hM2⟩ := hI.sB hC (bo_join hC.hap hI.1 hP1 hq1) (fun q h1 h2 => hq1 q h1 (fun z => h2 (kA78 z)))
  refine lv_aload_n hx hb d_law_196 rfl (lv_at hl 2 rfl) ?_
  refine kciJ (va_runV (As := []) (rest := [.int (f_B_sync σ N).1]) hC.fix (c_M_sync l D cA am hC.hapm μ N hN hI.2.2.1.mclk e2) (kCV 0 hT ml_L_62 mi_M_sync ⟨Nat.le_of_ble_eq_true rfl, Nat.le_of_ble_eq_true rfl⟩) (mpreV hC.hK hM2) rfl rfl hl.1 rfl (lv_room (Nat.le_of_ble_eq_true rfl)) d_law_197 ⟨by show 16 + j + 0 ≤ 1050; omega, by show 480 + 6 * j + 0 ≤ 8732; omega⟩) hS1 (fun q _ h => hC.inM q h) (fun q h => hC.inM q h) (fun H3 locs3 hM3 hz3 hq3 hS3 => ?_)
  obtain ⟨hP4, hM4⟩ := LI.sM hC hP2 hM3 hq3
  refine lv_icmp_eq (tgt := 591) hx hb d_law_200 (by decide) (fun _ => ?_) (fun h9 => absurd e3 h9)
  refine W.widen (k := 16 + (j + 1)) (n := 480 + 6 * (j + 1)) (by omega) (by omega) ?_
  exact kk H3 locs3 _ _ f ls ⟨hP4, hM4, hR, hS3⟩ hl
