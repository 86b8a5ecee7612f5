set_option maxHeartbeats 4000000 in
set_option maxRecDepth 100000 in
theorem law_case_16 {p : Program} {l : Launch} {e : Env} {s : State} {m : MethodId} {below : List Frame} {meth : Method} {c : Code} {Q : State → Prop} (hl0 : l.stackTraces = false) {G : GP} {b L : Nat} {xs : Nat → Int32} (C : g_C p s m #[.ref b] c code 9 RL G) (hX : va_X b L xs s s.heap) (hbl : b < s.heap.size) (hbA : ¬ g_A G b) (hL : L ≤ 3072) {i : Nat} (hi : i + 6 ≤ L) {σ : Sto} {x : XP} {H : Heap} {locs : List Loc} {ls : Array Slot} {cells slots : Nat} (hM : g_M G x σ s H locs) (hl : lv_has ls 9 [(0, .ref b), (1, .ref (g_ad G 60)), (2, .ref (g_ad G 87)), (3, .ref (g_ad G 106)), (4, .ref (g_ad G 107)), (5, .int (nI i))]) (hroom : cells + 8 ≤ room_1.cells ∧ slots + 48 ≤ room_1.slots) (h : DL_16 xs i σ x (fun σ x => ∀ (H : Heap) (locs : List Loc) (ls : Array Slot), g_M G x σ s H locs → lv_has ls 9 [(0, .ref b), (1, .ref (g_ad G 60)), (2, .ref (g_ad G 87)), (3, .ref (g_ad G 106)), (4, .ref (g_ad G 107)), (5, .int (nI i))] → W p l e room_1 s m #[.ref b] below meth c H locs (cells + 8) (slots + 48) Q (F0 m 3015 ls []))) : W p l e room_1 s m #[.ref b] below meth c H locs cells slots Q (F0 m 1334 ls []) := by
  unfold DL_16 at h
  have hx := C.1
  have hb := C.2.1
  refine lv_aload_n (pc := 1334) hx hb dL_law_1334 rfl (lv_at hl 1 rfl) ?_
  refine lv_aload_n (pc := 1335) hx hb dL_law_1335 rfl (lv_at hl 0 rfl) ?_
  refine lv_iload (pc := 1336) hx hb dL_law_1336 (lv_at hl 5 rfl) ?_
  refine lv_iconst (pc := 1338) (v := 1) hx hb dL_law_1338 (by decide) ?_
  refine lv_iadd (pc := 1339) hx hb dL_law_1339 ?_
  refine g_scr (pc := 1340) (k := i + 1) C hX hbl hbA hM (sc_in1 hi hL) (sc_ix1 hi hL) dL_law_1340 ?_
  refine lv_aload_n (pc := 1341) hx hb dL_law_1341 rfl (lv_at hl 0 rfl) ?_
  refine lv_iload (pc := 1342) hx hb dL_law_1342 (lv_at hl 5 rfl) ?_
  refine lv_iconst (pc := 1344) (v := 2) hx hb dL_law_1344 (by decide) ?_
  refine lv_iadd (pc := 1345) hx hb dL_law_1345 ?_
  refine g_scr (pc := 1346) (k := i + 2) C hX hbl hbA hM (sc_in2 hi hL) (sc_ix2 hi hL) dL_law_1346 ?_
  refine lv_aload_n (pc := 1347) hx hb dL_law_1347 rfl (lv_at hl 0 rfl) ?_
  refine lv_iload (pc := 1348) hx hb dL_law_1348 (lv_at hl 5 rfl) ?_
  refine lv_iconst (pc := 1350) (v := 3) hx hb dL_law_1350 (by decide) ?_
  refine lv_iadd (pc := 1351) hx hb dL_law_1351 ?_
  refine g_scr (pc := 1352) (k := i + 3) C hX hbl hbA hM (sc_in3 hi hL) (sc_ix3 hi hL) dL_law_1352 ?_
  refine lv_aload_n (pc := 1353) hx hb dL_law_1353 rfl (lv_at hl 3 rfl) ?_
  refine g_cSw (pc := 1354) C hM hl.1 yw_L_chain q3_219 (w_L_chain l hl0 G (xs (i + 1)) (xs (i + 2)) (xs (i + 3)) σ x _ h) rfl rfl ⟨⟨Nat.le_of_ble_eq_true rfl, Nat.le_of_ble_eq_true rfl⟩, Nat.le_trans (Nat.add_le_add_left (by decide) _) hroom.1, Nat.le_trans (Nat.add_le_add_left (by decide) _) hroom.2⟩ (Nat.le_of_ble_eq_true rfl) dL_law_1354 (fun r1354 u1354 H locs h hM => ?_)
  refine W.widen (k := cells + 8) (n := slots + 48) (Nat.add_le_add_left (by decide) _) (Nat.add_le_add_left (by decide) _) ?_
  refine lv_istore (pc := 1357) (lv' := [(6, .int r1354), (0, .ref b), (1, .ref (g_ad G 60)), (2, .ref (g_ad G 87)), (3, .ref (g_ad G 106)), (4, .ref (g_ad G 107)), (5, .int (nI i))]) hx hb dL_law_1357 hl (by decide) rfl (fun ls hl => ?_)
  refine lv_aload_n (pc := 1359) hx hb dL_law_1359 rfl (lv_at hl 3 rfl) ?_
  refine lv_aload_n (pc := 1360) hx hb dL_law_1360 rfl (lv_at hl 1 rfl) ?_
  refine lv_iload (pc := 1361) hx hb dL_law_1361 (lv_at hl 6 rfl) ?_
  refine lv_iconst (pc := 1363) (v := 1) hx hb dL_law_1363 (by decide) ?_
  refine lv_iadd (pc := 1364) hx hb dL_law_1364 ?_
  refine g_scr (pc := 1365) (k := i + 1) C hX hbl hbA hM (sc_in1 hi hL) (sc_ix1 hi hL) dL_law_1365 ?_
  refine lv_aload_n (pc := 1366) hx hb dL_law_1366 rfl (lv_at hl 1 rfl) ?_
  refine lv_iload (pc := 1367) hx hb dL_law_1367 (lv_at hl 6 rfl) ?_
  refine lv_iconst (pc := 1369) (v := 2) hx hb dL_law_1369 (by decide) ?_
  refine lv_iadd (pc := 1370) hx hb dL_law_1370 ?_
  refine g_scr (pc := 1371) (k := i + 2) C hX hbl hbA hM (sc_in2 hi hL) (sc_ix2 hi hL) dL_law_1371 ?_
  refine lv_aload_n (pc := 1372) hx hb dL_law_1372 rfl (lv_at hl 1 rfl) ?_
  refine lv_iload (pc := 1373) hx hb dL_law_1373 (lv_at hl 6 rfl) ?_
  refine lv_iconst (pc := 1375) (v := 3) hx hb dL_law_1375 (by decide) ?_
  refine lv_iadd (pc := 1376) hx hb dL_law_1376 ?_
  refine g_scr (pc := 1377) (k := i + 3) C hX hbl hbA hM (sc_in3 hi hL) (sc_ix3 hi hL) dL_law_1377 ?_
  refine g_cVi (pc := 1378) C hM hl.1 yv_X12_chain q7_8 (by decide) ce_87 rfl (w_X12_chain l G u1354.2 (xs (i + 1)) (xs (i + 2)) (xs (i + 3)) u1354.1 _ h) rfl rfl ⟨⟨Nat.le_of_ble_eq_true rfl, Nat.le_of_ble_eq_true rfl⟩, hroom.1, hroom.2⟩ (Nat.le_of_ble_eq_true rfl) dL_law_1378 (fun r1378 s1378 H locs h hM => ?_)
  refine lv_istore (pc := 1381) (lv' := [(7, .int r1378), (6, .int r1354), (0, .ref b), (1, .ref (g_ad G 60)), (2, .ref (g_ad G 87)), (3, .ref (g_ad G 106)), (4, .ref (g_ad G 107)), (5, .int (nI i))]) hx hb dL_law_1381 hl (by decide) rfl (fun ls hl => ?_)
  refine lv_aload_n (pc := 1383) hx hb dL_law_1383 rfl (lv_at hl 4 rfl) ?_
  refine g_cVi (pc := 1384) C hM hl.1 yv_X12_thrown q6_81 (by decide) ce_87 rfl (w_X12_thrown l G u1354.2 s1378 _ h) rfl rfl ⟨⟨Nat.le_of_ble_eq_true rfl, Nat.le_of_ble_eq_true rfl⟩, hroom.1, hroom.2⟩ (Nat.le_of_ble_eq_true rfl) dL_law_1384 (fun r1384 s1384 H locs h hM => ?_)
  refine lv_iload (pc := 1387) hx hb dL_law_1387 (lv_at hl 1 rfl) ?_
  refine lv_icmp_eq (pc := 1389) (tgt := 1394) hx hb dL_law_1389 (by decide) (fun c1389 => ?_) (fun c1389 => ?_)
  · have h := h.1 c1389
    refine lv_iload (pc := 1394) hx hb dL_law_1394 (lv_at hl 1 rfl) ?_
    refine lv_if_ne (pc := 1396) (tgt := 1411) hx hb dL_law_1396 (by decide) (fun c1396 => ?_) (fun c1396 => ?_)
    · have h := h.2 c1396
      refine lv_goto (pc := 1411) (tgt := 3015) hx hb dL_law_1411 (by decide) ?_
      exact h _ _ _ hM (lv_sub hl [2, 3, 4, 5, 6, 7] rfl)
    · have h := h.1 c1396
      refine lv_aload_n (pc := 1399) hx hb dL_law_1399 rfl (lv_at hl 5 rfl) ?_
      refine lv_iconst (pc := 1400) (v := 0) hx hb dL_law_1400 (by decide) ?_
      refine g_lald (pc := 1401) C hM dL_law_1401 ?_
      refine lv_iload (pc := 1402) hx hb dL_law_1402 (lv_at hl 0 rfl) ?_
      refine lv_i2l (pc := 1404) (v := (r1378).toInt64) hx hb dL_law_1404 rfl ?_
      refine W.lcmp (pc := 1405) hx hb dL_law_1405 ?_
      refine lv_if_eq (pc := 1406) (tgt := 1411) hx hb dL_law_1406 (by decide) (fun c1406 => ?_) (fun c1406 => ?_)
      · have h := h.1 c1406
        refine lv_goto (pc := 1411) (tgt := 3015) hx hb dL_law_1411 (by decide) ?_
        exact h _ _ _ hM (lv_sub hl [2, 3, 4, 5, 6, 7] rfl)
      · have h := h.2 c1406
        refine lv_iconst (pc := 1409) (v := 0) hx hb dL_law_1409 (by decide) ?_
        exact h.elim
  · have h := h.2 c1389
    refine lv_iconst (pc := 1392) (v := 0) hx hb dL_law_1392 (by decide) ?_
    exact h.elim
set_option maxHeartbeats 4000000 in
set_option maxRecDepth 100000 in
theorem law_case_17 {p : Program} {l : Launch} {e : Env} {s : State} {m : MethodId} {below : List Frame} {meth : Method} {c : Code} {Q : State → Prop} (hl0 : l.stackTraces = false) {G : GP} {b L : Nat} {xs : Nat → Int32} (C : g_C p s m #[.ref b] c code 9 RL G) (hX : va_X b L xs s s.heap) (hbl : b < s.heap.size) (hbA : ¬ g_A G b) (hL : L ≤ 3072) {i : Nat} (hi : i + 6 ≤ L) {σ : Sto} {x : XP} {H : Heap} {locs : List Loc} {ls : Array Slot} {cells slots : Nat} (hM : g_M G x σ s H locs) (hl : lv_has ls 9 [(0, .ref b), (1, .ref (g_ad G 60)), (2, .ref (g_ad G 87)), (3, .ref (g_ad G 106)), (4, .ref (g_ad G 107)), (5, .int (nI i))]) (hroom : cells + 8 ≤ room_1.cells ∧ slots + 48 ≤ room_1.slots) (h : DL_17 xs i σ x (fun σ x => ∀ (H : Heap) (locs : List Loc) (ls : Array Slot), g_M G x σ s H locs → lv_has ls 9 [(0, .ref b), (1, .ref (g_ad G 60)), (2, .ref (g_ad G 87)), (3, .ref (g_ad G 106)), (4, .ref (g_ad G 107)), (5, .int (nI i))] → W p l e room_1 s m #[.ref b] below meth c H locs (cells + 8) (slots + 48) Q (F0 m 3015 ls []))) : W p l e room_1 s m #[.ref b] below meth c H locs cells slots Q (F0 m 1414 ls []) := by
  unfold DL_17 at h
  have hx := C.1
  have hb := C.2.1
  refine lv_aload_n (pc := 1414) hx hb dL_law_1414 rfl (lv_at hl 1 rfl) ?_
  refine lv_aload_n (pc := 1415) hx hb dL_law_1415 rfl (lv_at hl 0 rfl) ?_
  refine lv_iload (pc := 1416) hx hb dL_law_1416 (lv_at hl 5 rfl) ?_
  refine lv_iconst (pc := 1418) (v := 1) hx hb dL_law_1418 (by decide) ?_
  refine lv_iadd (pc := 1419) hx hb dL_law_1419 ?_
  refine g_scr (pc := 1420) (k := i + 1) C hX hbl hbA hM (sc_in1 hi hL) (sc_ix1 hi hL) dL_law_1420 ?_
  refine lv_aload_n (pc := 1421) hx hb dL_law_1421 rfl (lv_at hl 0 rfl) ?_
  refine lv_iload (pc := 1422) hx hb dL_law_1422 (lv_at hl 5 rfl) ?_
  refine lv_iconst (pc := 1424) (v := 2) hx hb dL_law_1424 (by decide) ?_
  refine lv_iadd (pc := 1425) hx hb dL_law_1425 ?_
  refine g_scr (pc := 1426) (k := i + 2) C hX hbl hbA hM (sc_in2 hi hL) (sc_ix2 hi hL) dL_law_1426 ?_
  refine lv_aload_n (pc := 1427) hx hb dL_law_1427 rfl (lv_at hl 3 rfl) ?_
  refine g_cSw (pc := 1428) C hM hl.1 yw_L_lastsUntil q3_237 (w_L_lastsUntil l hl0 G (xs (i + 1)) (xs (i + 2)) σ x _ h) rfl rfl ⟨⟨Nat.le_of_ble_eq_true rfl, Nat.le_of_ble_eq_true rfl⟩, Nat.le_trans (Nat.add_le_add_left (by decide) _) hroom.1, Nat.le_trans (Nat.add_le_add_left (by decide) _) hroom.2⟩ (Nat.le_of_ble_eq_true rfl) dL_law_1428 (fun r1428 u1428 H locs h hM => ?_)
  refine W.widen (k := cells + 8) (n := slots + 48) (Nat.add_le_add_left (by decide) _) (Nat.add_le_add_left (by decide) _) ?_
  refine lv_istore (pc := 1431) (lv' := [(6, .int r1428), (0, .ref b), (1, .ref (g_ad G 60)), (2, .ref (g_ad G 87)), (3, .ref (g_ad G 106)), (4, .ref (g_ad G 107)), (5, .int (nI i))]) hx hb dL_law_1431 hl (by decide) rfl (fun ls hl => ?_)
  refine lv_aload_n (pc := 1433) hx hb dL_law_1433 rfl (lv_at hl 3 rfl) ?_
  refine lv_aload_n (pc := 1434) hx hb dL_law_1434 rfl (lv_at hl 1 rfl) ?_
  refine lv_iload (pc := 1435) hx hb dL_law_1435 (lv_at hl 6 rfl) ?_
  refine lv_iconst (pc := 1437) (v := 1) hx hb dL_law_1437 (by decide) ?_
  refine lv_iadd (pc := 1438) hx hb dL_law_1438 ?_
  refine g_scr (pc := 1439) (k := i + 1) C hX hbl hbA hM (sc_in1 hi hL) (sc_ix1 hi hL) dL_law_1439 ?_
  refine lv_aload_n (pc := 1440) hx hb dL_law_1440 rfl (lv_at hl 1 rfl) ?_
  refine lv_iload (pc := 1441) hx hb dL_law_1441 (lv_at hl 6 rfl) ?_
  refine lv_iconst (pc := 1443) (v := 2) hx hb dL_law_1443 (by decide) ?_
  refine lv_iadd (pc := 1444) hx hb dL_law_1444 ?_
  refine g_scr (pc := 1445) (k := i + 2) C hX hbl hbA hM (sc_in2 hi hL) (sc_ix2 hi hL) dL_law_1445 ?_
  refine g_cVi (pc := 1446) C hM hl.1 yv_X12_lastsUntil q7_16 (by decide) ce_87 rfl (w_X12_lastsUntil l G u1428.2 (xs (i + 1)) (xs (i + 2)) u1428.1 _ h) rfl rfl ⟨⟨Nat.le_of_ble_eq_true rfl, Nat.le_of_ble_eq_true rfl⟩, hroom.1, hroom.2⟩ (Nat.le_of_ble_eq_true rfl) dL_law_1446 (fun r1446 s1446 H locs h hM => ?_)
  refine lv_istore (pc := 1449) (lv' := [(7, .int r1446), (6, .int r1428), (0, .ref b), (1, .ref (g_ad G 60)), (2, .ref (g_ad G 87)), (3, .ref (g_ad G 106)), (4, .ref (g_ad G 107)), (5, .int (nI i))]) hx hb dL_law_1449 hl (by decide) rfl (fun ls hl => ?_)
  refine lv_aload_n (pc := 1451) hx hb dL_law_1451 rfl (lv_at hl 4 rfl) ?_
  refine g_cVi (pc := 1452) C hM hl.1 yv_X12_thrown q6_81 (by decide) ce_87 rfl (w_X12_thrown l G u1428.2 s1446 _ h) rfl rfl ⟨⟨Nat.le_of_ble_eq_true rfl, Nat.le_of_ble_eq_true rfl⟩, hroom.1, hroom.2⟩ (Nat.le_of_ble_eq_true rfl) dL_law_1452 (fun r1452 s1452 H locs h hM => ?_)
  refine lv_iload (pc := 1455) hx hb dL_law_1455 (lv_at hl 1 rfl) ?_
  refine lv_icmp_eq (pc := 1457) (tgt := 1462) hx hb dL_law_1457 (by decide) (fun c1457 => ?_) (fun c1457 => ?_)
  · have h := h.1 c1457
    refine lv_iload (pc := 1462) hx hb dL_law_1462 (lv_at hl 1 rfl) ?_
    refine lv_if_ne (pc := 1464) (tgt := 1479) hx hb dL_law_1464 (by decide) (fun c1464 => ?_) (fun c1464 => ?_)
    · have h := h.2 c1464
      refine lv_goto (pc := 1479) (tgt := 3015) hx hb dL_law_1479 (by decide) ?_
      exact h _ _ _ hM (lv_sub hl [2, 3, 4, 5, 6, 7] rfl)
    · have h := h.1 c1464
      refine lv_aload_n (pc := 1467) hx hb dL_law_1467 rfl (lv_at hl 5 rfl) ?_
      refine lv_iconst (pc := 1468) (v := 0) hx hb dL_law_1468 (by decide) ?_
      refine g_lald (pc := 1469) C hM dL_law_1469 ?_
      refine lv_iload (pc := 1470) hx hb dL_law_1470 (lv_at hl 0 rfl) ?_
      refine lv_i2l (pc := 1472) (v := (r1446).toInt64) hx hb dL_law_1472 rfl ?_
      refine W.lcmp (pc := 1473) hx hb dL_law_1473 ?_
      refine lv_if_eq (pc := 1474) (tgt := 1479) hx hb dL_law_1474 (by decide) (fun c1474 => ?_) (fun c1474 => ?_)
      · have h := h.1 c1474
        refine lv_goto (pc := 1479) (tgt := 3015) hx hb dL_law_1479 (by decide) ?_
        exact h _ _ _ hM (lv_sub hl [2, 3, 4, 5, 6, 7] rfl)
      · have h := h.2 c1474
        refine lv_iconst (pc := 1477) (v := 0) hx hb dL_law_1477 (by decide) ?_
        exact h.elim
  · have h := h.2 c1457
    refine lv_iconst (pc := 1460) (v := 0) hx hb dL_law_1460 (by decide) ?_
    exact h.elim
set_option maxHeartbeats 4000000 in
set_option maxRecDepth 100000 in
theorem law_case_18 {p : Program} {l : Launch} {e : Env} {s : State} {m : MethodId} {below : List Frame} {meth : Method} {c : Code} {Q : State → Prop} (hl0 : l.stackTraces = false) {G : GP} {b L : Nat} {xs : Nat → Int32} (C : g_C p s m #[.ref b] c code 9 RL G) (hX : va_X b L xs s s.heap) (hbl : b < s.heap.size) (hbA : ¬ g_A G b) (hL : L ≤ 3072) {i : Nat} (hi : i + 6 ≤ L) {σ : Sto} {x : XP} {H : Heap} {locs : List Loc} {ls : Array Slot} {cells slots : Nat} (hM : g_M G x σ s H locs) (hl : lv_has ls 9 [(0, .ref b), (1, .ref (g_ad G 60)), (2, .ref (g_ad G 87)), (3, .ref (g_ad G 106)), (4, .ref (g_ad G 107)), (5, .int (nI i))]) (hroom : cells + 8 ≤ room_1.cells ∧ slots + 48 ≤ room_1.slots) (h : DL_18 xs i σ x (fun σ x => ∀ (H : Heap) (locs : List Loc) (ls : Array Slot), g_M G x σ s H locs → lv_has ls 9 [(0, .ref b), (1, .ref (g_ad G 60)), (2, .ref (g_ad G 87)), (3, .ref (g_ad G 106)), (4, .ref (g_ad G 107)), (5, .int (nI i))] → W p l e room_1 s m #[.ref b] below meth c H locs (cells + 8) (slots + 48) Q (F0 m 3015 ls []))) : W p l e room_1 s m #[.ref b] below meth c H locs cells slots Q (F0 m 1482 ls []) := by
  unfold DL_18 at h
  have hx := C.1
  have hb := C.2.1
  refine lv_aload_n (pc := 1482) hx hb dL_law_1482 rfl (lv_at hl 1 rfl) ?_
  refine lv_aload_n (pc := 1483) hx hb dL_law_1483 rfl (lv_at hl 0 rfl) ?_
  refine lv_iload (pc := 1484) hx hb dL_law_1484 (lv_at hl 5 rfl) ?_
  refine lv_iconst (pc := 1486) (v := 1) hx hb dL_law_1486 (by decide) ?_
  refine lv_iadd (pc := 1487) hx hb dL_law_1487 ?_
  refine g_scr (pc := 1488) (k := i + 1) C hX hbl hbA hM (sc_in1 hi hL) (sc_ix1 hi hL) dL_law_1488 ?_
  refine lv_aload_n (pc := 1489) hx hb dL_law_1489 rfl (lv_at hl 3 rfl) ?_
  refine g_cSw (pc := 1490) C hM hl.1 yw_L_tick q4_8 (w_L_tick l hl0 G (xs (i + 1)) σ x _ h) rfl rfl ⟨⟨Nat.le_of_ble_eq_true rfl, Nat.le_of_ble_eq_true rfl⟩, Nat.le_trans (Nat.add_le_add_left (by decide) _) hroom.1, Nat.le_trans (Nat.add_le_add_left (by decide) _) hroom.2⟩ (Nat.le_of_ble_eq_true rfl) dL_law_1490 (fun r1490 u1490 H locs h hM => ?_)
  refine W.widen (k := cells + 8) (n := slots + 48) (Nat.add_le_add_left (by decide) _) (Nat.add_le_add_left (by decide) _) ?_
  refine lv_istore (pc := 1493) (lv' := [(6, .int r1490), (0, .ref b), (1, .ref (g_ad G 60)), (2, .ref (g_ad G 87)), (3, .ref (g_ad G 106)), (4, .ref (g_ad G 107)), (5, .int (nI i))]) hx hb dL_law_1493 hl (by decide) rfl (fun ls hl => ?_)
  refine lv_aload_n (pc := 1495) hx hb dL_law_1495 rfl (lv_at hl 3 rfl) ?_
  refine lv_aload_n (pc := 1496) hx hb dL_law_1496 rfl (lv_at hl 1 rfl) ?_
  refine lv_iload (pc := 1497) hx hb dL_law_1497 (lv_at hl 6 rfl) ?_
  refine lv_iconst (pc := 1499) (v := 1) hx hb dL_law_1499 (by decide) ?_
  refine lv_iadd (pc := 1500) hx hb dL_law_1500 ?_
  refine g_scr (pc := 1501) (k := i + 1) C hX hbl hbA hM (sc_in1 hi hL) (sc_ix1 hi hL) dL_law_1501 ?_
  refine g_cVi (pc := 1502) C hM hl.1 yv_X12_tick q7_20 (by decide) ce_87 rfl (w_X12_tick l G u1490.2 (xs (i + 1)) u1490.1 _ h) rfl rfl ⟨⟨Nat.le_of_ble_eq_true rfl, Nat.le_of_ble_eq_true rfl⟩, hroom.1, hroom.2⟩ (Nat.le_of_ble_eq_true rfl) dL_law_1502 (fun r1502 s1502 H locs h hM => ?_)
  refine lv_istore (pc := 1505) (lv' := [(7, .int r1502), (6, .int r1490), (0, .ref b), (1, .ref (g_ad G 60)), (2, .ref (g_ad G 87)), (3, .ref (g_ad G 106)), (4, .ref (g_ad G 107)), (5, .int (nI i))]) hx hb dL_law_1505 hl (by decide) rfl (fun ls hl => ?_)
  refine lv_aload_n (pc := 1507) hx hb dL_law_1507 rfl (lv_at hl 4 rfl) ?_
  refine g_cVi (pc := 1508) C hM hl.1 yv_X12_thrown q6_81 (by decide) ce_87 rfl (w_X12_thrown l G u1490.2 s1502 _ h) rfl rfl ⟨⟨Nat.le_of_ble_eq_true rfl, Nat.le_of_ble_eq_true rfl⟩, hroom.1, hroom.2⟩ (Nat.le_of_ble_eq_true rfl) dL_law_1508 (fun r1508 s1508 H locs h hM => ?_)
  refine lv_iload (pc := 1511) hx hb dL_law_1511 (lv_at hl 1 rfl) ?_
  refine lv_icmp_eq (pc := 1513) (tgt := 1518) hx hb dL_law_1513 (by decide) (fun c1513 => ?_) (fun c1513 => ?_)
  · have h := h.1 c1513
    refine lv_iload (pc := 1518) hx hb dL_law_1518 (lv_at hl 1 rfl) ?_
    refine lv_if_ne (pc := 1520) (tgt := 1535) hx hb dL_law_1520 (by decide) (fun c1520 => ?_) (fun c1520 => ?_)
    · have h := h.2 c1520
      refine lv_goto (pc := 1535) (tgt := 3015) hx hb dL_law_1535 (by decide) ?_
      exact h _ _ _ hM (lv_sub hl [2, 3, 4, 5, 6, 7] rfl)
    · have h := h.1 c1520
      refine lv_aload_n (pc := 1523) hx hb dL_law_1523 rfl (lv_at hl 5 rfl) ?_
      refine lv_iconst (pc := 1524) (v := 0) hx hb dL_law_1524 (by decide) ?_
      refine g_lald (pc := 1525) C hM dL_law_1525 ?_
      refine lv_iload (pc := 1526) hx hb dL_law_1526 (lv_at hl 0 rfl) ?_
      refine lv_i2l (pc := 1528) (v := (r1502).toInt64) hx hb dL_law_1528 rfl ?_
      refine W.lcmp (pc := 1529) hx hb dL_law_1529 ?_
      refine lv_if_eq (pc := 1530) (tgt := 1535) hx hb dL_law_1530 (by decide) (fun c1530 => ?_) (fun c1530 => ?_)
      · have h := h.1 c1530
        refine lv_goto (pc := 1535) (tgt := 3015) hx hb dL_law_1535 (by decide) ?_
        exact h _ _ _ hM (lv_sub hl [2, 3, 4, 5, 6, 7] rfl)
      · have h := h.2 c1530
        refine lv_iconst (pc := 1533) (v := 0) hx hb dL_law_1533 (by decide) ?_
        exact h.elim
  · have h := h.2 c1513
    refine lv_iconst (pc := 1516) (v := 0) hx hb dL_law_1516 (by decide) ?_
    exact h.elim
set_option maxHeartbeats 4000000 in
set_option maxRecDepth 100000 in
theorem law_case_19 {p : Program} {l : Launch} {e : Env} {s : State} {m : MethodId} {below : List Frame} {meth : Method} {c : Code} {Q : State → Prop} (hl0 : l.stackTraces = false) {G : GP} {b L : Nat} {xs : Nat → Int32} (C : g_C p s m #[.ref b] c code 9 RL G) (hX : va_X b L xs s s.heap) (hbl : b < s.heap.size) (hbA : ¬ g_A G b) (hL : L ≤ 3072) {i : Nat} (hi : i + 6 ≤ L) {σ : Sto} {x : XP} {H : Heap} {locs : List Loc} {ls : Array Slot} {cells slots : Nat} (hM : g_M G x σ s H locs) (hl : lv_has ls 9 [(0, .ref b), (1, .ref (g_ad G 60)), (2, .ref (g_ad G 87)), (3, .ref (g_ad G 106)), (4, .ref (g_ad G 107)), (5, .int (nI i))]) (hroom : cells + 8 ≤ room_1.cells ∧ slots + 48 ≤ room_1.slots) (h : DL_19 xs i σ x (fun σ x => ∀ (H : Heap) (locs : List Loc) (ls : Array Slot), g_M G x σ s H locs → lv_has ls 9 [(0, .ref b), (1, .ref (g_ad G 60)), (2, .ref (g_ad G 87)), (3, .ref (g_ad G 106)), (4, .ref (g_ad G 107)), (5, .int (nI i))] → W p l e room_1 s m #[.ref b] below meth c H locs (cells + 8) (slots + 48) Q (F0 m 3015 ls []))) : W p l e room_1 s m #[.ref b] below meth c H locs cells slots Q (F0 m 1538 ls []) := by
  unfold DL_19 at h
  have hx := C.1
  have hb := C.2.1
  refine lv_aload_n (pc := 1538) hx hb dL_law_1538 rfl (lv_at hl 1 rfl) ?_
  refine lv_aload_n (pc := 1539) hx hb dL_law_1539 rfl (lv_at hl 0 rfl) ?_
  refine lv_iload (pc := 1540) hx hb dL_law_1540 (lv_at hl 5 rfl) ?_
  refine lv_iconst (pc := 1542) (v := 1) hx hb dL_law_1542 (by decide) ?_
  refine lv_iadd (pc := 1543) hx hb dL_law_1543 ?_
  refine g_scr (pc := 1544) (k := i + 1) C hX hbl hbA hM (sc_in1 hi hL) (sc_ix1 hi hL) dL_law_1544 ?_
  refine lv_aload_n (pc := 1545) hx hb dL_law_1545 rfl (lv_at hl 3 rfl) ?_
  refine g_cSw (pc := 1546) C hM hl.1 yw_L_setSubject q4_15 (w_L_setSubject l hl0 G (xs (i + 1)) σ x _ h) rfl rfl ⟨⟨Nat.le_of_ble_eq_true rfl, Nat.le_of_ble_eq_true rfl⟩, Nat.le_trans (Nat.add_le_add_left (by decide) _) hroom.1, Nat.le_trans (Nat.add_le_add_left (by decide) _) hroom.2⟩ (Nat.le_of_ble_eq_true rfl) dL_law_1546 (fun r1546 u1546 H locs h hM => ?_)
  refine W.widen (k := cells + 8) (n := slots + 48) (Nat.add_le_add_left (by decide) _) (Nat.add_le_add_left (by decide) _) ?_
  refine lv_istore (pc := 1549) (lv' := [(6, .int r1546), (0, .ref b), (1, .ref (g_ad G 60)), (2, .ref (g_ad G 87)), (3, .ref (g_ad G 106)), (4, .ref (g_ad G 107)), (5, .int (nI i))]) hx hb dL_law_1549 hl (by decide) rfl (fun ls hl => ?_)
  refine lv_aload_n (pc := 1551) hx hb dL_law_1551 rfl (lv_at hl 3 rfl) ?_
  refine lv_aload_n (pc := 1552) hx hb dL_law_1552 rfl (lv_at hl 1 rfl) ?_
  refine lv_iload (pc := 1553) hx hb dL_law_1553 (lv_at hl 6 rfl) ?_
  refine lv_iconst (pc := 1555) (v := 1) hx hb dL_law_1555 (by decide) ?_
  refine lv_iadd (pc := 1556) hx hb dL_law_1556 ?_
  refine g_scr (pc := 1557) (k := i + 1) C hX hbl hbA hM (sc_in1 hi hL) (sc_ix1 hi hL) dL_law_1557 ?_
  refine g_cVi (pc := 1558) C hM hl.1 yv_X12_setSubject q7_24 (by decide) ce_87 rfl (w_X12_setSubject l G u1546.2 (xs (i + 1)) u1546.1 _ h) rfl rfl ⟨⟨Nat.le_of_ble_eq_true rfl, Nat.le_of_ble_eq_true rfl⟩, hroom.1, hroom.2⟩ (Nat.le_of_ble_eq_true rfl) dL_law_1558 (fun r1558 s1558 H locs h hM => ?_)
  refine lv_istore (pc := 1561) (lv' := [(7, .int r1558), (6, .int r1546), (0, .ref b), (1, .ref (g_ad G 60)), (2, .ref (g_ad G 87)), (3, .ref (g_ad G 106)), (4, .ref (g_ad G 107)), (5, .int (nI i))]) hx hb dL_law_1561 hl (by decide) rfl (fun ls hl => ?_)
  refine lv_aload_n (pc := 1563) hx hb dL_law_1563 rfl (lv_at hl 4 rfl) ?_
  refine g_cVi (pc := 1564) C hM hl.1 yv_X12_thrown q6_81 (by decide) ce_87 rfl (w_X12_thrown l G u1546.2 s1558 _ h) rfl rfl ⟨⟨Nat.le_of_ble_eq_true rfl, Nat.le_of_ble_eq_true rfl⟩, hroom.1, hroom.2⟩ (Nat.le_of_ble_eq_true rfl) dL_law_1564 (fun r1564 s1564 H locs h hM => ?_)
  refine lv_iload (pc := 1567) hx hb dL_law_1567 (lv_at hl 1 rfl) ?_
  refine lv_icmp_eq (pc := 1569) (tgt := 1574) hx hb dL_law_1569 (by decide) (fun c1569 => ?_) (fun c1569 => ?_)
  · have h := h.1 c1569
    refine lv_iload (pc := 1574) hx hb dL_law_1574 (lv_at hl 1 rfl) ?_
    refine lv_if_ne (pc := 1576) (tgt := 1591) hx hb dL_law_1576 (by decide) (fun c1576 => ?_) (fun c1576 => ?_)
    · have h := h.2 c1576
      refine lv_goto (pc := 1591) (tgt := 3015) hx hb dL_law_1591 (by decide) ?_
      exact h _ _ _ hM (lv_sub hl [2, 3, 4, 5, 6, 7] rfl)
    · have h := h.1 c1576
      refine lv_aload_n (pc := 1579) hx hb dL_law_1579 rfl (lv_at hl 5 rfl) ?_
      refine lv_iconst (pc := 1580) (v := 0) hx hb dL_law_1580 (by decide) ?_
      refine g_lald (pc := 1581) C hM dL_law_1581 ?_
      refine lv_iload (pc := 1582) hx hb dL_law_1582 (lv_at hl 0 rfl) ?_
      refine lv_i2l (pc := 1584) (v := (r1558).toInt64) hx hb dL_law_1584 rfl ?_
      refine W.lcmp (pc := 1585) hx hb dL_law_1585 ?_
      refine lv_if_eq (pc := 1586) (tgt := 1591) hx hb dL_law_1586 (by decide) (fun c1586 => ?_) (fun c1586 => ?_)
      · have h := h.1 c1586
        refine lv_goto (pc := 1591) (tgt := 3015) hx hb dL_law_1591 (by decide) ?_
        exact h _ _ _ hM (lv_sub hl [2, 3, 4, 5, 6, 7] rfl)
      · have h := h.2 c1586
        refine lv_iconst (pc := 1589) (v := 0) hx hb dL_law_1589 (by decide) ?_
        exact h.elim
  · have h := h.2 c1569
    refine lv_iconst (pc := 1572) (v := 0) hx hb dL_law_1572 (by decide) ?_
    exact h.elim
set_option maxHeartbeats 4000000 in
set_option maxRecDepth 100000 in
theorem law_case_20 {p : Program} {l : Launch} {e : Env} {s : State} {m : MethodId} {below : List Frame} {meth : Method} {c : Code} {Q : State → Prop} (hl0 : l.stackTraces = false) {G : GP} {b L : Nat} {xs : Nat → Int32} (C : g_C p s m #[.ref b] c code 9 RL G) (hX : va_X b L xs s s.heap) (hbl : b < s.heap.size) (hbA : ¬ g_A G b) (hL : L ≤ 3072) {i : Nat} (hi : i + 6 ≤ L) {σ : Sto} {x : XP} {H : Heap} {locs : List Loc} {ls : Array Slot} {cells slots : Nat} (hM : g_M G x σ s H locs) (hl : lv_has ls 9 [(0, .ref b), (1, .ref (g_ad G 60)), (2, .ref (g_ad G 87)), (3, .ref (g_ad G 106)), (4, .ref (g_ad G 107)), (5, .int (nI i))]) (hroom : cells + 8 ≤ room_1.cells ∧ slots + 48 ≤ room_1.slots) (h : DL_20 xs i σ x (fun σ x => ∀ (H : Heap) (locs : List Loc) (ls : Array Slot), g_M G x σ s H locs → lv_has ls 9 [(0, .ref b), (1, .ref (g_ad G 60)), (2, .ref (g_ad G 87)), (3, .ref (g_ad G 106)), (4, .ref (g_ad G 107)), (5, .int (nI i))] → W p l e room_1 s m #[.ref b] below meth c H locs (cells + 8) (slots + 48) Q (F0 m 3015 ls []))) : W p l e room_1 s m #[.ref b] below meth c H locs cells slots Q (F0 m 1594 ls []) := by
  unfold DL_20 at h
  have hx := C.1
  have hb := C.2.1
  refine lv_aload_n (pc := 1594) hx hb dL_law_1594 rfl (lv_at hl 1 rfl) ?_
  refine lv_aload_n (pc := 1595) hx hb dL_law_1595 rfl (lv_at hl 0 rfl) ?_
  refine lv_iload (pc := 1596) hx hb dL_law_1596 (lv_at hl 5 rfl) ?_
  refine lv_iconst (pc := 1598) (v := 1) hx hb dL_law_1598 (by decide) ?_
  refine lv_iadd (pc := 1599) hx hb dL_law_1599 ?_
  refine g_scr (pc := 1600) (k := i + 1) C hX hbl hbA hM (sc_in1 hi hL) (sc_ix1 hi hL) dL_law_1600 ?_
  refine lv_aload_n (pc := 1601) hx hb dL_law_1601 rfl (lv_at hl 0 rfl) ?_
  refine lv_iload (pc := 1602) hx hb dL_law_1602 (lv_at hl 5 rfl) ?_
  refine lv_iconst (pc := 1604) (v := 2) hx hb dL_law_1604 (by decide) ?_
  refine lv_iadd (pc := 1605) hx hb dL_law_1605 ?_
  refine g_scr (pc := 1606) (k := i + 2) C hX hbl hbA hM (sc_in2 hi hL) (sc_ix2 hi hL) dL_law_1606 ?_
  refine lv_aload_n (pc := 1607) hx hb dL_law_1607 rfl (lv_at hl 3 rfl) ?_
  refine g_cSw (pc := 1608) C hM hl.1 yw_L_setValue q4_22 (w_L_setValue l hl0 G (xs (i + 1)) (xs (i + 2)) σ x _ h) rfl rfl ⟨⟨Nat.le_of_ble_eq_true rfl, Nat.le_of_ble_eq_true rfl⟩, Nat.le_trans (Nat.add_le_add_left (by decide) _) hroom.1, Nat.le_trans (Nat.add_le_add_left (by decide) _) hroom.2⟩ (Nat.le_of_ble_eq_true rfl) dL_law_1608 (fun r1608 u1608 H locs h hM => ?_)
  refine W.widen (k := cells + 8) (n := slots + 48) (Nat.add_le_add_left (by decide) _) (Nat.add_le_add_left (by decide) _) ?_
  refine lv_istore (pc := 1611) (lv' := [(6, .int r1608), (0, .ref b), (1, .ref (g_ad G 60)), (2, .ref (g_ad G 87)), (3, .ref (g_ad G 106)), (4, .ref (g_ad G 107)), (5, .int (nI i))]) hx hb dL_law_1611 hl (by decide) rfl (fun ls hl => ?_)
  refine lv_aload_n (pc := 1613) hx hb dL_law_1613 rfl (lv_at hl 3 rfl) ?_
  refine lv_aload_n (pc := 1614) hx hb dL_law_1614 rfl (lv_at hl 1 rfl) ?_
  refine lv_iload (pc := 1615) hx hb dL_law_1615 (lv_at hl 6 rfl) ?_
  refine lv_iconst (pc := 1617) (v := 1) hx hb dL_law_1617 (by decide) ?_
  refine lv_iadd (pc := 1618) hx hb dL_law_1618 ?_
  refine g_scr (pc := 1619) (k := i + 1) C hX hbl hbA hM (sc_in1 hi hL) (sc_ix1 hi hL) dL_law_1619 ?_
  refine lv_aload_n (pc := 1620) hx hb dL_law_1620 rfl (lv_at hl 1 rfl) ?_
  refine lv_iload (pc := 1621) hx hb dL_law_1621 (lv_at hl 6 rfl) ?_
  refine lv_iconst (pc := 1623) (v := 2) hx hb dL_law_1623 (by decide) ?_
  refine lv_iadd (pc := 1624) hx hb dL_law_1624 ?_
  refine g_scr (pc := 1625) (k := i + 2) C hX hbl hbA hM (sc_in2 hi hL) (sc_ix2 hi hL) dL_law_1625 ?_
  refine g_cVi (pc := 1626) C hM hl.1 yv_X12_setValue q7_28 (by decide) ce_87 rfl (w_X12_setValue l G u1608.2 (xs (i + 1)) (xs (i + 2)) u1608.1 _ h) rfl rfl ⟨⟨Nat.le_of_ble_eq_true rfl, Nat.le_of_ble_eq_true rfl⟩, hroom.1, hroom.2⟩ (Nat.le_of_ble_eq_true rfl) dL_law_1626 (fun r1626 s1626 H locs h hM => ?_)
  refine lv_istore (pc := 1629) (lv' := [(7, .int r1626), (6, .int r1608), (0, .ref b), (1, .ref (g_ad G 60)), (2, .ref (g_ad G 87)), (3, .ref (g_ad G 106)), (4, .ref (g_ad G 107)), (5, .int (nI i))]) hx hb dL_law_1629 hl (by decide) rfl (fun ls hl => ?_)
  refine lv_aload_n (pc := 1631) hx hb dL_law_1631 rfl (lv_at hl 4 rfl) ?_
  refine g_cVi (pc := 1632) C hM hl.1 yv_X12_thrown q6_81 (by decide) ce_87 rfl (w_X12_thrown l G u1608.2 s1626 _ h) rfl rfl ⟨⟨Nat.le_of_ble_eq_true rfl, Nat.le_of_ble_eq_true rfl⟩, hroom.1, hroom.2⟩ (Nat.le_of_ble_eq_true rfl) dL_law_1632 (fun r1632 s1632 H locs h hM => ?_)
  refine lv_iload (pc := 1635) hx hb dL_law_1635 (lv_at hl 1 rfl) ?_
  refine lv_icmp_eq (pc := 1637) (tgt := 1642) hx hb dL_law_1637 (by decide) (fun c1637 => ?_) (fun c1637 => ?_)
  · have h := h.1 c1637
    refine lv_iload (pc := 1642) hx hb dL_law_1642 (lv_at hl 1 rfl) ?_
    refine lv_if_ne (pc := 1644) (tgt := 1659) hx hb dL_law_1644 (by decide) (fun c1644 => ?_) (fun c1644 => ?_)
    · have h := h.2 c1644
      refine lv_goto (pc := 1659) (tgt := 3015) hx hb dL_law_1659 (by decide) ?_
      exact h _ _ _ hM (lv_sub hl [2, 3, 4, 5, 6, 7] rfl)
    · have h := h.1 c1644
      refine lv_aload_n (pc := 1647) hx hb dL_law_1647 rfl (lv_at hl 5 rfl) ?_
      refine lv_iconst (pc := 1648) (v := 0) hx hb dL_law_1648 (by decide) ?_
      refine g_lald (pc := 1649) C hM dL_law_1649 ?_
      refine lv_iload (pc := 1650) hx hb dL_law_1650 (lv_at hl 0 rfl) ?_
      refine lv_i2l (pc := 1652) (v := (r1626).toInt64) hx hb dL_law_1652 rfl ?_
      refine W.lcmp (pc := 1653) hx hb dL_law_1653 ?_
      refine lv_if_eq (pc := 1654) (tgt := 1659) hx hb dL_law_1654 (by decide) (fun c1654 => ?_) (fun c1654 => ?_)
      · have h := h.1 c1654
        refine lv_goto (pc := 1659) (tgt := 3015) hx hb dL_law_1659 (by decide) ?_
        exact h _ _ _ hM (lv_sub hl [2, 3, 4, 5, 6, 7] rfl)
      · have h := h.2 c1654
        refine lv_iconst (pc := 1657) (v := 0) hx hb dL_law_1657 (by decide) ?_
        exact h.elim
  · have h := h.2 c1637
    refine lv_iconst (pc := 1640) (v := 0) hx hb dL_law_1640 (by decide) ?_
    exact h.elim
set_option maxHeartbeats 4000000 in
set_option maxRecDepth 100000 in
theorem law_case_21 {p : Program} {l : Launch} {e : Env} {s : State} {m : MethodId} {below : List Frame} {meth : Method} {c : Code} {Q : State → Prop} (hl0 : l.stackTraces = false) {G : GP} {b L : Nat} {xs : Nat → Int32} (C : g_C p s m #[.ref b] c code 9 RL G) (hX : va_X b L xs s s.heap) (hbl : b < s.heap.size) (hbA : ¬ g_A G b) (hL : L ≤ 3072) {i : Nat} (hi : i + 6 ≤ L) {σ : Sto} {x : XP} {H : Heap} {locs : List Loc} {ls : Array Slot} {cells slots : Nat} (hM : g_M G x σ s H locs) (hl : lv_has ls 9 [(0, .ref b), (1, .ref (g_ad G 60)), (2, .ref (g_ad G 87)), (3, .ref (g_ad G 106)), (4, .ref (g_ad G 107)), (5, .int (nI i))]) (hroom : cells + 8 ≤ room_1.cells ∧ slots + 48 ≤ room_1.slots) (h : DL_21 xs i σ x (fun σ x => ∀ (H : Heap) (locs : List Loc) (ls : Array Slot), g_M G x σ s H locs → lv_has ls 9 [(0, .ref b), (1, .ref (g_ad G 60)), (2, .ref (g_ad G 87)), (3, .ref (g_ad G 106)), (4, .ref (g_ad G 107)), (5, .int (nI i))] → W p l e room_1 s m #[.ref b] below meth c H locs (cells + 8) (slots + 48) Q (F0 m 3015 ls []))) : W p l e room_1 s m #[.ref b] below meth c H locs cells slots Q (F0 m 1662 ls []) := by
  unfold DL_21 at h
  have hx := C.1
  have hb := C.2.1
  refine lv_aload_n (pc := 1662) hx hb dL_law_1662 rfl (lv_at hl 1 rfl) ?_
  refine g_cVi (pc := 1663) C hM hl.1 yv_X11_unknown q2_70 (by decide) ce_60 rfl (w_X11_unknown l G x σ _ h) rfl rfl ⟨⟨Nat.le_of_ble_eq_true rfl, Nat.le_of_ble_eq_true rfl⟩, Nat.le_trans (Nat.le_add_right _ _) hroom.1, Nat.le_trans (Nat.le_add_right _ _) hroom.2⟩ (Nat.le_of_ble_eq_true rfl) dL_law_1663 (fun r1663 s1663 H locs h hM => ?_)
  refine W.widen (k := cells + 8) (n := slots + 48) (Nat.add_le_add_left (by decide) _) (Nat.add_le_add_left (by decide) _) ?_
  refine lv_aload_n (pc := 1666) hx hb dL_law_1666 rfl (lv_at hl 2 rfl) ?_
  refine g_cVi (pc := 1667) C hM hl.1 yv_X12_unknown q7_32 (by decide) ce_87 rfl (w_X12_unknown l G x s1663 _ h) rfl rfl ⟨⟨Nat.le_of_ble_eq_true rfl, Nat.le_of_ble_eq_true rfl⟩, hroom.1, hroom.2⟩ (Nat.le_of_ble_eq_true rfl) dL_law_1667 (fun r1667 s1667 H locs h hM => ?_)
  refine lv_icmp_eq (pc := 1670) (tgt := 3015) hx hb dL_law_1670 (by decide) (fun c1670 => ?_) (fun c1670 => ?_)
  · have h := h.1 c1670
    exact h _ _ _ hM (lv_sub hl [0, 1, 2, 3, 4, 5] rfl)
  · have h := h.2 c1670
    refine lv_iconst (pc := 1673) (v := 0) hx hb dL_law_1673 (by decide) ?_
    exact h.elim
set_option maxHeartbeats 4000000 in
set_option maxRecDepth 100000 in
theorem law_case_22 {p : Program} {l : Launch} {e : Env} {s : State} {m : MethodId} {below : List Frame} {meth : Method} {c : Code} {Q : State → Prop} (hl0 : l.stackTraces = false) {G : GP} {b L : Nat} {xs : Nat → Int32} (C : g_C p s m #[.ref b] c code 9 RL G) (hX : va_X b L xs s s.heap) (hbl : b < s.heap.size) (hbA : ¬ g_A G b) (hL : L ≤ 3072) {i : Nat} (hi : i + 6 ≤ L) {σ : Sto} {x : XP} {H : Heap} {locs : List Loc} {ls : Array Slot} {cells slots : Nat} (hM : g_M G x σ s H locs) (hl : lv_has ls 9 [(0, .ref b), (1, .ref (g_ad G 60)), (2, .ref (g_ad G 87)), (3, .ref (g_ad G 106)), (4, .ref (g_ad G 107)), (5, .int (nI i))]) (hroom : cells + 8 ≤ room_1.cells ∧ slots + 48 ≤ room_1.slots) (h : DL_22 xs i σ x (fun σ x => ∀ (H : Heap) (locs : List Loc) (ls : Array Slot), g_M G x σ s H locs → lv_has ls 9 [(0, .ref b), (1, .ref (g_ad G 60)), (2, .ref (g_ad G 87)), (3, .ref (g_ad G 106)), (4, .ref (g_ad G 107)), (5, .int (nI i))] → W p l e room_1 s m #[.ref b] below meth c H locs (cells + 8) (slots + 48) Q (F0 m 3015 ls []))) : W p l e room_1 s m #[.ref b] below meth c H locs cells slots Q (F0 m 1675 ls []) := by
  unfold DL_22 at h
  have hx := C.1
  have hb := C.2.1
  refine lv_aload_n (pc := 1675) hx hb dL_law_1675 rfl (lv_at hl 1 rfl) ?_
  refine lv_aload_n (pc := 1676) hx hb dL_law_1676 rfl (lv_at hl 0 rfl) ?_
  refine lv_iload (pc := 1677) hx hb dL_law_1677 (lv_at hl 5 rfl) ?_
  refine lv_iconst (pc := 1679) (v := 1) hx hb dL_law_1679 (by decide) ?_
  refine lv_iadd (pc := 1680) hx hb dL_law_1680 ?_
  refine g_scr (pc := 1681) (k := i + 1) C hX hbl hbA hM (sc_in1 hi hL) (sc_ix1 hi hL) dL_law_1681 ?_
  refine lv_aload_n (pc := 1682) hx hb dL_law_1682 rfl (lv_at hl 3 rfl) ?_
  refine g_cSw (pc := 1683) C hM hl.1 yw_L_applies q4_29 (w_L_applies l hl0 G (xs (i + 1)) σ x _ h) rfl rfl ⟨⟨Nat.le_of_ble_eq_true rfl, Nat.le_of_ble_eq_true rfl⟩, Nat.le_trans (Nat.add_le_add_left (by decide) _) hroom.1, Nat.le_trans (Nat.add_le_add_left (by decide) _) hroom.2⟩ (Nat.le_of_ble_eq_true rfl) dL_law_1683 (fun r1683 u1683 H locs h hM => ?_)
  refine W.widen (k := cells + 8) (n := slots + 48) (Nat.add_le_add_left (by decide) _) (Nat.add_le_add_left (by decide) _) ?_
  refine lv_istore (pc := 1686) (lv' := [(6, .int r1683), (0, .ref b), (1, .ref (g_ad G 60)), (2, .ref (g_ad G 87)), (3, .ref (g_ad G 106)), (4, .ref (g_ad G 107)), (5, .int (nI i))]) hx hb dL_law_1686 hl (by decide) rfl (fun ls hl => ?_)
  refine lv_aload_n (pc := 1688) hx hb dL_law_1688 rfl (lv_at hl 3 rfl) ?_
  refine lv_aload_n (pc := 1689) hx hb dL_law_1689 rfl (lv_at hl 1 rfl) ?_
  refine lv_iload (pc := 1690) hx hb dL_law_1690 (lv_at hl 6 rfl) ?_
  refine lv_iconst (pc := 1692) (v := 1) hx hb dL_law_1692 (by decide) ?_
  refine lv_iadd (pc := 1693) hx hb dL_law_1693 ?_
  refine g_scr (pc := 1694) (k := i + 1) C hX hbl hbA hM (sc_in1 hi hL) (sc_ix1 hi hL) dL_law_1694 ?_
  refine g_cVi (pc := 1695) C hM hl.1 yv_X12_applies q7_40 (by decide) ce_87 rfl (w_X12_applies l G u1683.2 (xs (i + 1)) u1683.1 _ h) rfl rfl ⟨⟨Nat.le_of_ble_eq_true rfl, Nat.le_of_ble_eq_true rfl⟩, hroom.1, hroom.2⟩ (Nat.le_of_ble_eq_true rfl) dL_law_1695 (fun r1695 s1695 H locs h hM => ?_)
  refine lv_istore (pc := 1698) (lv' := [(7, .int r1695), (6, .int r1683), (0, .ref b), (1, .ref (g_ad G 60)), (2, .ref (g_ad G 87)), (3, .ref (g_ad G 106)), (4, .ref (g_ad G 107)), (5, .int (nI i))]) hx hb dL_law_1698 hl (by decide) rfl (fun ls hl => ?_)
  refine lv_aload_n (pc := 1700) hx hb dL_law_1700 rfl (lv_at hl 4 rfl) ?_
  refine g_cVi (pc := 1701) C hM hl.1 yv_X12_thrown q6_81 (by decide) ce_87 rfl (w_X12_thrown l G u1683.2 s1695 _ h) rfl rfl ⟨⟨Nat.le_of_ble_eq_true rfl, Nat.le_of_ble_eq_true rfl⟩, hroom.1, hroom.2⟩ (Nat.le_of_ble_eq_true rfl) dL_law_1701 (fun r1701 s1701 H locs h hM => ?_)
  refine lv_iload (pc := 1704) hx hb dL_law_1704 (lv_at hl 1 rfl) ?_
  refine lv_icmp_eq (pc := 1706) (tgt := 1711) hx hb dL_law_1706 (by decide) (fun c1706 => ?_) (fun c1706 => ?_)
  · have h := h.1 c1706
    refine lv_iload (pc := 1711) hx hb dL_law_1711 (lv_at hl 1 rfl) ?_
    refine lv_if_ne (pc := 1713) (tgt := 1728) hx hb dL_law_1713 (by decide) (fun c1713 => ?_) (fun c1713 => ?_)
    · have h := h.2 c1713
      refine lv_goto (pc := 1728) (tgt := 3015) hx hb dL_law_1728 (by decide) ?_
      exact h _ _ _ hM (lv_sub hl [2, 3, 4, 5, 6, 7] rfl)
    · have h := h.1 c1713
      refine lv_aload_n (pc := 1716) hx hb dL_law_1716 rfl (lv_at hl 5 rfl) ?_
      refine lv_iconst (pc := 1717) (v := 0) hx hb dL_law_1717 (by decide) ?_
      refine g_lald (pc := 1718) C hM dL_law_1718 ?_
      refine lv_iload (pc := 1719) hx hb dL_law_1719 (lv_at hl 0 rfl) ?_
      refine lv_i2l (pc := 1721) (v := (r1695).toInt64) hx hb dL_law_1721 rfl ?_
      refine W.lcmp (pc := 1722) hx hb dL_law_1722 ?_
      refine lv_if_eq (pc := 1723) (tgt := 1728) hx hb dL_law_1723 (by decide) (fun c1723 => ?_) (fun c1723 => ?_)
      · have h := h.1 c1723
        refine lv_goto (pc := 1728) (tgt := 3015) hx hb dL_law_1728 (by decide) ?_
        exact h _ _ _ hM (lv_sub hl [2, 3, 4, 5, 6, 7] rfl)
      · have h := h.2 c1723
        refine lv_iconst (pc := 1726) (v := 0) hx hb dL_law_1726 (by decide) ?_
        exact h.elim
  · have h := h.2 c1706
    refine lv_iconst (pc := 1709) (v := 0) hx hb dL_law_1709 (by decide) ?_
    exact h.elim
set_option maxHeartbeats 4000000 in
set_option maxRecDepth 100000 in
theorem law_case_23 {p : Program} {l : Launch} {e : Env} {s : State} {m : MethodId} {below : List Frame} {meth : Method} {c : Code} {Q : State → Prop} (hl0 : l.stackTraces = false) {G : GP} {b L : Nat} {xs : Nat → Int32} (C : g_C p s m #[.ref b] c code 9 RL G) (hX : va_X b L xs s s.heap) (hbl : b < s.heap.size) (hbA : ¬ g_A G b) (hL : L ≤ 3072) {i : Nat} (hi : i + 6 ≤ L) {σ : Sto} {x : XP} {H : Heap} {locs : List Loc} {ls : Array Slot} {cells slots : Nat} (hM : g_M G x σ s H locs) (hl : lv_has ls 9 [(0, .ref b), (1, .ref (g_ad G 60)), (2, .ref (g_ad G 87)), (3, .ref (g_ad G 106)), (4, .ref (g_ad G 107)), (5, .int (nI i))]) (hroom : cells + 8 ≤ room_1.cells ∧ slots + 48 ≤ room_1.slots) (h : DL_23 xs i σ x (fun σ x => ∀ (H : Heap) (locs : List Loc) (ls : Array Slot), g_M G x σ s H locs → lv_has ls 9 [(0, .ref b), (1, .ref (g_ad G 60)), (2, .ref (g_ad G 87)), (3, .ref (g_ad G 106)), (4, .ref (g_ad G 107)), (5, .int (nI i))] → W p l e room_1 s m #[.ref b] below meth c H locs (cells + 8) (slots + 48) Q (F0 m 3015 ls []))) : W p l e room_1 s m #[.ref b] below meth c H locs cells slots Q (F0 m 1731 ls []) := by
  unfold DL_23 at h
  have hx := C.1
  have hb := C.2.1
  refine lv_aload_n (pc := 1731) hx hb dL_law_1731 rfl (lv_at hl 1 rfl) ?_
  refine lv_aload_n (pc := 1732) hx hb dL_law_1732 rfl (lv_at hl 0 rfl) ?_
  refine lv_iload (pc := 1733) hx hb dL_law_1733 (lv_at hl 5 rfl) ?_
  refine lv_iconst (pc := 1735) (v := 1) hx hb dL_law_1735 (by decide) ?_
  refine lv_iadd (pc := 1736) hx hb dL_law_1736 ?_
  refine g_scr (pc := 1737) (k := i + 1) C hX hbl hbA hM (sc_in1 hi hL) (sc_ix1 hi hL) dL_law_1737 ?_
  refine lv_aload_n (pc := 1738) hx hb dL_law_1738 rfl (lv_at hl 3 rfl) ?_
  refine g_cSw (pc := 1739) C hM hl.1 yw_L_failing q4_56 (w_L_failing l hl0 G (xs (i + 1)) σ x _ h) rfl rfl ⟨⟨Nat.le_of_ble_eq_true rfl, Nat.le_of_ble_eq_true rfl⟩, Nat.le_trans (Nat.add_le_add_left (by decide) _) hroom.1, Nat.le_trans (Nat.add_le_add_left (by decide) _) hroom.2⟩ (Nat.le_of_ble_eq_true rfl) dL_law_1739 (fun r1739 u1739 H locs h hM => ?_)
  refine W.widen (k := cells + 8) (n := slots + 48) (Nat.add_le_add_left (by decide) _) (Nat.add_le_add_left (by decide) _) ?_
  refine lv_istore (pc := 1742) (lv' := [(6, .int r1739), (0, .ref b), (1, .ref (g_ad G 60)), (2, .ref (g_ad G 87)), (3, .ref (g_ad G 106)), (4, .ref (g_ad G 107)), (5, .int (nI i))]) hx hb dL_law_1742 hl (by decide) rfl (fun ls hl => ?_)
  refine lv_aload_n (pc := 1744) hx hb dL_law_1744 rfl (lv_at hl 3 rfl) ?_
  refine lv_aload_n (pc := 1745) hx hb dL_law_1745 rfl (lv_at hl 1 rfl) ?_
  refine lv_iload (pc := 1746) hx hb dL_law_1746 (lv_at hl 6 rfl) ?_
  refine lv_iconst (pc := 1748) (v := 1) hx hb dL_law_1748 (by decide) ?_
  refine lv_iadd (pc := 1749) hx hb dL_law_1749 ?_
  refine g_scr (pc := 1750) (k := i + 1) C hX hbl hbA hM (sc_in1 hi hL) (sc_ix1 hi hL) dL_law_1750 ?_
  refine g_cVi (pc := 1751) C hM hl.1 yv_X12_failing q7_48 (by decide) ce_87 rfl (w_X12_failing l G u1739.2 (xs (i + 1)) u1739.1 _ h) rfl rfl ⟨⟨Nat.le_of_ble_eq_true rfl, Nat.le_of_ble_eq_true rfl⟩, hroom.1, hroom.2⟩ (Nat.le_of_ble_eq_true rfl) dL_law_1751 (fun r1751 s1751 H locs h hM => ?_)
  refine lv_istore (pc := 1754) (lv' := [(7, .int r1751), (6, .int r1739), (0, .ref b), (1, .ref (g_ad G 60)), (2, .ref (g_ad G 87)), (3, .ref (g_ad G 106)), (4, .ref (g_ad G 107)), (5, .int (nI i))]) hx hb dL_law_1754 hl (by decide) rfl (fun ls hl => ?_)
  refine lv_aload_n (pc := 1756) hx hb dL_law_1756 rfl (lv_at hl 4 rfl) ?_
  refine g_cVi (pc := 1757) C hM hl.1 yv_X12_thrown q6_81 (by decide) ce_87 rfl (w_X12_thrown l G u1739.2 s1751 _ h) rfl rfl ⟨⟨Nat.le_of_ble_eq_true rfl, Nat.le_of_ble_eq_true rfl⟩, hroom.1, hroom.2⟩ (Nat.le_of_ble_eq_true rfl) dL_law_1757 (fun r1757 s1757 H locs h hM => ?_)
  refine lv_iload (pc := 1760) hx hb dL_law_1760 (lv_at hl 1 rfl) ?_
  refine lv_icmp_eq (pc := 1762) (tgt := 1767) hx hb dL_law_1762 (by decide) (fun c1762 => ?_) (fun c1762 => ?_)
  · have h := h.1 c1762
    refine lv_iload (pc := 1767) hx hb dL_law_1767 (lv_at hl 1 rfl) ?_
    refine lv_if_ne (pc := 1769) (tgt := 1784) hx hb dL_law_1769 (by decide) (fun c1769 => ?_) (fun c1769 => ?_)
    · have h := h.2 c1769
      refine lv_goto (pc := 1784) (tgt := 3015) hx hb dL_law_1784 (by decide) ?_
      exact h _ _ _ hM (lv_sub hl [2, 3, 4, 5, 6, 7] rfl)
    · have h := h.1 c1769
      refine lv_aload_n (pc := 1772) hx hb dL_law_1772 rfl (lv_at hl 5 rfl) ?_
      refine lv_iconst (pc := 1773) (v := 0) hx hb dL_law_1773 (by decide) ?_
      refine g_lald (pc := 1774) C hM dL_law_1774 ?_
      refine lv_iload (pc := 1775) hx hb dL_law_1775 (lv_at hl 0 rfl) ?_
      refine lv_i2l (pc := 1777) (v := (r1751).toInt64) hx hb dL_law_1777 rfl ?_
      refine W.lcmp (pc := 1778) hx hb dL_law_1778 ?_
      refine lv_if_eq (pc := 1779) (tgt := 1784) hx hb dL_law_1779 (by decide) (fun c1779 => ?_) (fun c1779 => ?_)
      · have h := h.1 c1779
        refine lv_goto (pc := 1784) (tgt := 3015) hx hb dL_law_1784 (by decide) ?_
        exact h _ _ _ hM (lv_sub hl [2, 3, 4, 5, 6, 7] rfl)
      · have h := h.2 c1779
        refine lv_iconst (pc := 1782) (v := 0) hx hb dL_law_1782 (by decide) ?_
        exact h.elim
  · have h := h.2 c1762
    refine lv_iconst (pc := 1765) (v := 0) hx hb dL_law_1765 (by decide) ?_
    exact h.elim
set_option maxHeartbeats 4000000 in
set_option maxRecDepth 100000 in
theorem law_case_24 {p : Program} {l : Launch} {e : Env} {s : State} {m : MethodId} {below : List Frame} {meth : Method} {c : Code} {Q : State → Prop} (hl0 : l.stackTraces = false) {G : GP} {b L : Nat} {xs : Nat → Int32} (C : g_C p s m #[.ref b] c code 9 RL G) (hX : va_X b L xs s s.heap) (hbl : b < s.heap.size) (hbA : ¬ g_A G b) (hL : L ≤ 3072) {i : Nat} (hi : i + 6 ≤ L) {σ : Sto} {x : XP} {H : Heap} {locs : List Loc} {ls : Array Slot} {cells slots : Nat} (hM : g_M G x σ s H locs) (hl : lv_has ls 9 [(0, .ref b), (1, .ref (g_ad G 60)), (2, .ref (g_ad G 87)), (3, .ref (g_ad G 106)), (4, .ref (g_ad G 107)), (5, .int (nI i))]) (hroom : cells + 8 ≤ room_1.cells ∧ slots + 48 ≤ room_1.slots) (h : DL_24 xs i σ x (fun σ x => ∀ (H : Heap) (locs : List Loc) (ls : Array Slot), g_M G x σ s H locs → lv_has ls 9 [(0, .ref b), (1, .ref (g_ad G 60)), (2, .ref (g_ad G 87)), (3, .ref (g_ad G 106)), (4, .ref (g_ad G 107)), (5, .int (nI i))] → W p l e room_1 s m #[.ref b] below meth c H locs (cells + 8) (slots + 48) Q (F0 m 3015 ls []))) : W p l e room_1 s m #[.ref b] below meth c H locs cells slots Q (F0 m 1787 ls []) := by
  unfold DL_24 at h
  have hx := C.1
  have hb := C.2.1
  refine lv_aload_n (pc := 1787) hx hb dL_law_1787 rfl (lv_at hl 1 rfl) ?_
  refine lv_aload_n (pc := 1788) hx hb dL_law_1788 rfl (lv_at hl 3 rfl) ?_
  refine g_cSw (pc := 1789) C hM hl.1 yw_L_decide q4_68 (w_L_decide l hl0 G σ x _ h) rfl rfl ⟨⟨Nat.le_of_ble_eq_true rfl, Nat.le_of_ble_eq_true rfl⟩, Nat.le_trans (Nat.add_le_add_left (by decide) _) hroom.1, Nat.le_trans (Nat.add_le_add_left (by decide) _) hroom.2⟩ (Nat.le_of_ble_eq_true rfl) dL_law_1789 (fun r1789 u1789 H locs h hM => ?_)
  refine W.widen (k := cells + 8) (n := slots + 48) (Nat.add_le_add_left (by decide) _) (Nat.add_le_add_left (by decide) _) ?_
  refine lv_istore (pc := 1792) (lv' := [(6, .int r1789), (0, .ref b), (1, .ref (g_ad G 60)), (2, .ref (g_ad G 87)), (3, .ref (g_ad G 106)), (4, .ref (g_ad G 107)), (5, .int (nI i))]) hx hb dL_law_1792 hl (by decide) rfl (fun ls hl => ?_)
  refine lv_aload_n (pc := 1794) hx hb dL_law_1794 rfl (lv_at hl 3 rfl) ?_
  refine g_cVi (pc := 1795) C hM hl.1 yv_X12_decide q7_52 (by decide) ce_87 rfl (w_X12_decide l G u1789.2 u1789.1 _ h) rfl rfl ⟨⟨Nat.le_of_ble_eq_true rfl, Nat.le_of_ble_eq_true rfl⟩, hroom.1, hroom.2⟩ (Nat.le_of_ble_eq_true rfl) dL_law_1795 (fun r1795 s1795 H locs h hM => ?_)
  refine lv_istore (pc := 1798) (lv' := [(7, .int r1795), (6, .int r1789), (0, .ref b), (1, .ref (g_ad G 60)), (2, .ref (g_ad G 87)), (3, .ref (g_ad G 106)), (4, .ref (g_ad G 107)), (5, .int (nI i))]) hx hb dL_law_1798 hl (by decide) rfl (fun ls hl => ?_)
  refine lv_aload_n (pc := 1800) hx hb dL_law_1800 rfl (lv_at hl 4 rfl) ?_
  refine g_cVi (pc := 1801) C hM hl.1 yv_X12_thrown q6_81 (by decide) ce_87 rfl (w_X12_thrown l G u1789.2 s1795 _ h) rfl rfl ⟨⟨Nat.le_of_ble_eq_true rfl, Nat.le_of_ble_eq_true rfl⟩, hroom.1, hroom.2⟩ (Nat.le_of_ble_eq_true rfl) dL_law_1801 (fun r1801 s1801 H locs h hM => ?_)
  refine lv_iload (pc := 1804) hx hb dL_law_1804 (lv_at hl 1 rfl) ?_
  refine lv_icmp_eq (pc := 1806) (tgt := 1811) hx hb dL_law_1806 (by decide) (fun c1806 => ?_) (fun c1806 => ?_)
  · have h := h.1 c1806
    refine lv_iload (pc := 1811) hx hb dL_law_1811 (lv_at hl 1 rfl) ?_
    refine lv_if_ne (pc := 1813) (tgt := 1828) hx hb dL_law_1813 (by decide) (fun c1813 => ?_) (fun c1813 => ?_)
    · have h := h.2 c1813
      refine lv_goto (pc := 1828) (tgt := 3015) hx hb dL_law_1828 (by decide) ?_
      exact h _ _ _ hM (lv_sub hl [2, 3, 4, 5, 6, 7] rfl)
    · have h := h.1 c1813
      refine lv_aload_n (pc := 1816) hx hb dL_law_1816 rfl (lv_at hl 5 rfl) ?_
      refine lv_iconst (pc := 1817) (v := 0) hx hb dL_law_1817 (by decide) ?_
      refine g_lald (pc := 1818) C hM dL_law_1818 ?_
      refine lv_iload (pc := 1819) hx hb dL_law_1819 (lv_at hl 0 rfl) ?_
      refine lv_i2l (pc := 1821) (v := (r1795).toInt64) hx hb dL_law_1821 rfl ?_
      refine W.lcmp (pc := 1822) hx hb dL_law_1822 ?_
      refine lv_if_eq (pc := 1823) (tgt := 1828) hx hb dL_law_1823 (by decide) (fun c1823 => ?_) (fun c1823 => ?_)
      · have h := h.1 c1823
        refine lv_goto (pc := 1828) (tgt := 3015) hx hb dL_law_1828 (by decide) ?_
        exact h _ _ _ hM (lv_sub hl [2, 3, 4, 5, 6, 7] rfl)
      · have h := h.2 c1823
        refine lv_iconst (pc := 1826) (v := 0) hx hb dL_law_1826 (by decide) ?_
        exact h.elim
  · have h := h.2 c1806
    refine lv_iconst (pc := 1809) (v := 0) hx hb dL_law_1809 (by decide) ?_
    exact h.elim
set_option maxHeartbeats 4000000 in
set_option maxRecDepth 100000 in
theorem law_case_25 {p : Program} {l : Launch} {e : Env} {s : State} {m : MethodId} {below : List Frame} {meth : Method} {c : Code} {Q : State → Prop} (hl0 : l.stackTraces = false) {G : GP} {b L : Nat} {xs : Nat → Int32} (C : g_C p s m #[.ref b] c code 9 RL G) (hX : va_X b L xs s s.heap) (hbl : b < s.heap.size) (hbA : ¬ g_A G b) (hL : L ≤ 3072) {i : Nat} (hi : i + 6 ≤ L) {σ : Sto} {x : XP} {H : Heap} {locs : List Loc} {ls : Array Slot} {cells slots : Nat} (hM : g_M G x σ s H locs) (hl : lv_has ls 9 [(0, .ref b), (1, .ref (g_ad G 60)), (2, .ref (g_ad G 87)), (3, .ref (g_ad G 106)), (4, .ref (g_ad G 107)), (5, .int (nI i))]) (hroom : cells + 8 ≤ room_1.cells ∧ slots + 48 ≤ room_1.slots) (h : DL_25 xs i σ x (fun σ x => ∀ (H : Heap) (locs : List Loc) (ls : Array Slot), g_M G x σ s H locs → lv_has ls 9 [(0, .ref b), (1, .ref (g_ad G 60)), (2, .ref (g_ad G 87)), (3, .ref (g_ad G 106)), (4, .ref (g_ad G 107)), (5, .int (nI i))] → W p l e room_1 s m #[.ref b] below meth c H locs (cells + 8) (slots + 48) Q (F0 m 3015 ls []))) : W p l e room_1 s m #[.ref b] below meth c H locs cells slots Q (F0 m 1831 ls []) := by
  unfold DL_25 at h
  have hx := C.1
  have hb := C.2.1
  refine lv_aload_n (pc := 1831) hx hb dL_law_1831 rfl (lv_at hl 1 rfl) ?_
  refine lv_aload_n (pc := 1832) hx hb dL_law_1832 rfl (lv_at hl 3 rfl) ?_
  refine g_cSw (pc := 1833) C hM hl.1 yw_L_decidingRule q4_109 (w_L_decidingRule l hl0 G σ x _ h) rfl rfl ⟨⟨Nat.le_of_ble_eq_true rfl, Nat.le_of_ble_eq_true rfl⟩, Nat.le_trans (Nat.add_le_add_left (by decide) _) hroom.1, Nat.le_trans (Nat.add_le_add_left (by decide) _) hroom.2⟩ (Nat.le_of_ble_eq_true rfl) dL_law_1833 (fun r1833 u1833 H locs h hM => ?_)
  refine W.widen (k := cells + 8) (n := slots + 48) (Nat.add_le_add_left (by decide) _) (Nat.add_le_add_left (by decide) _) ?_
  refine lv_istore (pc := 1836) (lv' := [(6, .int r1833), (0, .ref b), (1, .ref (g_ad G 60)), (2, .ref (g_ad G 87)), (3, .ref (g_ad G 106)), (4, .ref (g_ad G 107)), (5, .int (nI i))]) hx hb dL_law_1836 hl (by decide) rfl (fun ls hl => ?_)
  refine lv_aload_n (pc := 1838) hx hb dL_law_1838 rfl (lv_at hl 3 rfl) ?_
  refine g_cVi (pc := 1839) C hM hl.1 yv_X12_decidingRule q7_84 (by decide) ce_87 rfl (w_X12_decidingRule l G u1833.2 u1833.1 _ h) rfl rfl ⟨⟨Nat.le_of_ble_eq_true rfl, Nat.le_of_ble_eq_true rfl⟩, hroom.1, hroom.2⟩ (Nat.le_of_ble_eq_true rfl) dL_law_1839 (fun r1839 s1839 H locs h hM => ?_)
  refine lv_istore (pc := 1842) (lv' := [(7, .int r1839), (6, .int r1833), (0, .ref b), (1, .ref (g_ad G 60)), (2, .ref (g_ad G 87)), (3, .ref (g_ad G 106)), (4, .ref (g_ad G 107)), (5, .int (nI i))]) hx hb dL_law_1842 hl (by decide) rfl (fun ls hl => ?_)
  refine lv_aload_n (pc := 1844) hx hb dL_law_1844 rfl (lv_at hl 4 rfl) ?_
  refine g_cVi (pc := 1845) C hM hl.1 yv_X12_thrown q6_81 (by decide) ce_87 rfl (w_X12_thrown l G u1833.2 s1839 _ h) rfl rfl ⟨⟨Nat.le_of_ble_eq_true rfl, Nat.le_of_ble_eq_true rfl⟩, hroom.1, hroom.2⟩ (Nat.le_of_ble_eq_true rfl) dL_law_1845 (fun r1845 s1845 H locs h hM => ?_)
  refine lv_iload (pc := 1848) hx hb dL_law_1848 (lv_at hl 1 rfl) ?_
  refine lv_icmp_eq (pc := 1850) (tgt := 1855) hx hb dL_law_1850 (by decide) (fun c1850 => ?_) (fun c1850 => ?_)
  · have h := h.1 c1850
    refine lv_iload (pc := 1855) hx hb dL_law_1855 (lv_at hl 1 rfl) ?_
    refine lv_if_ne (pc := 1857) (tgt := 1872) hx hb dL_law_1857 (by decide) (fun c1857 => ?_) (fun c1857 => ?_)
    · have h := h.2 c1857
      refine lv_goto (pc := 1872) (tgt := 3015) hx hb dL_law_1872 (by decide) ?_
      exact h _ _ _ hM (lv_sub hl [2, 3, 4, 5, 6, 7] rfl)
    · have h := h.1 c1857
      refine lv_aload_n (pc := 1860) hx hb dL_law_1860 rfl (lv_at hl 5 rfl) ?_
      refine lv_iconst (pc := 1861) (v := 0) hx hb dL_law_1861 (by decide) ?_
      refine g_lald (pc := 1862) C hM dL_law_1862 ?_
      refine lv_iload (pc := 1863) hx hb dL_law_1863 (lv_at hl 0 rfl) ?_
      refine lv_i2l (pc := 1865) (v := (r1839).toInt64) hx hb dL_law_1865 rfl ?_
      refine W.lcmp (pc := 1866) hx hb dL_law_1866 ?_
      refine lv_if_eq (pc := 1867) (tgt := 1872) hx hb dL_law_1867 (by decide) (fun c1867 => ?_) (fun c1867 => ?_)
      · have h := h.1 c1867
        refine lv_goto (pc := 1872) (tgt := 3015) hx hb dL_law_1872 (by decide) ?_
        exact h _ _ _ hM (lv_sub hl [2, 3, 4, 5, 6, 7] rfl)
      · have h := h.2 c1867
        refine lv_iconst (pc := 1870) (v := 0) hx hb dL_law_1870 (by decide) ?_
        exact h.elim
  · have h := h.2 c1850
    refine lv_iconst (pc := 1853) (v := 0) hx hb dL_law_1853 (by decide) ?_
    exact h.elim
set_option maxHeartbeats 4000000 in
set_option maxRecDepth 100000 in
theorem law_case_26 {p : Program} {l : Launch} {e : Env} {s : State} {m : MethodId} {below : List Frame} {meth : Method} {c : Code} {Q : State → Prop} (hl0 : l.stackTraces = false) {G : GP} {b L : Nat} {xs : Nat → Int32} (C : g_C p s m #[.ref b] c code 9 RL G) (hX : va_X b L xs s s.heap) (hbl : b < s.heap.size) (hbA : ¬ g_A G b) (hL : L ≤ 3072) {i : Nat} (hi : i + 6 ≤ L) {σ : Sto} {x : XP} {H : Heap} {locs : List Loc} {ls : Array Slot} {cells slots : Nat} (hM : g_M G x σ s H locs) (hl : lv_has ls 9 [(0, .ref b), (1, .ref (g_ad G 60)), (2, .ref (g_ad G 87)), (3, .ref (g_ad G 106)), (4, .ref (g_ad G 107)), (5, .int (nI i))]) (hroom : cells + 8 ≤ room_1.cells ∧ slots + 48 ≤ room_1.slots) (h : DL_26 xs i σ x (fun σ x => ∀ (H : Heap) (locs : List Loc) (ls : Array Slot), g_M G x σ s H locs → lv_has ls 9 [(0, .ref b), (1, .ref (g_ad G 60)), (2, .ref (g_ad G 87)), (3, .ref (g_ad G 106)), (4, .ref (g_ad G 107)), (5, .int (nI i))] → W p l e room_1 s m #[.ref b] below meth c H locs (cells + 8) (slots + 48) Q (F0 m 3015 ls []))) : W p l e room_1 s m #[.ref b] below meth c H locs cells slots Q (F0 m 1875 ls []) := by
  unfold DL_26 at h
  have hx := C.1
  have hb := C.2.1
  refine lv_aload_n (pc := 1875) hx hb dL_law_1875 rfl (lv_at hl 1 rfl) ?_
  refine lv_aload_n (pc := 1876) hx hb dL_law_1876 rfl (lv_at hl 0 rfl) ?_
  refine lv_iload (pc := 1877) hx hb dL_law_1877 (lv_at hl 5 rfl) ?_
  refine lv_iconst (pc := 1879) (v := 1) hx hb dL_law_1879 (by decide) ?_
  refine lv_iadd (pc := 1880) hx hb dL_law_1880 ?_
  refine g_scr (pc := 1881) (k := i + 1) C hX hbl hbA hM (sc_in1 hi hL) (sc_ix1 hi hL) dL_law_1881 ?_
  refine lv_aload_n (pc := 1882) hx hb dL_law_1882 rfl (lv_at hl 3 rfl) ?_
  refine g_cSw (pc := 1883) C hM hl.1 yw_L_policyDecision q4_116 (w_L_policyDecision l hl0 G (xs (i + 1)) σ x _ h) rfl rfl ⟨⟨Nat.le_of_ble_eq_true rfl, Nat.le_of_ble_eq_true rfl⟩, Nat.le_trans (Nat.add_le_add_left (by decide) _) hroom.1, Nat.le_trans (Nat.add_le_add_left (by decide) _) hroom.2⟩ (Nat.le_of_ble_eq_true rfl) dL_law_1883 (fun r1883 u1883 H locs h hM => ?_)
  refine W.widen (k := cells + 8) (n := slots + 48) (Nat.add_le_add_left (by decide) _) (Nat.add_le_add_left (by decide) _) ?_
  refine lv_istore (pc := 1886) (lv' := [(6, .int r1883), (0, .ref b), (1, .ref (g_ad G 60)), (2, .ref (g_ad G 87)), (3, .ref (g_ad G 106)), (4, .ref (g_ad G 107)), (5, .int (nI i))]) hx hb dL_law_1886 hl (by decide) rfl (fun ls hl => ?_)
  refine lv_aload_n (pc := 1888) hx hb dL_law_1888 rfl (lv_at hl 3 rfl) ?_
  refine lv_aload_n (pc := 1889) hx hb dL_law_1889 rfl (lv_at hl 1 rfl) ?_
  refine lv_iload (pc := 1890) hx hb dL_law_1890 (lv_at hl 6 rfl) ?_
  refine lv_iconst (pc := 1892) (v := 1) hx hb dL_law_1892 (by decide) ?_
  refine lv_iadd (pc := 1893) hx hb dL_law_1893 ?_
  refine g_scr (pc := 1894) (k := i + 1) C hX hbl hbA hM (sc_in1 hi hL) (sc_ix1 hi hL) dL_law_1894 ?_
  refine g_cVi (pc := 1895) C hM hl.1 yv_X12_policyDecision q7_88 (by decide) ce_87 rfl (w_X12_policyDecision l G u1883.2 (xs (i + 1)) u1883.1 _ h) rfl rfl ⟨⟨Nat.le_of_ble_eq_true rfl, Nat.le_of_ble_eq_true rfl⟩, hroom.1, hroom.2⟩ (Nat.le_of_ble_eq_true rfl) dL_law_1895 (fun r1895 s1895 H locs h hM => ?_)
  refine lv_istore (pc := 1898) (lv' := [(7, .int r1895), (6, .int r1883), (0, .ref b), (1, .ref (g_ad G 60)), (2, .ref (g_ad G 87)), (3, .ref (g_ad G 106)), (4, .ref (g_ad G 107)), (5, .int (nI i))]) hx hb dL_law_1898 hl (by decide) rfl (fun ls hl => ?_)
  refine lv_aload_n (pc := 1900) hx hb dL_law_1900 rfl (lv_at hl 4 rfl) ?_
  refine g_cVi (pc := 1901) C hM hl.1 yv_X12_thrown q6_81 (by decide) ce_87 rfl (w_X12_thrown l G u1883.2 s1895 _ h) rfl rfl ⟨⟨Nat.le_of_ble_eq_true rfl, Nat.le_of_ble_eq_true rfl⟩, hroom.1, hroom.2⟩ (Nat.le_of_ble_eq_true rfl) dL_law_1901 (fun r1901 s1901 H locs h hM => ?_)
  refine lv_iload (pc := 1904) hx hb dL_law_1904 (lv_at hl 1 rfl) ?_
  refine lv_icmp_eq (pc := 1906) (tgt := 1911) hx hb dL_law_1906 (by decide) (fun c1906 => ?_) (fun c1906 => ?_)
  · have h := h.1 c1906
    refine lv_iload (pc := 1911) hx hb dL_law_1911 (lv_at hl 1 rfl) ?_
    refine lv_if_ne (pc := 1913) (tgt := 1928) hx hb dL_law_1913 (by decide) (fun c1913 => ?_) (fun c1913 => ?_)
    · have h := h.2 c1913
      refine lv_goto (pc := 1928) (tgt := 3015) hx hb dL_law_1928 (by decide) ?_
      exact h _ _ _ hM (lv_sub hl [2, 3, 4, 5, 6, 7] rfl)
    · have h := h.1 c1913
      refine lv_aload_n (pc := 1916) hx hb dL_law_1916 rfl (lv_at hl 5 rfl) ?_
      refine lv_iconst (pc := 1917) (v := 0) hx hb dL_law_1917 (by decide) ?_
      refine g_lald (pc := 1918) C hM dL_law_1918 ?_
      refine lv_iload (pc := 1919) hx hb dL_law_1919 (lv_at hl 0 rfl) ?_
      refine lv_i2l (pc := 1921) (v := (r1895).toInt64) hx hb dL_law_1921 rfl ?_
      refine W.lcmp (pc := 1922) hx hb dL_law_1922 ?_
      refine lv_if_eq (pc := 1923) (tgt := 1928) hx hb dL_law_1923 (by decide) (fun c1923 => ?_) (fun c1923 => ?_)
      · have h := h.1 c1923
        refine lv_goto (pc := 1928) (tgt := 3015) hx hb dL_law_1928 (by decide) ?_
        exact h _ _ _ hM (lv_sub hl [2, 3, 4, 5, 6, 7] rfl)
      · have h := h.2 c1923
        refine lv_iconst (pc := 1926) (v := 0) hx hb dL_law_1926 (by decide) ?_
        exact h.elim
  · have h := h.2 c1906
    refine lv_iconst (pc := 1909) (v := 0) hx hb dL_law_1909 (by decide) ?_
    exact h.elim
set_option maxHeartbeats 4000000 in
set_option maxRecDepth 100000 in
theorem law_case_27 {p : Program} {l : Launch} {e : Env} {s : State} {m : MethodId} {below : List Frame} {meth : Method} {c : Code} {Q : State → Prop} (hl0 : l.stackTraces = false) {G : GP} {b L : Nat} {xs : Nat → Int32} (C : g_C p s m #[.ref b] c code 9 RL G) (hX : va_X b L xs s s.heap) (hbl : b < s.heap.size) (hbA : ¬ g_A G b) (hL : L ≤ 3072) {i : Nat} (hi : i + 6 ≤ L) {σ : Sto} {x : XP} {H : Heap} {locs : List Loc} {ls : Array Slot} {cells slots : Nat} (hM : g_M G x σ s H locs) (hl : lv_has ls 9 [(0, .ref b), (1, .ref (g_ad G 60)), (2, .ref (g_ad G 87)), (3, .ref (g_ad G 106)), (4, .ref (g_ad G 107)), (5, .int (nI i))]) (hroom : cells + 8 ≤ room_1.cells ∧ slots + 48 ≤ room_1.slots) (h : DL_27 xs i σ x (fun σ x => ∀ (H : Heap) (locs : List Loc) (ls : Array Slot), g_M G x σ s H locs → lv_has ls 9 [(0, .ref b), (1, .ref (g_ad G 60)), (2, .ref (g_ad G 87)), (3, .ref (g_ad G 106)), (4, .ref (g_ad G 107)), (5, .int (nI i))] → W p l e room_1 s m #[.ref b] below meth c H locs (cells + 8) (slots + 48) Q (F0 m 3015 ls []))) : W p l e room_1 s m #[.ref b] below meth c H locs cells slots Q (F0 m 1931 ls []) := by
  unfold DL_27 at h
  have hx := C.1
  have hb := C.2.1
  refine lv_aload_n (pc := 1931) hx hb dL_law_1931 rfl (lv_at hl 1 rfl) ?_
  refine lv_aload_n (pc := 1932) hx hb dL_law_1932 rfl (lv_at hl 3 rfl) ?_
  refine g_cSw (pc := 1933) C hM hl.1 yw_L_possible q4_124 (w_L_possible l hl0 G σ x _ h) rfl rfl ⟨⟨Nat.le_of_ble_eq_true rfl, Nat.le_of_ble_eq_true rfl⟩, Nat.le_trans (Nat.add_le_add_left (by decide) _) hroom.1, Nat.le_trans (Nat.add_le_add_left (by decide) _) hroom.2⟩ (Nat.le_of_ble_eq_true rfl) dL_law_1933 (fun r1933 u1933 H locs h hM => ?_)
  refine W.widen (k := cells + 8) (n := slots + 48) (Nat.add_le_add_left (by decide) _) (Nat.add_le_add_left (by decide) _) ?_
  refine lv_istore (pc := 1936) (lv' := [(6, .int r1933), (0, .ref b), (1, .ref (g_ad G 60)), (2, .ref (g_ad G 87)), (3, .ref (g_ad G 106)), (4, .ref (g_ad G 107)), (5, .int (nI i))]) hx hb dL_law_1936 hl (by decide) rfl (fun ls hl => ?_)
  refine lv_aload_n (pc := 1938) hx hb dL_law_1938 rfl (lv_at hl 3 rfl) ?_
  refine g_cVi (pc := 1939) C hM hl.1 yv_X12_possible q7_92 (by decide) ce_87 rfl (w_X12_possible l G u1933.2 u1933.1 _ h) rfl rfl ⟨⟨Nat.le_of_ble_eq_true rfl, Nat.le_of_ble_eq_true rfl⟩, hroom.1, hroom.2⟩ (Nat.le_of_ble_eq_true rfl) dL_law_1939 (fun r1939 s1939 H locs h hM => ?_)
  refine lv_istore (pc := 1942) (lv' := [(7, .int r1939), (6, .int r1933), (0, .ref b), (1, .ref (g_ad G 60)), (2, .ref (g_ad G 87)), (3, .ref (g_ad G 106)), (4, .ref (g_ad G 107)), (5, .int (nI i))]) hx hb dL_law_1942 hl (by decide) rfl (fun ls hl => ?_)
  refine lv_aload_n (pc := 1944) hx hb dL_law_1944 rfl (lv_at hl 4 rfl) ?_
  refine g_cVi (pc := 1945) C hM hl.1 yv_X12_thrown q6_81 (by decide) ce_87 rfl (w_X12_thrown l G u1933.2 s1939 _ h) rfl rfl ⟨⟨Nat.le_of_ble_eq_true rfl, Nat.le_of_ble_eq_true rfl⟩, hroom.1, hroom.2⟩ (Nat.le_of_ble_eq_true rfl) dL_law_1945 (fun r1945 s1945 H locs h hM => ?_)
  refine lv_iload (pc := 1948) hx hb dL_law_1948 (lv_at hl 1 rfl) ?_
  refine lv_icmp_eq (pc := 1950) (tgt := 1955) hx hb dL_law_1950 (by decide) (fun c1950 => ?_) (fun c1950 => ?_)
  · have h := h.1 c1950
    refine lv_iload (pc := 1955) hx hb dL_law_1955 (lv_at hl 1 rfl) ?_
    refine lv_if_ne (pc := 1957) (tgt := 1972) hx hb dL_law_1957 (by decide) (fun c1957 => ?_) (fun c1957 => ?_)
    · have h := h.2 c1957
      refine lv_goto (pc := 1972) (tgt := 3015) hx hb dL_law_1972 (by decide) ?_
      exact h _ _ _ hM (lv_sub hl [2, 3, 4, 5, 6, 7] rfl)
    · have h := h.1 c1957
      refine lv_aload_n (pc := 1960) hx hb dL_law_1960 rfl (lv_at hl 5 rfl) ?_
      refine lv_iconst (pc := 1961) (v := 0) hx hb dL_law_1961 (by decide) ?_
      refine g_lald (pc := 1962) C hM dL_law_1962 ?_
      refine lv_iload (pc := 1963) hx hb dL_law_1963 (lv_at hl 0 rfl) ?_
      refine lv_i2l (pc := 1965) (v := (r1939).toInt64) hx hb dL_law_1965 rfl ?_
      refine W.lcmp (pc := 1966) hx hb dL_law_1966 ?_
      refine lv_if_eq (pc := 1967) (tgt := 1972) hx hb dL_law_1967 (by decide) (fun c1967 => ?_) (fun c1967 => ?_)
      · have h := h.1 c1967
        refine lv_goto (pc := 1972) (tgt := 3015) hx hb dL_law_1972 (by decide) ?_
        exact h _ _ _ hM (lv_sub hl [2, 3, 4, 5, 6, 7] rfl)
      · have h := h.2 c1967
        refine lv_iconst (pc := 1970) (v := 0) hx hb dL_law_1970 (by decide) ?_
        exact h.elim
  · have h := h.2 c1950
    refine lv_iconst (pc := 1953) (v := 0) hx hb dL_law_1953 (by decide) ?_
    exact h.elim
set_option maxHeartbeats 4000000 in
set_option maxRecDepth 100000 in
theorem law_case_28 {p : Program} {l : Launch} {e : Env} {s : State} {m : MethodId} {below : List Frame} {meth : Method} {c : Code} {Q : State → Prop} (hl0 : l.stackTraces = false) {G : GP} {b L : Nat} {xs : Nat → Int32} (C : g_C p s m #[.ref b] c code 9 RL G) (hX : va_X b L xs s s.heap) (hbl : b < s.heap.size) (hbA : ¬ g_A G b) (hL : L ≤ 3072) {i : Nat} (hi : i + 6 ≤ L) {σ : Sto} {x : XP} {H : Heap} {locs : List Loc} {ls : Array Slot} {cells slots : Nat} (hM : g_M G x σ s H locs) (hl : lv_has ls 9 [(0, .ref b), (1, .ref (g_ad G 60)), (2, .ref (g_ad G 87)), (3, .ref (g_ad G 106)), (4, .ref (g_ad G 107)), (5, .int (nI i))]) (hroom : cells + 8 ≤ room_1.cells ∧ slots + 48 ≤ room_1.slots) (h : DL_28 xs i σ x (fun σ x => ∀ (H : Heap) (locs : List Loc) (ls : Array Slot), g_M G x σ s H locs → lv_has ls 9 [(0, .ref b), (1, .ref (g_ad G 60)), (2, .ref (g_ad G 87)), (3, .ref (g_ad G 106)), (4, .ref (g_ad G 107)), (5, .int (nI i))] → W p l e room_1 s m #[.ref b] below meth c H locs (cells + 8) (slots + 48) Q (F0 m 3015 ls []))) : W p l e room_1 s m #[.ref b] below meth c H locs cells slots Q (F0 m 1975 ls []) := by
  unfold DL_28 at h
  have hx := C.1
  have hb := C.2.1
  refine lv_aload_n (pc := 1975) hx hb dL_law_1975 rfl (lv_at hl 1 rfl) ?_
  refine lv_aload_n (pc := 1976) hx hb dL_law_1976 rfl (lv_at hl 0 rfl) ?_
  refine lv_iload (pc := 1977) hx hb dL_law_1977 (lv_at hl 5 rfl) ?_
  refine lv_iconst (pc := 1979) (v := 1) hx hb dL_law_1979 (by decide) ?_
  refine lv_iadd (pc := 1980) hx hb dL_law_1980 ?_
  refine g_scr (pc := 1981) (k := i + 1) C hX hbl hbA hM (sc_in1 hi hL) (sc_ix1 hi hL) dL_law_1981 ?_
  refine lv_aload_n (pc := 1982) hx hb dL_law_1982 rfl (lv_at hl 3 rfl) ?_
  refine g_cSw (pc := 1983) C hM hl.1 yw_L_completions q4_163 (w_L_completions l hl0 G (xs (i + 1)) σ x _ h) rfl rfl ⟨⟨Nat.le_of_ble_eq_true rfl, Nat.le_of_ble_eq_true rfl⟩, Nat.le_trans (Nat.add_le_add_left (by decide) _) hroom.1, Nat.le_trans (Nat.add_le_add_left (by decide) _) hroom.2⟩ (Nat.le_of_ble_eq_true rfl) dL_law_1983 (fun r1983 u1983 H locs h hM => ?_)
  refine W.widen (k := cells + 8) (n := slots + 48) (Nat.add_le_add_left (by decide) _) (Nat.add_le_add_left (by decide) _) ?_
  refine lv_istore (pc := 1986) (lv' := [(6, .int r1983), (0, .ref b), (1, .ref (g_ad G 60)), (2, .ref (g_ad G 87)), (3, .ref (g_ad G 106)), (4, .ref (g_ad G 107)), (5, .int (nI i))]) hx hb dL_law_1986 hl (by decide) rfl (fun ls hl => ?_)
  refine lv_aload_n (pc := 1988) hx hb dL_law_1988 rfl (lv_at hl 3 rfl) ?_
  refine lv_aload_n (pc := 1989) hx hb dL_law_1989 rfl (lv_at hl 1 rfl) ?_
  refine lv_iload (pc := 1990) hx hb dL_law_1990 (lv_at hl 6 rfl) ?_
  refine lv_iconst (pc := 1992) (v := 1) hx hb dL_law_1992 (by decide) ?_
  refine lv_iadd (pc := 1993) hx hb dL_law_1993 ?_
  refine g_scr (pc := 1994) (k := i + 1) C hX hbl hbA hM (sc_in1 hi hL) (sc_ix1 hi hL) dL_law_1994 ?_
  refine g_cVi (pc := 1995) C hM hl.1 yv_X12_completions q7_107 (by decide) ce_87 rfl (w_X12_completions l G u1983.2 (xs (i + 1)) u1983.1 _ h) rfl rfl ⟨⟨Nat.le_of_ble_eq_true rfl, Nat.le_of_ble_eq_true rfl⟩, hroom.1, hroom.2⟩ (Nat.le_of_ble_eq_true rfl) dL_law_1995 (fun r1995 s1995 H locs h hM => ?_)
  refine lv_istore (pc := 1998) (lv' := [(7, .int r1995), (6, .int r1983), (0, .ref b), (1, .ref (g_ad G 60)), (2, .ref (g_ad G 87)), (3, .ref (g_ad G 106)), (4, .ref (g_ad G 107)), (5, .int (nI i))]) hx hb dL_law_1998 hl (by decide) rfl (fun ls hl => ?_)
  refine lv_aload_n (pc := 2000) hx hb dL_law_2000 rfl (lv_at hl 4 rfl) ?_
  refine g_cVi (pc := 2001) C hM hl.1 yv_X12_thrown q6_81 (by decide) ce_87 rfl (w_X12_thrown l G u1983.2 s1995 _ h) rfl rfl ⟨⟨Nat.le_of_ble_eq_true rfl, Nat.le_of_ble_eq_true rfl⟩, hroom.1, hroom.2⟩ (Nat.le_of_ble_eq_true rfl) dL_law_2001 (fun r2001 s2001 H locs h hM => ?_)
  refine lv_iload (pc := 2004) hx hb dL_law_2004 (lv_at hl 1 rfl) ?_
  refine lv_icmp_eq (pc := 2006) (tgt := 2011) hx hb dL_law_2006 (by decide) (fun c2006 => ?_) (fun c2006 => ?_)
  · have h := h.1 c2006
    refine lv_iload (pc := 2011) hx hb dL_law_2011 (lv_at hl 1 rfl) ?_
    refine lv_if_ne (pc := 2013) (tgt := 2028) hx hb dL_law_2013 (by decide) (fun c2013 => ?_) (fun c2013 => ?_)
    · have h := h.2 c2013
      refine lv_goto (pc := 2028) (tgt := 3015) hx hb dL_law_2028 (by decide) ?_
      exact h _ _ _ hM (lv_sub hl [2, 3, 4, 5, 6, 7] rfl)
    · have h := h.1 c2013
      refine lv_aload_n (pc := 2016) hx hb dL_law_2016 rfl (lv_at hl 5 rfl) ?_
      refine lv_iconst (pc := 2017) (v := 0) hx hb dL_law_2017 (by decide) ?_
      refine g_lald (pc := 2018) C hM dL_law_2018 ?_
      refine lv_iload (pc := 2019) hx hb dL_law_2019 (lv_at hl 0 rfl) ?_
      refine lv_i2l (pc := 2021) (v := (r1995).toInt64) hx hb dL_law_2021 rfl ?_
      refine W.lcmp (pc := 2022) hx hb dL_law_2022 ?_
      refine lv_if_eq (pc := 2023) (tgt := 2028) hx hb dL_law_2023 (by decide) (fun c2023 => ?_) (fun c2023 => ?_)
      · have h := h.1 c2023
        refine lv_goto (pc := 2028) (tgt := 3015) hx hb dL_law_2028 (by decide) ?_
        exact h _ _ _ hM (lv_sub hl [2, 3, 4, 5, 6, 7] rfl)
      · have h := h.2 c2023
        refine lv_iconst (pc := 2026) (v := 0) hx hb dL_law_2026 (by decide) ?_
        exact h.elim
  · have h := h.2 c2006
    refine lv_iconst (pc := 2009) (v := 0) hx hb dL_law_2009 (by decide) ?_
    exact h.elim
set_option maxHeartbeats 4000000 in
set_option maxRecDepth 100000 in
theorem law_case_29 {p : Program} {l : Launch} {e : Env} {s : State} {m : MethodId} {below : List Frame} {meth : Method} {c : Code} {Q : State → Prop} (hl0 : l.stackTraces = false) {G : GP} {b L : Nat} {xs : Nat → Int32} (C : g_C p s m #[.ref b] c code 9 RL G) (hX : va_X b L xs s s.heap) (hbl : b < s.heap.size) (hbA : ¬ g_A G b) (hL : L ≤ 3072) {i : Nat} (hi : i + 6 ≤ L) {σ : Sto} {x : XP} {H : Heap} {locs : List Loc} {ls : Array Slot} {cells slots : Nat} (hM : g_M G x σ s H locs) (hl : lv_has ls 9 [(0, .ref b), (1, .ref (g_ad G 60)), (2, .ref (g_ad G 87)), (3, .ref (g_ad G 106)), (4, .ref (g_ad G 107)), (5, .int (nI i))]) (hroom : cells + 8 ≤ room_1.cells ∧ slots + 48 ≤ room_1.slots) (h : DL_29 xs i σ x (fun σ x => ∀ (H : Heap) (locs : List Loc) (ls : Array Slot), g_M G x σ s H locs → lv_has ls 9 [(0, .ref b), (1, .ref (g_ad G 60)), (2, .ref (g_ad G 87)), (3, .ref (g_ad G 106)), (4, .ref (g_ad G 107)), (5, .int (nI i))] → W p l e room_1 s m #[.ref b] below meth c H locs (cells + 8) (slots + 48) Q (F0 m 3015 ls []))) : W p l e room_1 s m #[.ref b] below meth c H locs cells slots Q (F0 m 2031 ls []) := by
  unfold DL_29 at h
  have hx := C.1
  have hb := C.2.1
  refine lv_aload_n (pc := 2031) hx hb dL_law_2031 rfl (lv_at hl 1 rfl) ?_
  refine lv_aload_n (pc := 2032) hx hb dL_law_2032 rfl (lv_at hl 0 rfl) ?_
  refine lv_iload (pc := 2033) hx hb dL_law_2033 (lv_at hl 5 rfl) ?_
  refine lv_iconst (pc := 2035) (v := 1) hx hb dL_law_2035 (by decide) ?_
  refine lv_iadd (pc := 2036) hx hb dL_law_2036 ?_
  refine g_scr (pc := 2037) (k := i + 1) C hX hbl hbA hM (sc_in1 hi hL) (sc_ix1 hi hL) dL_law_2037 ?_
  refine lv_aload_n (pc := 2038) hx hb dL_law_2038 rfl (lv_at hl 0 rfl) ?_
  refine lv_iload (pc := 2039) hx hb dL_law_2039 (lv_at hl 5 rfl) ?_
  refine lv_iconst (pc := 2041) (v := 2) hx hb dL_law_2041 (by decide) ?_
  refine lv_iadd (pc := 2042) hx hb dL_law_2042 ?_
  refine g_scr (pc := 2043) (k := i + 2) C hX hbl hbA hM (sc_in2 hi hL) (sc_ix2 hi hL) dL_law_2043 ?_
  refine lv_aload_n (pc := 2044) hx hb dL_law_2044 rfl (lv_at hl 3 rfl) ?_
  refine g_cSw (pc := 2045) C hM hl.1 yw_L_valuesFor q4_170 (w_L_valuesFor l hl0 G (xs (i + 1)) (xs (i + 2)) σ x _ h) rfl rfl ⟨⟨Nat.le_of_ble_eq_true rfl, Nat.le_of_ble_eq_true rfl⟩, Nat.le_trans (Nat.add_le_add_left (by decide) _) hroom.1, Nat.le_trans (Nat.add_le_add_left (by decide) _) hroom.2⟩ (Nat.le_of_ble_eq_true rfl) dL_law_2045 (fun r2045 u2045 H locs h hM => ?_)
  refine W.widen (k := cells + 8) (n := slots + 48) (Nat.add_le_add_left (by decide) _) (Nat.add_le_add_left (by decide) _) ?_
  refine lv_istore (pc := 2048) (lv' := [(6, .int r2045), (0, .ref b), (1, .ref (g_ad G 60)), (2, .ref (g_ad G 87)), (3, .ref (g_ad G 106)), (4, .ref (g_ad G 107)), (5, .int (nI i))]) hx hb dL_law_2048 hl (by decide) rfl (fun ls hl => ?_)
  refine lv_aload_n (pc := 2050) hx hb dL_law_2050 rfl (lv_at hl 3 rfl) ?_
  refine lv_aload_n (pc := 2051) hx hb dL_law_2051 rfl (lv_at hl 1 rfl) ?_
  refine lv_iload (pc := 2052) hx hb dL_law_2052 (lv_at hl 6 rfl) ?_
  refine lv_iconst (pc := 2054) (v := 1) hx hb dL_law_2054 (by decide) ?_
  refine lv_iadd (pc := 2055) hx hb dL_law_2055 ?_
  refine g_scr (pc := 2056) (k := i + 1) C hX hbl hbA hM (sc_in1 hi hL) (sc_ix1 hi hL) dL_law_2056 ?_
  refine lv_aload_n (pc := 2057) hx hb dL_law_2057 rfl (lv_at hl 1 rfl) ?_
  refine lv_iload (pc := 2058) hx hb dL_law_2058 (lv_at hl 6 rfl) ?_
  refine lv_iconst (pc := 2060) (v := 2) hx hb dL_law_2060 (by decide) ?_
  refine lv_iadd (pc := 2061) hx hb dL_law_2061 ?_
  refine g_scr (pc := 2062) (k := i + 2) C hX hbl hbA hM (sc_in2 hi hL) (sc_ix2 hi hL) dL_law_2062 ?_
  refine g_cVi (pc := 2063) C hM hl.1 yv_X12_valuesFor q7_111 (by decide) ce_87 rfl (w_X12_valuesFor l G u2045.2 (xs (i + 1)) (xs (i + 2)) u2045.1 _ h) rfl rfl ⟨⟨Nat.le_of_ble_eq_true rfl, Nat.le_of_ble_eq_true rfl⟩, hroom.1, hroom.2⟩ (Nat.le_of_ble_eq_true rfl) dL_law_2063 (fun r2063 s2063 H locs h hM => ?_)
  refine lv_istore (pc := 2066) (lv' := [(7, .int r2063), (6, .int r2045), (0, .ref b), (1, .ref (g_ad G 60)), (2, .ref (g_ad G 87)), (3, .ref (g_ad G 106)), (4, .ref (g_ad G 107)), (5, .int (nI i))]) hx hb dL_law_2066 hl (by decide) rfl (fun ls hl => ?_)
  refine lv_aload_n (pc := 2068) hx hb dL_law_2068 rfl (lv_at hl 4 rfl) ?_
  refine g_cVi (pc := 2069) C hM hl.1 yv_X12_thrown q6_81 (by decide) ce_87 rfl (w_X12_thrown l G u2045.2 s2063 _ h) rfl rfl ⟨⟨Nat.le_of_ble_eq_true rfl, Nat.le_of_ble_eq_true rfl⟩, hroom.1, hroom.2⟩ (Nat.le_of_ble_eq_true rfl) dL_law_2069 (fun r2069 s2069 H locs h hM => ?_)
  refine lv_iload (pc := 2072) hx hb dL_law_2072 (lv_at hl 1 rfl) ?_
  refine lv_icmp_eq (pc := 2074) (tgt := 2079) hx hb dL_law_2074 (by decide) (fun c2074 => ?_) (fun c2074 => ?_)
  · have h := h.1 c2074
    refine lv_iload (pc := 2079) hx hb dL_law_2079 (lv_at hl 1 rfl) ?_
    refine lv_if_ne (pc := 2081) (tgt := 2096) hx hb dL_law_2081 (by decide) (fun c2081 => ?_) (fun c2081 => ?_)
    · have h := h.2 c2081
      refine lv_goto (pc := 2096) (tgt := 3015) hx hb dL_law_2096 (by decide) ?_
      exact h _ _ _ hM (lv_sub hl [2, 3, 4, 5, 6, 7] rfl)
    · have h := h.1 c2081
      refine lv_aload_n (pc := 2084) hx hb dL_law_2084 rfl (lv_at hl 5 rfl) ?_
      refine lv_iconst (pc := 2085) (v := 0) hx hb dL_law_2085 (by decide) ?_
      refine g_lald (pc := 2086) C hM dL_law_2086 ?_
      refine lv_iload (pc := 2087) hx hb dL_law_2087 (lv_at hl 0 rfl) ?_
      refine lv_i2l (pc := 2089) (v := (r2063).toInt64) hx hb dL_law_2089 rfl ?_
      refine W.lcmp (pc := 2090) hx hb dL_law_2090 ?_
      refine lv_if_eq (pc := 2091) (tgt := 2096) hx hb dL_law_2091 (by decide) (fun c2091 => ?_) (fun c2091 => ?_)
      · have h := h.1 c2091
        refine lv_goto (pc := 2096) (tgt := 3015) hx hb dL_law_2096 (by decide) ?_
        exact h _ _ _ hM (lv_sub hl [2, 3, 4, 5, 6, 7] rfl)
      · have h := h.2 c2091
        refine lv_iconst (pc := 2094) (v := 0) hx hb dL_law_2094 (by decide) ?_
        exact h.elim
  · have h := h.2 c2074
    refine lv_iconst (pc := 2077) (v := 0) hx hb dL_law_2077 (by decide) ?_
    exact h.elim
set_option maxHeartbeats 4000000 in
set_option maxRecDepth 100000 in
theorem law_case_30 {p : Program} {l : Launch} {e : Env} {s : State} {m : MethodId} {below : List Frame} {meth : Method} {c : Code} {Q : State → Prop} (hl0 : l.stackTraces = false) {G : GP} {b L : Nat} {xs : Nat → Int32} (C : g_C p s m #[.ref b] c code 9 RL G) (hX : va_X b L xs s s.heap) (hbl : b < s.heap.size) (hbA : ¬ g_A G b) (hL : L ≤ 3072) {i : Nat} (hi : i + 6 ≤ L) {σ : Sto} {x : XP} {H : Heap} {locs : List Loc} {ls : Array Slot} {cells slots : Nat} (hM : g_M G x σ s H locs) (hl : lv_has ls 9 [(0, .ref b), (1, .ref (g_ad G 60)), (2, .ref (g_ad G 87)), (3, .ref (g_ad G 106)), (4, .ref (g_ad G 107)), (5, .int (nI i))]) (hroom : cells + 8 ≤ room_1.cells ∧ slots + 48 ≤ room_1.slots) (h : DL_30 xs i σ x (fun σ x => ∀ (H : Heap) (locs : List Loc) (ls : Array Slot), g_M G x σ s H locs → lv_has ls 9 [(0, .ref b), (1, .ref (g_ad G 60)), (2, .ref (g_ad G 87)), (3, .ref (g_ad G 106)), (4, .ref (g_ad G 107)), (5, .int (nI i))] → W p l e room_1 s m #[.ref b] below meth c H locs (cells + 8) (slots + 48) Q (F0 m 3015 ls []))) : W p l e room_1 s m #[.ref b] below meth c H locs cells slots Q (F0 m 2099 ls []) := by
  unfold DL_30 at h
  have hx := C.1
  have hb := C.2.1
  refine lv_aload_n (pc := 2099) hx hb dL_law_2099 rfl (lv_at hl 1 rfl) ?_
  refine lv_aload_n (pc := 2100) hx hb dL_law_2100 rfl (lv_at hl 0 rfl) ?_
  refine lv_iload (pc := 2101) hx hb dL_law_2101 (lv_at hl 5 rfl) ?_
  refine lv_iconst (pc := 2103) (v := 1) hx hb dL_law_2103 (by decide) ?_
  refine lv_iadd (pc := 2104) hx hb dL_law_2104 ?_
  refine g_scr (pc := 2105) (k := i + 1) C hX hbl hbA hM (sc_in1 hi hL) (sc_ix1 hi hL) dL_law_2105 ?_
  refine lv_aload_n (pc := 2106) hx hb dL_law_2106 rfl (lv_at hl 3 rfl) ?_
  refine g_cSw (pc := 2107) C hM hl.1 yw_L_extent q4_178 (w_L_extent l hl0 G (xs (i + 1)) σ x _ h) rfl rfl ⟨⟨Nat.le_of_ble_eq_true rfl, Nat.le_of_ble_eq_true rfl⟩, Nat.le_trans (Nat.add_le_add_left (by decide) _) hroom.1, Nat.le_trans (Nat.add_le_add_left (by decide) _) hroom.2⟩ (Nat.le_of_ble_eq_true rfl) dL_law_2107 (fun r2107 u2107 H locs h hM => ?_)
  refine W.widen (k := cells + 8) (n := slots + 48) (Nat.add_le_add_left (by decide) _) (Nat.add_le_add_left (by decide) _) ?_
  refine lv_istore (pc := 2110) (lv' := [(6, .int r2107), (0, .ref b), (1, .ref (g_ad G 60)), (2, .ref (g_ad G 87)), (3, .ref (g_ad G 106)), (4, .ref (g_ad G 107)), (5, .int (nI i))]) hx hb dL_law_2110 hl (by decide) rfl (fun ls hl => ?_)
  refine lv_aload_n (pc := 2112) hx hb dL_law_2112 rfl (lv_at hl 3 rfl) ?_
  refine lv_aload_n (pc := 2113) hx hb dL_law_2113 rfl (lv_at hl 1 rfl) ?_
  refine lv_iload (pc := 2114) hx hb dL_law_2114 (lv_at hl 6 rfl) ?_
  refine lv_iconst (pc := 2116) (v := 1) hx hb dL_law_2116 (by decide) ?_
  refine lv_iadd (pc := 2117) hx hb dL_law_2117 ?_
  refine g_scr (pc := 2118) (k := i + 1) C hX hbl hbA hM (sc_in1 hi hL) (sc_ix1 hi hL) dL_law_2118 ?_
  refine g_cVi (pc := 2119) C hM hl.1 yv_X12_extent q7_115 (by decide) ce_87 rfl (w_X12_extent l G u2107.2 (xs (i + 1)) u2107.1 _ h) rfl rfl ⟨⟨Nat.le_of_ble_eq_true rfl, Nat.le_of_ble_eq_true rfl⟩, hroom.1, hroom.2⟩ (Nat.le_of_ble_eq_true rfl) dL_law_2119 (fun r2119 s2119 H locs h hM => ?_)
  refine lv_istore (pc := 2122) (lv' := [(7, .int r2119), (6, .int r2107), (0, .ref b), (1, .ref (g_ad G 60)), (2, .ref (g_ad G 87)), (3, .ref (g_ad G 106)), (4, .ref (g_ad G 107)), (5, .int (nI i))]) hx hb dL_law_2122 hl (by decide) rfl (fun ls hl => ?_)
  refine lv_aload_n (pc := 2124) hx hb dL_law_2124 rfl (lv_at hl 4 rfl) ?_
  refine g_cVi (pc := 2125) C hM hl.1 yv_X12_thrown q6_81 (by decide) ce_87 rfl (w_X12_thrown l G u2107.2 s2119 _ h) rfl rfl ⟨⟨Nat.le_of_ble_eq_true rfl, Nat.le_of_ble_eq_true rfl⟩, hroom.1, hroom.2⟩ (Nat.le_of_ble_eq_true rfl) dL_law_2125 (fun r2125 s2125 H locs h hM => ?_)
  refine lv_iload (pc := 2128) hx hb dL_law_2128 (lv_at hl 1 rfl) ?_
  refine lv_icmp_eq (pc := 2130) (tgt := 2135) hx hb dL_law_2130 (by decide) (fun c2130 => ?_) (fun c2130 => ?_)
  · have h := h.1 c2130
    refine lv_iload (pc := 2135) hx hb dL_law_2135 (lv_at hl 1 rfl) ?_
    refine lv_if_ne (pc := 2137) (tgt := 2152) hx hb dL_law_2137 (by decide) (fun c2137 => ?_) (fun c2137 => ?_)
    · have h := h.2 c2137
      refine lv_goto (pc := 2152) (tgt := 3015) hx hb dL_law_2152 (by decide) ?_
      exact h _ _ _ hM (lv_sub hl [2, 3, 4, 5, 6, 7] rfl)
    · have h := h.1 c2137
      refine lv_aload_n (pc := 2140) hx hb dL_law_2140 rfl (lv_at hl 5 rfl) ?_
      refine lv_iconst (pc := 2141) (v := 0) hx hb dL_law_2141 (by decide) ?_
      refine g_lald (pc := 2142) C hM dL_law_2142 ?_
      refine lv_iload (pc := 2143) hx hb dL_law_2143 (lv_at hl 0 rfl) ?_
      refine lv_i2l (pc := 2145) (v := (r2119).toInt64) hx hb dL_law_2145 rfl ?_
      refine W.lcmp (pc := 2146) hx hb dL_law_2146 ?_
      refine lv_if_eq (pc := 2147) (tgt := 2152) hx hb dL_law_2147 (by decide) (fun c2147 => ?_) (fun c2147 => ?_)
      · have h := h.1 c2147
        refine lv_goto (pc := 2152) (tgt := 3015) hx hb dL_law_2152 (by decide) ?_
        exact h _ _ _ hM (lv_sub hl [2, 3, 4, 5, 6, 7] rfl)
      · have h := h.2 c2147
        refine lv_iconst (pc := 2150) (v := 0) hx hb dL_law_2150 (by decide) ?_
        exact h.elim
  · have h := h.2 c2130
    refine lv_iconst (pc := 2133) (v := 0) hx hb dL_law_2133 (by decide) ?_
    exact h.elim
set_option maxHeartbeats 4000000 in
set_option maxRecDepth 100000 in
theorem law_case_31 {p : Program} {l : Launch} {e : Env} {s : State} {m : MethodId} {below : List Frame} {meth : Method} {c : Code} {Q : State → Prop} (hl0 : l.stackTraces = false) {G : GP} {b L : Nat} {xs : Nat → Int32} (C : g_C p s m #[.ref b] c code 9 RL G) (hX : va_X b L xs s s.heap) (hbl : b < s.heap.size) (hbA : ¬ g_A G b) (hL : L ≤ 3072) {i : Nat} (hi : i + 6 ≤ L) {σ : Sto} {x : XP} {H : Heap} {locs : List Loc} {ls : Array Slot} {cells slots : Nat} (hM : g_M G x σ s H locs) (hl : lv_has ls 9 [(0, .ref b), (1, .ref (g_ad G 60)), (2, .ref (g_ad G 87)), (3, .ref (g_ad G 106)), (4, .ref (g_ad G 107)), (5, .int (nI i))]) (hroom : cells + 8 ≤ room_1.cells ∧ slots + 48 ≤ room_1.slots) (h : DL_31 xs i σ x (fun σ x => ∀ (H : Heap) (locs : List Loc) (ls : Array Slot), g_M G x σ s H locs → lv_has ls 9 [(0, .ref b), (1, .ref (g_ad G 60)), (2, .ref (g_ad G 87)), (3, .ref (g_ad G 106)), (4, .ref (g_ad G 107)), (5, .int (nI i))] → W p l e room_1 s m #[.ref b] below meth c H locs (cells + 8) (slots + 48) Q (F0 m 3015 ls []))) : W p l e room_1 s m #[.ref b] below meth c H locs cells slots Q (F0 m 2155 ls []) := by
  unfold DL_31 at h
  have hx := C.1
  have hb := C.2.1
  refine lv_aload_n (pc := 2155) hx hb dL_law_2155 rfl (lv_at hl 1 rfl) ?_
  refine lv_aload_n (pc := 2156) hx hb dL_law_2156 rfl (lv_at hl 0 rfl) ?_
  refine lv_iload (pc := 2157) hx hb dL_law_2157 (lv_at hl 5 rfl) ?_
  refine lv_iconst (pc := 2159) (v := 1) hx hb dL_law_2159 (by decide) ?_
  refine lv_iadd (pc := 2160) hx hb dL_law_2160 ?_
  refine g_scr (pc := 2161) (k := i + 1) C hX hbl hbA hM (sc_in1 hi hL) (sc_ix1 hi hL) dL_law_2161 ?_
  refine lv_aload_n (pc := 2162) hx hb dL_law_2162 rfl (lv_at hl 0 rfl) ?_
  refine lv_iload (pc := 2163) hx hb dL_law_2163 (lv_at hl 5 rfl) ?_
  refine lv_iconst (pc := 2165) (v := 2) hx hb dL_law_2165 (by decide) ?_
  refine lv_iadd (pc := 2166) hx hb dL_law_2166 ?_
  refine g_scr (pc := 2167) (k := i + 2) C hX hbl hbA hM (sc_in2 hi hL) (sc_ix2 hi hL) dL_law_2167 ?_
  refine lv_aload_n (pc := 2168) hx hb dL_law_2168 rfl (lv_at hl 3 rfl) ?_
  refine g_cSw (pc := 2169) C hM hl.1 yw_L_overlap q4_190 (w_L_overlap l hl0 G (xs (i + 1)) (xs (i + 2)) σ x _ h) rfl rfl ⟨⟨Nat.le_of_ble_eq_true rfl, Nat.le_of_ble_eq_true rfl⟩, Nat.le_trans (Nat.add_le_add_left (by decide) _) hroom.1, Nat.le_trans (Nat.add_le_add_left (by decide) _) hroom.2⟩ (Nat.le_of_ble_eq_true rfl) dL_law_2169 (fun r2169 u2169 H locs h hM => ?_)
  refine W.widen (k := cells + 8) (n := slots + 48) (Nat.add_le_add_left (by decide) _) (Nat.add_le_add_left (by decide) _) ?_
  refine lv_istore (pc := 2172) (lv' := [(6, .int r2169), (0, .ref b), (1, .ref (g_ad G 60)), (2, .ref (g_ad G 87)), (3, .ref (g_ad G 106)), (4, .ref (g_ad G 107)), (5, .int (nI i))]) hx hb dL_law_2172 hl (by decide) rfl (fun ls hl => ?_)
  refine lv_aload_n (pc := 2174) hx hb dL_law_2174 rfl (lv_at hl 3 rfl) ?_
  refine lv_aload_n (pc := 2175) hx hb dL_law_2175 rfl (lv_at hl 1 rfl) ?_
  refine lv_iload (pc := 2176) hx hb dL_law_2176 (lv_at hl 6 rfl) ?_
  refine lv_iconst (pc := 2178) (v := 1) hx hb dL_law_2178 (by decide) ?_
  refine lv_iadd (pc := 2179) hx hb dL_law_2179 ?_
  refine g_scr (pc := 2180) (k := i + 1) C hX hbl hbA hM (sc_in1 hi hL) (sc_ix1 hi hL) dL_law_2180 ?_
  refine lv_aload_n (pc := 2181) hx hb dL_law_2181 rfl (lv_at hl 1 rfl) ?_
  refine lv_iload (pc := 2182) hx hb dL_law_2182 (lv_at hl 6 rfl) ?_
  refine lv_iconst (pc := 2184) (v := 2) hx hb dL_law_2184 (by decide) ?_
  refine lv_iadd (pc := 2185) hx hb dL_law_2185 ?_
  refine g_scr (pc := 2186) (k := i + 2) C hX hbl hbA hM (sc_in2 hi hL) (sc_ix2 hi hL) dL_law_2186 ?_
  refine g_cVi (pc := 2187) C hM hl.1 yv_X12_overlap q7_123 (by decide) ce_87 rfl (w_X12_overlap l G u2169.2 (xs (i + 1)) (xs (i + 2)) u2169.1 _ h) rfl rfl ⟨⟨Nat.le_of_ble_eq_true rfl, Nat.le_of_ble_eq_true rfl⟩, hroom.1, hroom.2⟩ (Nat.le_of_ble_eq_true rfl) dL_law_2187 (fun r2187 s2187 H locs h hM => ?_)
  refine lv_istore (pc := 2190) (lv' := [(7, .int r2187), (6, .int r2169), (0, .ref b), (1, .ref (g_ad G 60)), (2, .ref (g_ad G 87)), (3, .ref (g_ad G 106)), (4, .ref (g_ad G 107)), (5, .int (nI i))]) hx hb dL_law_2190 hl (by decide) rfl (fun ls hl => ?_)
  refine lv_aload_n (pc := 2192) hx hb dL_law_2192 rfl (lv_at hl 4 rfl) ?_
  refine g_cVi (pc := 2193) C hM hl.1 yv_X12_thrown q6_81 (by decide) ce_87 rfl (w_X12_thrown l G u2169.2 s2187 _ h) rfl rfl ⟨⟨Nat.le_of_ble_eq_true rfl, Nat.le_of_ble_eq_true rfl⟩, hroom.1, hroom.2⟩ (Nat.le_of_ble_eq_true rfl) dL_law_2193 (fun r2193 s2193 H locs h hM => ?_)
  refine lv_iload (pc := 2196) hx hb dL_law_2196 (lv_at hl 1 rfl) ?_
  refine lv_icmp_eq (pc := 2198) (tgt := 2203) hx hb dL_law_2198 (by decide) (fun c2198 => ?_) (fun c2198 => ?_)
  · have h := h.1 c2198
    refine lv_iload (pc := 2203) hx hb dL_law_2203 (lv_at hl 1 rfl) ?_
    refine lv_if_ne (pc := 2205) (tgt := 2227) hx hb dL_law_2205 (by decide) (fun c2205 => ?_) (fun c2205 => ?_)
    · have h := h.2 c2205
      refine lv_goto (pc := 2227) (tgt := 3015) hx hb dL_law_2227 (by decide) ?_
      exact h _ _ _ hM (lv_sub hl [2, 3, 4, 5, 6, 7] rfl)
    · have h := h.1 c2205
      refine lv_aload_n (pc := 2208) hx hb dL_law_2208 rfl (lv_at hl 5 rfl) ?_
      refine lv_iconst (pc := 2209) (v := 0) hx hb dL_law_2209 (by decide) ?_
      refine g_lald (pc := 2210) C hM dL_law_2210 ?_
      refine lv_iload (pc := 2211) hx hb dL_law_2211 (lv_at hl 0 rfl) ?_
      refine lv_if_eq (pc := 2213) (tgt := 2220) hx hb dL_law_2213 (by decide) (fun c2213 => ?_) (fun c2213 => ?_)
      · have h := h.1 c2213
        refine lv_lconst (pc := 2220) (v := 0) hx hb dL_law_2220 (by decide) ?_
        refine W.lcmp (pc := 2221) hx hb dL_law_2221 ?_
        refine lv_if_eq (pc := 2222) (tgt := 2227) hx hb dL_law_2222 (by decide) (fun c2222 => ?_) (fun c2222 => ?_)
        · have h := h.1 c2222
          refine lv_goto (pc := 2227) (tgt := 3015) hx hb dL_law_2227 (by decide) ?_
          exact h _ _ _ hM (lv_sub hl [2, 3, 4, 5, 6, 7] rfl)
        · have h := h.2 c2222
          refine lv_iconst (pc := 2225) (v := 0) hx hb dL_law_2225 (by decide) ?_
          exact h.elim
      · have h := h.2 c2213
        refine lv_lconst (pc := 2216) (v := 1) hx hb dL_law_2216 (by decide) ?_
        refine lv_goto (pc := 2217) (tgt := 2221) hx hb dL_law_2217 (by decide) ?_
        refine W.lcmp (pc := 2221) hx hb dL_law_2221 ?_
        refine lv_if_eq (pc := 2222) (tgt := 2227) hx hb dL_law_2222 (by decide) (fun c2222 => ?_) (fun c2222 => ?_)
        · have h := h.1 c2222
          refine lv_goto (pc := 2227) (tgt := 3015) hx hb dL_law_2227 (by decide) ?_
          exact h _ _ _ hM (lv_sub hl [2, 3, 4, 5, 6, 7] rfl)
        · have h := h.2 c2222
          refine lv_iconst (pc := 2225) (v := 0) hx hb dL_law_2225 (by decide) ?_
          exact h.elim
  · have h := h.2 c2198
    refine lv_iconst (pc := 2201) (v := 0) hx hb dL_law_2201 (by decide) ?_
    exact h.elim
