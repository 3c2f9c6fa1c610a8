/-! the law's calls (by program: gen/law.py) -/
section LC
variable {p : Program} {l : Launch} {e : Env} {s : State} {m : MethodId} {below : List Frame} {meth : Method} {c : Code} {H : Heap} {locs : List Loc} {cells slots : Nat} {Q : State → Prop} {ls : Array Slot} {g : zGeo} {M : Int → Int → Int} {G : GG} {b L : Nat} {xs : Nat → Int32} {i : Int}
set_option maxRecDepth 100000 in
set_option maxHeartbeats 4000000 in
theorem lw_26 (S : lwS p m c s b g L xs i) (hI : Inv M G) (Hh : zH g s (M, G) H locs) (hl : lv_has ls 7 (lwL g b i)) (hc : cells + 12 ≤ 601024) (hs : slots + 400 ≤ 7293034) (kk : lwK p l e s m below meth c cells slots Q g b i) : W p l e room_1 s m #[Value.ref b] below meth c H locs cells slots Q (F0 m 1321 ls []) := by
  obtain ⟨h1, h2, v, e1, e2, hI2⟩ := q_fit hI (sc_i32 _ _) (sc_i32 _ _)
  have C := S.1
  have hx := C.1.1
  have hb := C.1.2.1
  refine lv_aload_n hx hb dL_law_1321 rfl (lv_at hl 1 rfl) ?_
  refine zl_arg (k := 1) S hl Hh dL_law_1322 dL_law_1323 dL_law_1325 dL_law_1326 dL_law_1327 (by omega) (by omega) ?_
  refine zl_arg (k := 2) S hl Hh dL_law_1328 dL_law_1329 dL_law_1331 dL_law_1332 dL_law_1333 (by omega) (by omega) ?_
  refine z_callV (vs := [qI (sc xs (i + 1)), qI (sc xs (i + 2))]) C (ct_X9_fit l g (M, G) 0 (sc xs (i + 1)) (sc xs (i + 2)) (h1, v) e1) tw_1148 lm_X9_fit (tg_X9_fit e1) rfl hl.1 Hh ⟨Nat.le_of_ble_eq_true rfl, Nat.le_of_ble_eq_true rfl, (by show _ ≤ 601024; omega), (by show _ ≤ 7293034; omega)⟩ (Nat.le_of_ble_eq_true rfl) dL_law_1334 rfl (fun H1 locs1 Hh1 => ?_)
  refine lv_aload_n hx hb dL_law_1337 rfl (lv_at hl 2 rfl) ?_
  refine zl_arg (k := 1) S hl Hh1 dL_law_1338 dL_law_1339 dL_law_1341 dL_law_1342 dL_law_1343 (by omega) (by omega) ?_
  refine zl_arg (k := 2) S hl Hh1 dL_law_1344 dL_law_1345 dL_law_1347 dL_law_1348 dL_law_1349 (by omega) (by omega) ?_
  refine z_callV (vs := [qI (sc xs (i + 1)), qI (sc xs (i + 2))]) C (ct_X11_fit l g h1 124 (sc xs (i + 1)) (sc xs (i + 2)) (h2, v) e2) tw_1926 lm_X11_fit (tg_X11_fit e2) rfl hl.1 Hh1 ⟨Nat.le_of_ble_eq_true rfl, Nat.le_of_ble_eq_true rfl, (by show _ ≤ 601024; omega), (by show _ ≤ 7293034; omega)⟩ (Nat.le_of_ble_eq_true rfl) dL_law_1350 rfl (fun H2 locs2 Hh2 => ?_)
  refine lv_icmp_eq (tgt := 1689) hx hb dL_law_1353 (by decide) (fun _ => ?_) (fun c9 => absurd rfl c9)
  refine W.widen (k := cells + 12) (n := slots + 400) (by omega) (by omega) ?_
  exact kk h2.1 h2.2 _ _ _ hI2 Hh2 hl
set_option maxRecDepth 100000 in
set_option maxHeartbeats 4000000 in
theorem lw_27 (S : lwS p m c s b g L xs i) (hI : Inv M G) (Hh : zH g s (M, G) H locs) (hl : lv_has ls 7 (lwL g b i)) (hc : cells + 12 ≤ 601024) (hs : slots + 400 ≤ 7293034) (kk : lwK p l e s m below meth c cells slots Q g b i) : W p l e room_1 s m #[Value.ref b] below meth c H locs cells slots Q (F0 m 1358 ls []) := by
  obtain ⟨h1, h2, v, e1, e2, hI2⟩ := q_surely hI (sc_i32 _ _)
  have C := S.1
  have hx := C.1.1
  have hb := C.1.2.1
  refine lv_aload_n hx hb dL_law_1358 rfl (lv_at hl 1 rfl) ?_
  refine zl_arg (k := 1) S hl Hh dL_law_1359 dL_law_1360 dL_law_1362 dL_law_1363 dL_law_1364 (by omega) (by omega) ?_
  refine z_callV (vs := [qI (sc xs (i + 1))]) C (ct_X9_surely l g (M, G) 0 (sc xs (i + 1)) (h1, v) e1) tw_1157 lm_X9_surely (tg_X9_surely e1) rfl hl.1 Hh ⟨Nat.le_of_ble_eq_true rfl, Nat.le_of_ble_eq_true rfl, (by show _ ≤ 601024; omega), (by show _ ≤ 7293034; omega)⟩ (Nat.le_of_ble_eq_true rfl) dL_law_1365 rfl (fun H1 locs1 Hh1 => ?_)
  refine lv_aload_n hx hb dL_law_1368 rfl (lv_at hl 2 rfl) ?_
  refine zl_arg (k := 1) S hl Hh1 dL_law_1369 dL_law_1370 dL_law_1372 dL_law_1373 dL_law_1374 (by omega) (by omega) ?_
  refine z_callV (vs := [qI (sc xs (i + 1))]) C (ct_X11_surely l g h1 124 (sc xs (i + 1)) (h2, v) e2) tw_1930 lm_X11_surely (tg_X11_surely e2) rfl hl.1 Hh1 ⟨Nat.le_of_ble_eq_true rfl, Nat.le_of_ble_eq_true rfl, (by show _ ≤ 601024; omega), (by show _ ≤ 7293034; omega)⟩ (Nat.le_of_ble_eq_true rfl) dL_law_1375 rfl (fun H2 locs2 Hh2 => ?_)
  refine lv_icmp_eq (tgt := 1689) hx hb dL_law_1378 (by decide) (fun _ => ?_) (fun c9 => absurd rfl c9)
  refine W.widen (k := cells + 12) (n := slots + 400) (by omega) (by omega) ?_
  exact kk h2.1 h2.2 _ _ _ hI2 Hh2 hl
set_option maxRecDepth 100000 in
set_option maxHeartbeats 4000000 in
theorem lw_28 (S : lwS p m c s b g L xs i) (hI : Inv M G) (Hh : zH g s (M, G) H locs) (hl : lv_has ls 7 (lwL g b i)) (hc : cells + 12 ≤ 601024) (hs : slots + 400 ≤ 7293034) (kk : lwK p l e s m below meth c cells slots Q g b i) : W p l e room_1 s m #[Value.ref b] below meth c H locs cells slots Q (F0 m 1383 ls []) := by
  obtain ⟨h1, h2, v, e1, e2, hI2⟩ := q_rounds hI (sc_i32 _ _)
  have C := S.1
  have hx := C.1.1
  have hb := C.1.2.1
  refine lv_aload_n hx hb dL_law_1383 rfl (lv_at hl 1 rfl) ?_
  refine zl_arg (k := 1) S hl Hh dL_law_1384 dL_law_1385 dL_law_1387 dL_law_1388 dL_law_1389 (by omega) (by omega) ?_
  refine z_callV (vs := [qI (sc xs (i + 1))]) C (ct_X9_rounds l g (M, G) 0 (sc xs (i + 1)) (h1, v) e1) tw_1165 lm_X9_rounds (tg_X9_rounds e1) rfl hl.1 Hh ⟨Nat.le_of_ble_eq_true rfl, Nat.le_of_ble_eq_true rfl, (by show _ ≤ 601024; omega), (by show _ ≤ 7293034; omega)⟩ (Nat.le_of_ble_eq_true rfl) dL_law_1390 rfl (fun H1 locs1 Hh1 => ?_)
  refine lv_aload_n hx hb dL_law_1393 rfl (lv_at hl 2 rfl) ?_
  refine zl_arg (k := 1) S hl Hh1 dL_law_1394 dL_law_1395 dL_law_1397 dL_law_1398 dL_law_1399 (by omega) (by omega) ?_
  refine z_callV (vs := [qI (sc xs (i + 1))]) C (ct_X11_rounds l g h1 124 (sc xs (i + 1)) (h2, v) e2) tw_1934 lm_X11_rounds (tg_X11_rounds e2) rfl hl.1 Hh1 ⟨Nat.le_of_ble_eq_true rfl, Nat.le_of_ble_eq_true rfl, (by show _ ≤ 601024; omega), (by show _ ≤ 7293034; omega)⟩ (Nat.le_of_ble_eq_true rfl) dL_law_1400 rfl (fun H2 locs2 Hh2 => ?_)
  refine lv_icmp_eq (tgt := 1689) hx hb dL_law_1403 (by decide) (fun _ => ?_) (fun c9 => absurd rfl c9)
  refine W.widen (k := cells + 12) (n := slots + 400) (by omega) (by omega) ?_
  exact kk h2.1 h2.2 _ _ _ hI2 Hh2 hl
set_option maxRecDepth 100000 in
set_option maxHeartbeats 4000000 in
theorem lw_29 (S : lwS p m c s b g L xs i) (hI : Inv M G) (Hh : zH g s (M, G) H locs) (hl : lv_has ls 7 (lwL g b i)) (hc : cells + 12 ≤ 601024) (hs : slots + 400 ≤ 7293034) (kk : lwK p l e s m below meth c cells slots Q g b i) : W p l e room_1 s m #[Value.ref b] below meth c H locs cells slots Q (F0 m 1408 ls []) := by
  obtain ⟨h1, h2, v, e1, e2, hI2⟩ := q_draw hI (sc_i32 _ _) (sc_i32 _ _) (sc_i32 _ _)
  have C := S.1
  have hx := C.1.1
  have hb := C.1.2.1
  refine lv_aload_n hx hb dL_law_1408 rfl (lv_at hl 1 rfl) ?_
  refine zl_arg (k := 1) S hl Hh dL_law_1409 dL_law_1410 dL_law_1412 dL_law_1413 dL_law_1414 (by omega) (by omega) ?_
  refine zl_arg (k := 2) S hl Hh dL_law_1415 dL_law_1416 dL_law_1418 dL_law_1419 dL_law_1420 (by omega) (by omega) ?_
  refine zl_arg (k := 3) S hl Hh dL_law_1421 dL_law_1422 dL_law_1424 dL_law_1425 dL_law_1426 (by omega) (by omega) ?_
  refine z_callV (vs := [qI (sc xs (i + 1)), qI (sc xs (i + 2)), qI (sc xs (i + 3))]) C (ct_X9_draw l g (M, G) 0 (sc xs (i + 1)) (sc xs (i + 2)) (sc xs (i + 3)) (h1, v) e1) tw_1178 lm_X9_draw (tg_X9_draw e1) rfl hl.1 Hh ⟨Nat.le_of_ble_eq_true rfl, Nat.le_of_ble_eq_true rfl, (by show _ ≤ 601024; omega), (by show _ ≤ 7293034; omega)⟩ (Nat.le_of_ble_eq_true rfl) dL_law_1427 rfl (fun H1 locs1 Hh1 => ?_)
  refine lv_aload_n hx hb dL_law_1430 rfl (lv_at hl 2 rfl) ?_
  refine zl_arg (k := 1) S hl Hh1 dL_law_1431 dL_law_1432 dL_law_1434 dL_law_1435 dL_law_1436 (by omega) (by omega) ?_
  refine zl_arg (k := 2) S hl Hh1 dL_law_1437 dL_law_1438 dL_law_1440 dL_law_1441 dL_law_1442 (by omega) (by omega) ?_
  refine zl_arg (k := 3) S hl Hh1 dL_law_1443 dL_law_1444 dL_law_1446 dL_law_1447 dL_law_1448 (by omega) (by omega) ?_
  refine z_callV (vs := [qI (sc xs (i + 1)), qI (sc xs (i + 2)), qI (sc xs (i + 3))]) C (ct_X11_draw l g h1 124 (sc xs (i + 1)) (sc xs (i + 2)) (sc xs (i + 3)) (h2, v) e2) tw_1942 lm_X11_draw (tg_X11_draw e2) rfl hl.1 Hh1 ⟨Nat.le_of_ble_eq_true rfl, Nat.le_of_ble_eq_true rfl, (by show _ ≤ 601024; omega), (by show _ ≤ 7293034; omega)⟩ (Nat.le_of_ble_eq_true rfl) dL_law_1449 rfl (fun H2 locs2 Hh2 => ?_)
  refine lv_icmp_eq (tgt := 1689) hx hb dL_law_1452 (by decide) (fun _ => ?_) (fun c9 => absurd rfl c9)
  refine W.widen (k := cells + 12) (n := slots + 400) (by omega) (by omega) ?_
  exact kk h2.1 h2.2 _ _ _ hI2 Hh2 hl
set_option maxRecDepth 100000 in
set_option maxHeartbeats 4000000 in
theorem lw_30 (S : lwS p m c s b g L xs i) (hI : Inv M G) (Hh : zH g s (M, G) H locs) (hl : lv_has ls 7 (lwL g b i)) (hc : cells + 12 ≤ 601024) (hs : slots + 400 ≤ 7293034) (kk : lwK p l e s m below meth c cells slots Q g b i) : W p l e room_1 s m #[Value.ref b] below meth c H locs cells slots Q (F0 m 1457 ls []) := by
  obtain ⟨h1, h2, v, e1, e2, hI2⟩ := q_mend hI (sc_i32 _ _)
  have C := S.1
  have hx := C.1.1
  have hb := C.1.2.1
  refine lv_aload_n hx hb dL_law_1457 rfl (lv_at hl 1 rfl) ?_
  refine zl_arg (k := 1) S hl Hh dL_law_1458 dL_law_1459 dL_law_1461 dL_law_1462 dL_law_1463 (by omega) (by omega) ?_
  refine z_callV (vs := [qI (sc xs (i + 1))]) C (ct_X9_mend l g (M, G) 0 (sc xs (i + 1)) (h1, v) e1) tw_1190 lm_X9_mend (tg_X9_mend e1) rfl hl.1 Hh ⟨Nat.le_of_ble_eq_true rfl, Nat.le_of_ble_eq_true rfl, (by show _ ≤ 601024; omega), (by show _ ≤ 7293034; omega)⟩ (Nat.le_of_ble_eq_true rfl) dL_law_1464 rfl (fun H1 locs1 Hh1 => ?_)
  refine lv_aload_n hx hb dL_law_1467 rfl (lv_at hl 2 rfl) ?_
  refine zl_arg (k := 1) S hl Hh1 dL_law_1468 dL_law_1469 dL_law_1471 dL_law_1472 dL_law_1473 (by omega) (by omega) ?_
  refine z_callV (vs := [qI (sc xs (i + 1))]) C (ct_X11_mend l g h1 124 (sc xs (i + 1)) (h2, v) e2) tw_1954 lm_X11_mend (tg_X11_mend e2) rfl hl.1 Hh1 ⟨Nat.le_of_ble_eq_true rfl, Nat.le_of_ble_eq_true rfl, (by show _ ≤ 601024; omega), (by show _ ≤ 7293034; omega)⟩ (Nat.le_of_ble_eq_true rfl) dL_law_1474 rfl (fun H2 locs2 Hh2 => ?_)
  refine lv_icmp_eq (tgt := 1689) hx hb dL_law_1477 (by decide) (fun _ => ?_) (fun c9 => absurd rfl c9)
  refine W.widen (k := cells + 12) (n := slots + 400) (by omega) (by omega) ?_
  exact kk h2.1 h2.2 _ _ _ hI2 Hh2 hl
set_option maxRecDepth 100000 in
set_option maxHeartbeats 4000000 in
theorem lw_31 (S : lwS p m c s b g L xs i) (hI : Inv M G) (Hh : zH g s (M, G) H locs) (hl : lv_has ls 7 (lwL g b i)) (hc : cells + 12 ≤ 601024) (hs : slots + 400 ≤ 7293034) (kk : lwK p l e s m below meth c cells slots Q g b i) : W p l e room_1 s m #[Value.ref b] below meth c H locs cells slots Q (F0 m 1482 ls []) := by
  obtain ⟨h1, h2, v, e1, e2, hI2⟩ := q_copy hI (sc_i32 _ _) (sc_i32 _ _)
  have C := S.1
  have hx := C.1.1
  have hb := C.1.2.1
  refine lv_aload_n hx hb dL_law_1482 rfl (lv_at hl 1 rfl) ?_
  refine zl_arg (k := 1) S hl Hh dL_law_1483 dL_law_1484 dL_law_1486 dL_law_1487 dL_law_1488 (by omega) (by omega) ?_
  refine zl_arg (k := 2) S hl Hh dL_law_1489 dL_law_1490 dL_law_1492 dL_law_1493 dL_law_1494 (by omega) (by omega) ?_
  refine z_callV (vs := [qI (sc xs (i + 1)), qI (sc xs (i + 2))]) C (ct_X9_copy l g (M, G) 0 (sc xs (i + 1)) (sc xs (i + 2)) (h1, v) e1) tw_1194 lm_X9_copy (tg_X9_copy e1) rfl hl.1 Hh ⟨Nat.le_of_ble_eq_true rfl, Nat.le_of_ble_eq_true rfl, (by show _ ≤ 601024; omega), (by show _ ≤ 7293034; omega)⟩ (Nat.le_of_ble_eq_true rfl) dL_law_1495 rfl (fun H1 locs1 Hh1 => ?_)
  refine lv_aload_n hx hb dL_law_1498 rfl (lv_at hl 2 rfl) ?_
  refine zl_arg (k := 1) S hl Hh1 dL_law_1499 dL_law_1500 dL_law_1502 dL_law_1503 dL_law_1504 (by omega) (by omega) ?_
  refine zl_arg (k := 2) S hl Hh1 dL_law_1505 dL_law_1506 dL_law_1508 dL_law_1509 dL_law_1510 (by omega) (by omega) ?_
  refine z_callV (vs := [qI (sc xs (i + 1)), qI (sc xs (i + 2))]) C (ct_X11_copy l g h1 124 (sc xs (i + 1)) (sc xs (i + 2)) (h2, v) e2) tw_1958 lm_X11_copy (tg_X11_copy e2) rfl hl.1 Hh1 ⟨Nat.le_of_ble_eq_true rfl, Nat.le_of_ble_eq_true rfl, (by show _ ≤ 601024; omega), (by show _ ≤ 7293034; omega)⟩ (Nat.le_of_ble_eq_true rfl) dL_law_1511 rfl (fun H2 locs2 Hh2 => ?_)
  refine lv_icmp_eq (tgt := 1689) hx hb dL_law_1514 (by decide) (fun _ => ?_) (fun c9 => absurd rfl c9)
  refine W.widen (k := cells + 12) (n := slots + 400) (by omega) (by omega) ?_
  exact kk h2.1 h2.2 _ _ _ hI2 Hh2 hl
set_option maxRecDepth 100000 in
set_option maxHeartbeats 4000000 in
theorem lw_32 (S : lwS p m c s b g L xs i) (hI : Inv M G) (Hh : zH g s (M, G) H locs) (hl : lv_has ls 7 (lwL g b i)) (hc : cells + 12 ≤ 601024) (hs : slots + 400 ≤ 7293034) (kk : lwK p l e s m below meth c cells slots Q g b i) : W p l e room_1 s m #[Value.ref b] below meth c H locs cells slots Q (F0 m 1519 ls []) := by
  obtain ⟨h1, h2, v, e1, e2, hI2⟩ := q_seed hI (sc_i32 _ _)
  have C := S.1
  have hx := C.1.1
  have hb := C.1.2.1
  refine lv_aload_n hx hb dL_law_1519 rfl (lv_at hl 1 rfl) ?_
  refine zl_arg (k := 1) S hl Hh dL_law_1520 dL_law_1521 dL_law_1523 dL_law_1524 dL_law_1525 (by omega) (by omega) ?_
  refine z_callV (vs := [qI (sc xs (i + 1))]) C (ct_X9_seed l g (M, G) 0 (sc xs (i + 1)) (h1, v) e1) tw_1198 lm_X9_seed (tg_X9_seed e1) rfl hl.1 Hh ⟨Nat.le_of_ble_eq_true rfl, Nat.le_of_ble_eq_true rfl, (by show _ ≤ 601024; omega), (by show _ ≤ 7293034; omega)⟩ (Nat.le_of_ble_eq_true rfl) dL_law_1526 rfl (fun H1 locs1 Hh1 => ?_)
  refine lv_aload_n hx hb dL_law_1529 rfl (lv_at hl 2 rfl) ?_
  refine zl_arg (k := 1) S hl Hh1 dL_law_1530 dL_law_1531 dL_law_1533 dL_law_1534 dL_law_1535 (by omega) (by omega) ?_
  refine z_callV (vs := [qI (sc xs (i + 1))]) C (ct_X11_seed l g h1 124 (sc xs (i + 1)) (h2, v) e2) tw_1962 lm_X11_seed (tg_X11_seed e2) rfl hl.1 Hh1 ⟨Nat.le_of_ble_eq_true rfl, Nat.le_of_ble_eq_true rfl, (by show _ ≤ 601024; omega), (by show _ ≤ 7293034; omega)⟩ (Nat.le_of_ble_eq_true rfl) dL_law_1536 rfl (fun H2 locs2 Hh2 => ?_)
  refine lv_icmp_eq (tgt := 1689) hx hb dL_law_1539 (by decide) (fun _ => ?_) (fun c9 => absurd rfl c9)
  refine W.widen (k := cells + 12) (n := slots + 400) (by omega) (by omega) ?_
  exact kk h2.1 h2.2 _ _ _ hI2 Hh2 hl
set_option maxRecDepth 100000 in
set_option maxHeartbeats 4000000 in
theorem lw_33 (S : lwS p m c s b g L xs i) (hI : Inv M G) (Hh : zH g s (M, G) H locs) (hl : lv_has ls 7 (lwL g b i)) (hc : cells + 12 ≤ 601024) (hs : slots + 400 ≤ 7293034) (kk : lwK p l e s m below meth c cells slots Q g b i) : W p l e room_1 s m #[Value.ref b] below meth c H locs cells slots Q (F0 m 1544 ls []) := by
  obtain ⟨h1, h2, v, e1, e2, hI2⟩ := q_undo hI
  have C := S.1
  have hx := C.1.1
  have hb := C.1.2.1
  refine lv_aload_n hx hb dL_law_1544 rfl (lv_at hl 1 rfl) ?_
  refine z_callV (vs := []) C (ct_X9_undo l g (M, G) 0  (h1, v) e1) tw_1203 lm_X9_undo (tg_X9_undo e1) rfl hl.1 Hh ⟨Nat.le_of_ble_eq_true rfl, Nat.le_of_ble_eq_true rfl, (by show _ ≤ 601024; omega), (by show _ ≤ 7293034; omega)⟩ (Nat.le_of_ble_eq_true rfl) dL_law_1545 rfl (fun H1 locs1 Hh1 => ?_)
  refine lv_aload_n hx hb dL_law_1548 rfl (lv_at hl 2 rfl) ?_
  refine z_callV (vs := []) C (ct_X11_undo l g h1 124  (h2, v) e2) tw_1967 lm_X11_undo (tg_X11_undo e2) rfl hl.1 Hh1 ⟨Nat.le_of_ble_eq_true rfl, Nat.le_of_ble_eq_true rfl, (by show _ ≤ 601024; omega), (by show _ ≤ 7293034; omega)⟩ (Nat.le_of_ble_eq_true rfl) dL_law_1549 rfl (fun H2 locs2 Hh2 => ?_)
  refine lv_icmp_eq (tgt := 1689) hx hb dL_law_1552 (by decide) (fun _ => ?_) (fun c9 => absurd rfl c9)
  refine W.widen (k := cells + 12) (n := slots + 400) (by omega) (by omega) ?_
  exact kk h2.1 h2.2 _ _ _ hI2 Hh2 hl
set_option maxRecDepth 100000 in
set_option maxHeartbeats 4000000 in
theorem lw_34 (S : lwS p m c s b g L xs i) (hI : Inv M G) (Hh : zH g s (M, G) H locs) (hl : lv_has ls 7 (lwL g b i)) (hc : cells + 12 ≤ 601024) (hs : slots + 400 ≤ 7293034) (kk : lwK p l e s m below meth c cells slots Q g b i) : W p l e room_1 s m #[Value.ref b] below meth c H locs cells slots Q (F0 m 1557 ls []) := by
  obtain ⟨h1, h2, v, e1, e2, hI2⟩ := q_keep hI
  have C := S.1
  have hx := C.1.1
  have hb := C.1.2.1
  refine lv_aload_n hx hb dL_law_1557 rfl (lv_at hl 1 rfl) ?_
  refine z_callV (vs := []) C (ct_X9_keep l g (M, G) 0  (h1, v) e1) tw_1211 lm_X9_keep (tg_X9_keep e1) rfl hl.1 Hh ⟨Nat.le_of_ble_eq_true rfl, Nat.le_of_ble_eq_true rfl, (by show _ ≤ 601024; omega), (by show _ ≤ 7293034; omega)⟩ (Nat.le_of_ble_eq_true rfl) dL_law_1558 rfl (fun H1 locs1 Hh1 => ?_)
  refine lv_aload_n hx hb dL_law_1561 rfl (lv_at hl 2 rfl) ?_
  refine z_callV (vs := []) C (ct_X11_keep l g h1 124  (h2, v) e2) tw_1971 lm_X11_keep (tg_X11_keep e2) rfl hl.1 Hh1 ⟨Nat.le_of_ble_eq_true rfl, Nat.le_of_ble_eq_true rfl, (by show _ ≤ 601024; omega), (by show _ ≤ 7293034; omega)⟩ (Nat.le_of_ble_eq_true rfl) dL_law_1562 rfl (fun H2 locs2 Hh2 => ?_)
  refine lv_icmp_eq (tgt := 1689) hx hb dL_law_1565 (by decide) (fun _ => ?_) (fun c9 => absurd rfl c9)
  refine W.widen (k := cells + 12) (n := slots + 400) (by omega) (by omega) ?_
  exact kk h2.1 h2.2 _ _ _ hI2 Hh2 hl
set_option maxRecDepth 100000 in
set_option maxHeartbeats 4000000 in
theorem lw_35 (S : lwS p m c s b g L xs i) (hI : Inv M G) (Hh : zH g s (M, G) H locs) (hl : lv_has ls 7 (lwL g b i)) (hc : cells + 12 ≤ 601024) (hs : slots + 400 ≤ 7293034) (kk : lwK p l e s m below meth c cells slots Q g b i) : W p l e room_1 s m #[Value.ref b] below meth c H locs cells slots Q (F0 m 1570 ls []) := by
  obtain ⟨h1, h2, v, e1, e2, hI2⟩ := q_back hI (sc_i32 _ _)
  have C := S.1
  have hx := C.1.1
  have hb := C.1.2.1
  refine lv_aload_n hx hb dL_law_1570 rfl (lv_at hl 1 rfl) ?_
  refine zl_arg (k := 1) S hl Hh dL_law_1571 dL_law_1572 dL_law_1574 dL_law_1575 dL_law_1576 (by omega) (by omega) ?_
  refine z_callV (vs := [qI (sc xs (i + 1))]) C (ct_X9_back l g (M, G) 0 (sc xs (i + 1)) (h1, v) e1) tw_1219 lm_X9_back (tg_X9_back e1) rfl hl.1 Hh ⟨Nat.le_of_ble_eq_true rfl, Nat.le_of_ble_eq_true rfl, (by show _ ≤ 601024; omega), (by show _ ≤ 7293034; omega)⟩ (Nat.le_of_ble_eq_true rfl) dL_law_1577 rfl (fun H1 locs1 Hh1 => ?_)
  refine lv_aload_n hx hb dL_law_1580 rfl (lv_at hl 2 rfl) ?_
  refine zl_arg (k := 1) S hl Hh1 dL_law_1581 dL_law_1582 dL_law_1584 dL_law_1585 dL_law_1586 (by omega) (by omega) ?_
  refine z_callV (vs := [qI (sc xs (i + 1))]) C (ct_X11_back l g h1 124 (sc xs (i + 1)) (h2, v) e2) tw_1975 lm_X11_back (tg_X11_back e2) rfl hl.1 Hh1 ⟨Nat.le_of_ble_eq_true rfl, Nat.le_of_ble_eq_true rfl, (by show _ ≤ 601024; omega), (by show _ ≤ 7293034; omega)⟩ (Nat.le_of_ble_eq_true rfl) dL_law_1587 rfl (fun H2 locs2 Hh2 => ?_)
  refine lv_icmp_eq (tgt := 1689) hx hb dL_law_1590 (by decide) (fun _ => ?_) (fun c9 => absurd rfl c9)
  refine W.widen (k := cells + 12) (n := slots + 400) (by omega) (by omega) ?_
  exact kk h2.1 h2.2 _ _ _ hI2 Hh2 hl
set_option maxRecDepth 100000 in
set_option maxHeartbeats 4000000 in
theorem lw_37 (S : lwS p m c s b g L xs i) (hI : Inv M G) (Hh : zH g s (M, G) H locs) (hl : lv_has ls 7 (lwL g b i)) (hc : cells + 12 ≤ 601024) (hs : slots + 400 ≤ 7293034) (kk : lwK p l e s m below meth c cells slots Q g b i) : W p l e room_1 s m #[Value.ref b] below meth c H locs cells slots Q (F0 m 1651 ls []) := by
  obtain ⟨h2, v, e1, e2, hI2⟩ := q_size hI (sc_i32 _ _)
  have C := S.1
  have hx := C.1.1
  have hb := C.1.2.1
  refine lv_aload_n hx hb dL_law_1651 rfl (lv_at hl 1 rfl) ?_
  refine zl_arg (k := 1) S hl Hh dL_law_1652 dL_law_1653 dL_law_1655 dL_law_1656 dL_law_1657 (by omega) (by omega) ?_
  refine z_callV (vs := [qI (sc xs (i + 1))]) C (ct_X9_size l g (M, G) 0 (sc xs (i + 1)) v e1) tw_1223 lm_X9_size (tg_X9_size e1) rfl hl.1 Hh ⟨Nat.le_of_ble_eq_true rfl, Nat.le_of_ble_eq_true rfl, (by show _ ≤ 601024; omega), (by show _ ≤ 7293034; omega)⟩ (Nat.le_of_ble_eq_true rfl) dL_law_1658 rfl (fun H1 locs1 Hh1 => ?_)
  refine lv_aload_n hx hb dL_law_1661 rfl (lv_at hl 2 rfl) ?_
  refine zl_arg (k := 1) S hl Hh1 dL_law_1662 dL_law_1663 dL_law_1665 dL_law_1666 dL_law_1667 (by omega) (by omega) ?_
  refine z_callV (vs := [qI (sc xs (i + 1))]) C (ct_X11_size l g (M, G) 124 (sc xs (i + 1)) (h2, v) e2) tw_1987 lm_X11_size (tg_X11_size e2) rfl hl.1 Hh1 ⟨Nat.le_of_ble_eq_true rfl, Nat.le_of_ble_eq_true rfl, (by show _ ≤ 601024; omega), (by show _ ≤ 7293034; omega)⟩ (Nat.le_of_ble_eq_true rfl) dL_law_1668 rfl (fun H2 locs2 Hh2 => ?_)
  refine lv_icmp_eq (tgt := 1689) hx hb dL_law_1671 (by decide) (fun _ => ?_) (fun c9 => absurd rfl c9)
  refine W.widen (k := cells + 12) (n := slots + 400) (by omega) (by omega) ?_
  exact kk h2.1 h2.2 _ _ _ hI2 Hh2 hl
set_option maxRecDepth 100000 in
set_option maxHeartbeats 4000000 in
theorem lw_38 (S : lwS p m c s b g L xs i) (hI : Inv M G) (Hh : zH g s (M, G) H locs) (hl : lv_has ls 7 (lwL g b i)) (hc : cells + 12 ≤ 601024) (hs : slots + 400 ≤ 7293034) (kk : lwK p l e s m below meth c cells slots Q g b i) : W p l e room_1 s m #[Value.ref b] below meth c H locs cells slots Q (F0 m 1676 ls []) := by
  obtain ⟨h2, v, e1, e2, hI2⟩ := q_trouble hI
  have C := S.1
  have hx := C.1.1
  have hb := C.1.2.1
  refine lv_aload_n hx hb dL_law_1676 rfl (lv_at hl 1 rfl) ?_
  refine z_callV (vs := []) C (ct_X9_trouble l g (M, G) 0  v e1) tw_1231 lm_X9_trouble (tg_X9_trouble e1) rfl hl.1 Hh ⟨Nat.le_of_ble_eq_true rfl, Nat.le_of_ble_eq_true rfl, (by show _ ≤ 601024; omega), (by show _ ≤ 7293034; omega)⟩ (Nat.le_of_ble_eq_true rfl) dL_law_1677 rfl (fun H1 locs1 Hh1 => ?_)
  refine lv_aload_n hx hb dL_law_1680 rfl (lv_at hl 2 rfl) ?_
  refine z_callV (vs := []) C (ct_X11_trouble l g (M, G) 124  (h2, v) e2) tw_1995 lm_X11_trouble (tg_X11_trouble e2) rfl hl.1 Hh1 ⟨Nat.le_of_ble_eq_true rfl, Nat.le_of_ble_eq_true rfl, (by show _ ≤ 601024; omega), (by show _ ≤ 7293034; omega)⟩ (Nat.le_of_ble_eq_true rfl) dL_law_1681 rfl (fun H2 locs2 Hh2 => ?_)
  refine lv_icmp_eq (tgt := 1689) hx hb dL_law_1684 (by decide) (fun _ => ?_) (fun c9 => absurd rfl c9)
  refine W.widen (k := cells + 12) (n := slots + 400) (by omega) (by omega) ?_
  exact kk h2.1 h2.2 _ _ _ hI2 Hh2 hl
end LC
