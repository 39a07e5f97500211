section LAWC
variable {p : Program} {l : Launch} {e : Env} {s : State} {m : MethodId} {args : Array Value} {below : List Frame} {meth : Method} {c : Code} {A : Nat → Prop} {kc ks : Nat} {Q : State → Prop} {z : ZC} {y : ZM} {b L : Nat} {xs : Nat → Int32} {o : Nat} {cL : ClassId} {N0 : Nat} {cg mg : Mem} {f : Nat → Int64} {i : Int32}
theorem case_35 (C0 : jb p s m args c cL_law 8 RL) (F : FX s A z y b L xs o cL N0) (hfl : l.stackTraces = false) (h : RI cg mg) (hi : HI i L) (hRc : kc + 1 ≤ room_1.cells ∧ ks + 6 ≤ room_1.slots) (kk : KK p l e s m args below meth c A (kc + 1) (ks + 6) Q z y b o cL N0 i) : jl p l e room_1 s m args below meth c A kc ks 8 Q (PLw z y o cL N0 cg mg f) 1345 [(4, .int i), (3, .ref o), (2, .ref (yad y 0)), (1, .ref (zad z 46)), (0, .ref b)] [] := by
  have hK : kc ≤ room_1.cells ∧ ks ≤ room_1.slots := ⟨Nat.le_of_succ_le hRc.1, Nat.le_trans (Nat.le_add_right _ 6) hRc.2⟩
  have E := st_put h (xs (ix (i + 1))) (xs (ix (i + 2))) (xs (ix (i + 3)))
  refine l_aload_n C0 3 dL_law_1345 rfl rfl ?_
  refine l_aload_n C0 4 dL_law_1346 rfl rfl ?_
  refine l_iload C0 0 dL_law_1347 rfl ?_
  refine l_iconst C0 (v := 1) dL_law_1349 (by decide) ?_
  refine l_iadd C0 dL_law_1350 ?_
  refine q_xs C0 F hi.1 dL_law_1351 ?_
  refine l_aload_n C0 4 dL_law_1352 rfl rfl ?_
  refine l_iload C0 0 dL_law_1353 rfl ?_
  refine l_iconst C0 (v := 2) dL_law_1355 (by decide) ?_
  refine l_iadd C0 dL_law_1356 ?_
  refine q_xs C0 F hi.2.1 dL_law_1357 ?_
  refine l_aload_n C0 4 dL_law_1358 rfl rfl ?_
  refine l_iload C0 0 dL_law_1359 rfl ?_
  refine l_iconst C0 (v := 3) dL_law_1361 (by decide) ?_
  refine l_iadd C0 dL_law_1362 ?_
  refine q_xs C0 F hi.2.2.1 dL_law_1363 ?_
  refine q_ci C0 F (c_X5_put l z _ (xs (ix (i + 1))) (xs (ix (i + 2))) (xs (ix (i + 3))) h.2.1) yk_X5_put w_639 ⟨Nat.le_of_ble_eq_true rfl, Nat.le_of_ble_eq_true rfl⟩ hK rfl rfl (Nat.le_of_ble_eq_true rfl) dL_law_1364 ?_
  refine l_aload_n C0 2 dL_law_1367 rfl rfl ?_
  refine l_aload_n C0 4 dL_law_1368 rfl rfl ?_
  refine l_iload C0 0 dL_law_1369 rfl ?_
  refine l_iconst C0 (v := 1) dL_law_1371 (by decide) ?_
  refine l_iadd C0 dL_law_1372 ?_
  refine q_xs C0 F hi.1 dL_law_1373 ?_
  refine l_aload_n C0 4 dL_law_1374 rfl rfl ?_
  refine l_iload C0 0 dL_law_1375 rfl ?_
  refine l_iconst C0 (v := 2) dL_law_1377 (by decide) ?_
  refine l_iadd C0 dL_law_1378 ?_
  refine q_xs C0 F hi.2.1 dL_law_1379 ?_
  refine l_aload_n C0 4 dL_law_1380 rfl rfl ?_
  refine l_iload C0 0 dL_law_1381 rfl ?_
  refine l_iconst C0 (v := 3) dL_law_1383 (by decide) ?_
  refine l_iadd C0 dL_law_1384 ?_
  refine q_xs C0 F hi.2.2.1 dL_law_1385 ?_
  refine q_mi C0 F (c_X6_put l y _ (xs (ix (i + 1))) (xs (ix (i + 2))) (xs (ix (i + 3))) h.2.2.1) yk_X6_put w_1139 ⟨Nat.le_of_ble_eq_true rfl, Nat.le_of_ble_eq_true rfl⟩ hK rfl rfl (Nat.le_of_ble_eq_true rfl) dL_law_1386 ?_
  refine l_icmp_eq C0 1584 dL_law_1389 (by decide) (fun _ => ?_) (fun q => absurd E.1 q)
  exact q_wide ⟨Nat.le_succ _, Nat.le_add_right _ 6⟩ (kk _ _ _ E.2)
theorem case_36 (C0 : jb p s m args c cL_law 8 RL) (F : FX s A z y b L xs o cL N0) (hfl : l.stackTraces = false) (h : RI cg mg) (hi : HI i L) (hRc : kc + 1 ≤ room_1.cells ∧ ks + 6 ≤ room_1.slots) (kk : KK p l e s m args below meth c A (kc + 1) (ks + 6) Q z y b o cL N0 i) : jl p l e room_1 s m args below meth c A kc ks 8 Q (PLw z y o cL N0 cg mg f) 1394 [(4, .int i), (3, .ref o), (2, .ref (yad y 0)), (1, .ref (zad z 46)), (0, .ref b)] [] := by
  have hK : kc ≤ room_1.cells ∧ ks ≤ room_1.slots := ⟨Nat.le_of_succ_le hRc.1, Nat.le_trans (Nat.le_add_right _ 6) hRc.2⟩
  have fin : jl p l e room_1 s m args below meth c A (kc + 1) (ks + 6) 8 Q (PLw z y o cL N0 cg (m_X6_element mg (xs (ix (i + 1))) (xs (ix (i + 2)))) (oL (f_X5_element cg (xs (ix (i + 1))) (xs (ix (i + 2)))) f)) 1458 [(6, .long (r_X6_element mg (xs (ix (i + 1))) (xs (ix (i + 2))))), (5, .int (rL (f_X5_element cg (xs (ix (i + 1))) (xs (ix (i + 2)))))), (4, .int i), (3, .ref o), (2, .ref (yad y 0)), (1, .ref (zad z 46)), (0, .ref b)] [] := l_goto C0 1584 dL_law_1458 (by decide) (l_sub [2, 3, 4, 5, 6] rfl (kk _ _ _ (st_element h _ _)))
  refine l_aload_n C0 3 dL_law_1394 rfl rfl ?_
  refine l_aload_n C0 4 dL_law_1395 rfl rfl ?_
  refine l_iload C0 0 dL_law_1396 rfl ?_
  refine l_iconst C0 (v := 1) dL_law_1398 (by decide) ?_
  refine l_iadd C0 dL_law_1399 ?_
  refine q_xs C0 F hi.1 dL_law_1400 ?_
  refine l_aload_n C0 4 dL_law_1401 rfl rfl ?_
  refine l_iload C0 0 dL_law_1402 rfl ?_
  refine l_iconst C0 (v := 2) dL_law_1404 (by decide) ?_
  refine l_iadd C0 dL_law_1405 ?_
  refine q_xs C0 F hi.2.1 dL_law_1406 ?_
  refine l_aload_n C0 1 dL_law_1407 rfl rfl ?_
  refine q_elem C0 F hfl h.2.1 w_781 ⟨Nat.le_of_ble_eq_true rfl, Nat.le_of_ble_eq_true rfl⟩ hRc (Nat.le_of_ble_eq_true rfl) dL_law_1408 ?_
  refine l_istore C0 (lv' := [(5, _), (4, _), (3, _), (2, _), (1, _), (0, _)]) dL_law_1411 (by decide) rfl ?_
  refine l_aload_n C0 3 dL_law_1413 rfl rfl ?_
  refine l_aload_n C0 5 dL_law_1414 rfl rfl ?_
  refine l_iload C0 1 dL_law_1415 rfl ?_
  refine l_iconst C0 (v := 1) dL_law_1417 (by decide) ?_
  refine l_iadd C0 dL_law_1418 ?_
  refine q_xs C0 F hi.1 dL_law_1419 ?_
  refine l_aload_n C0 5 dL_law_1420 rfl rfl ?_
  refine l_iload C0 1 dL_law_1421 rfl ?_
  refine l_iconst C0 (v := 2) dL_law_1423 (by decide) ?_
  refine l_iadd C0 dL_law_1424 ?_
  refine q_xs C0 F hi.2.1 dL_law_1425 ?_
  refine q_ml C0 F (c_X6_element l y _ (xs (ix (i + 1))) (xs (ix (i + 2))) h.2.2.1) yk_X6_element w_1143 ⟨Nat.le_of_ble_eq_true rfl, Nat.le_of_ble_eq_true rfl⟩ hRc rfl rfl (Nat.le_of_ble_eq_true rfl) dL_law_1426 ?_
  refine l_lstore C0 (lv' := [(6, _), (5, _), (4, _), (3, _), (2, _), (1, _), (0, _)]) dL_law_1429 (by decide) rfl ?_
  refine l_aload_n C0 4 dL_law_1431 rfl rfl ?_
  refine q_mi C0 F (c_X6_thrown l y _) yk_X6_thrown w_1127 ⟨Nat.le_of_ble_eq_true rfl, Nat.le_of_ble_eq_true rfl⟩ hRc rfl rfl (Nat.le_of_ble_eq_true rfl) dL_law_1432 ?_
  refine l_iload C0 1 dL_law_1435 rfl ?_
  refine l_icmp_eq C0 1442 dL_law_1437 (by decide) (fun _ => ?_) (fun q => absurd (el_thrown h _ _) q)
  refine l_iload C0 1 dL_law_1442 rfl ?_
  refine l_if_ne C0 1458 dL_law_1444 (by decide) (fun k0 => ?_) (fun _ => fin)
  refine l_aload_n C0 3 dL_law_1447 rfl rfl ?_
  refine l_iconst C0 (v := 0) dL_law_1448 (by decide) ?_
  refine q_lald C0 F (i := 0) (by unfold vp_in; decide) dL_law_1449 ?_
  refine l_lload C0 0 dL_law_1450 rfl ?_
  refine l_lcmp C0 dL_law_1452 ?_
  exact l_if_eq C0 1458 dL_law_1453 (by decide) (fun _ => fin) (fun q => absurd (by rw [el_value h _ _ _ k0]; exact lgc0 _) q)
theorem case_37 (C0 : jb p s m args c cL_law 8 RL) (F : FX s A z y b L xs o cL N0) (hfl : l.stackTraces = false) (h : RI cg mg) (hi : HI i L) (hRc : kc + 1 ≤ room_1.cells ∧ ks + 6 ≤ room_1.slots) (kk : KK p l e s m args below meth c A (kc + 1) (ks + 6) Q z y b o cL N0 i) : jl p l e room_1 s m args below meth c A kc ks 8 Q (PLw z y o cL N0 cg mg f) 1461 [(4, .int i), (3, .ref o), (2, .ref (yad y 0)), (1, .ref (zad z 46)), (0, .ref b)] [] := by
  have hK : kc ≤ room_1.cells ∧ ks ≤ room_1.slots := ⟨Nat.le_of_succ_le hRc.1, Nat.le_trans (Nat.le_add_right _ 6) hRc.2⟩
  have E := st_copy h (xs (ix (i + 1))) (xs (ix (i + 2))) (xs (ix (i + 3))) (xs (ix (i + 4))) (xs (ix (i + 5)))
  refine l_aload_n C0 3 dL_law_1461 rfl rfl ?_
  refine l_aload_n C0 4 dL_law_1462 rfl rfl ?_
  refine l_iload C0 0 dL_law_1463 rfl ?_
  refine l_iconst C0 (v := 1) dL_law_1465 (by decide) ?_
  refine l_iadd C0 dL_law_1466 ?_
  refine q_xs C0 F hi.1 dL_law_1467 ?_
  refine l_aload_n C0 4 dL_law_1468 rfl rfl ?_
  refine l_iload C0 0 dL_law_1469 rfl ?_
  refine l_iconst C0 (v := 2) dL_law_1471 (by decide) ?_
  refine l_iadd C0 dL_law_1472 ?_
  refine q_xs C0 F hi.2.1 dL_law_1473 ?_
  refine l_aload_n C0 4 dL_law_1474 rfl rfl ?_
  refine l_iload C0 0 dL_law_1475 rfl ?_
  refine l_iconst C0 (v := 3) dL_law_1477 (by decide) ?_
  refine l_iadd C0 dL_law_1478 ?_
  refine q_xs C0 F hi.2.2.1 dL_law_1479 ?_
  refine l_aload_n C0 4 dL_law_1480 rfl rfl ?_
  refine l_iload C0 0 dL_law_1481 rfl ?_
  refine l_iconst C0 (v := 4) dL_law_1483 (by decide) ?_
  refine l_iadd C0 dL_law_1484 ?_
  refine q_xs C0 F hi.2.2.2.1 dL_law_1485 ?_
  refine l_aload_n C0 4 dL_law_1486 rfl rfl ?_
  refine l_iload C0 0 dL_law_1487 rfl ?_
  refine l_iconst C0 (v := 5) dL_law_1489 (by decide) ?_
  refine l_iadd C0 dL_law_1490 ?_
  refine q_xs C0 F hi.2.2.2.2 dL_law_1491 ?_
  refine q_ci C0 F (c_X5_copy l z _ (xs (ix (i + 1))) (xs (ix (i + 2))) (xs (ix (i + 3))) (xs (ix (i + 4))) (xs (ix (i + 5))) h.2.1) yk_X5_copy w_648 ⟨Nat.le_of_ble_eq_true rfl, Nat.le_of_ble_eq_true rfl⟩ hK rfl rfl (Nat.le_of_ble_eq_true rfl) dL_law_1492 ?_
  refine l_aload_n C0 2 dL_law_1495 rfl rfl ?_
  refine l_aload_n C0 4 dL_law_1496 rfl rfl ?_
  refine l_iload C0 0 dL_law_1497 rfl ?_
  refine l_iconst C0 (v := 1) dL_law_1499 (by decide) ?_
  refine l_iadd C0 dL_law_1500 ?_
  refine q_xs C0 F hi.1 dL_law_1501 ?_
  refine l_aload_n C0 4 dL_law_1502 rfl rfl ?_
  refine l_iload C0 0 dL_law_1503 rfl ?_
  refine l_iconst C0 (v := 2) dL_law_1505 (by decide) ?_
  refine l_iadd C0 dL_law_1506 ?_
  refine q_xs C0 F hi.2.1 dL_law_1507 ?_
  refine l_aload_n C0 4 dL_law_1508 rfl rfl ?_
  refine l_iload C0 0 dL_law_1509 rfl ?_
  refine l_iconst C0 (v := 3) dL_law_1511 (by decide) ?_
  refine l_iadd C0 dL_law_1512 ?_
  refine q_xs C0 F hi.2.2.1 dL_law_1513 ?_
  refine l_aload_n C0 4 dL_law_1514 rfl rfl ?_
  refine l_iload C0 0 dL_law_1515 rfl ?_
  refine l_iconst C0 (v := 4) dL_law_1517 (by decide) ?_
  refine l_iadd C0 dL_law_1518 ?_
  refine q_xs C0 F hi.2.2.2.1 dL_law_1519 ?_
  refine l_aload_n C0 4 dL_law_1520 rfl rfl ?_
  refine l_iload C0 0 dL_law_1521 rfl ?_
  refine l_iconst C0 (v := 5) dL_law_1523 (by decide) ?_
  refine l_iadd C0 dL_law_1524 ?_
  refine q_xs C0 F hi.2.2.2.2 dL_law_1525 ?_
  refine q_mi C0 F (c_X6_copy l y _ (xs (ix (i + 1))) (xs (ix (i + 2))) (xs (ix (i + 3))) (xs (ix (i + 4))) (xs (ix (i + 5))) h.2.2.1) yk_X6_copy w_1147 ⟨Nat.le_of_ble_eq_true rfl, Nat.le_of_ble_eq_true rfl⟩ hK rfl rfl (Nat.le_of_ble_eq_true rfl) dL_law_1526 ?_
  refine l_icmp_eq C0 1584 dL_law_1529 (by decide) (fun _ => ?_) (fun q => absurd E.1 q)
  exact q_wide ⟨Nat.le_succ _, Nat.le_add_right _ 6⟩ (kk _ _ _ E.2)
theorem case_38 (C0 : jb p s m args c cL_law 8 RL) (F : FX s A z y b L xs o cL N0) (hfl : l.stackTraces = false) (h : RI cg mg) (hi : HI i L) (hRc : kc + 1 ≤ room_1.cells ∧ ks + 6 ≤ room_1.slots) (kk : KK p l e s m args below meth c A (kc + 1) (ks + 6) Q z y b o cL N0 i) : jl p l e room_1 s m args below meth c A kc ks 8 Q (PLw z y o cL N0 cg mg f) 1534 [(4, .int i), (3, .ref o), (2, .ref (yad y 0)), (1, .ref (zad z 46)), (0, .ref b)] [] := by
  have hK : kc ≤ room_1.cells ∧ ks ≤ room_1.slots := ⟨Nat.le_of_succ_le hRc.1, Nat.le_trans (Nat.le_add_right _ 6) hRc.2⟩
  have E := eq_cost h.1.2.1 (xs (ix (i + 1)))
  refine l_aload_n C0 3 dL_law_1534 rfl rfl ?_
  refine l_aload_n C0 4 dL_law_1535 rfl rfl ?_
  refine l_iload C0 0 dL_law_1536 rfl ?_
  refine l_iconst C0 (v := 1) dL_law_1538 (by decide) ?_
  refine l_iadd C0 dL_law_1539 ?_
  refine q_xs C0 F hi.1 dL_law_1540 ?_
  refine q_ci C0 F (c_X5_cost l z _ (xs (ix (i + 1))) h.2.1) yk_X5_cost w_659 ⟨Nat.le_of_ble_eq_true rfl, Nat.le_of_ble_eq_true rfl⟩ hK rfl rfl (Nat.le_of_ble_eq_true rfl) dL_law_1541 ?_
  refine l_aload_n C0 2 dL_law_1544 rfl rfl ?_
  refine l_aload_n C0 4 dL_law_1545 rfl rfl ?_
  refine l_iload C0 0 dL_law_1546 rfl ?_
  refine l_iconst C0 (v := 1) dL_law_1548 (by decide) ?_
  refine l_iadd C0 dL_law_1549 ?_
  refine q_xs C0 F hi.1 dL_law_1550 ?_
  refine q_mi C0 F (c_X6_cost l y _ (xs (ix (i + 1))) h.2.2.1) yk_X6_cost w_1151 ⟨Nat.le_of_ble_eq_true rfl, Nat.le_of_ble_eq_true rfl⟩ hK rfl rfl (Nat.le_of_ble_eq_true rfl) dL_law_1551 ?_
  refine l_icmp_eq C0 1584 dL_law_1554 (by decide) (fun _ => ?_) (fun q => absurd E q)
  exact q_wide ⟨Nat.le_succ _, Nat.le_add_right _ 6⟩ (kk _ _ _ h)
theorem case_39 (C0 : jb p s m args c cL_law 8 RL) (F : FX s A z y b L xs o cL N0) (hfl : l.stackTraces = false) (h : RI cg mg) (hi : HI i L) (hRc : kc + 1 ≤ room_1.cells ∧ ks + 6 ≤ room_1.slots) (kk : KK p l e s m args below meth c A (kc + 1) (ks + 6) Q z y b o cL N0 i) : jl p l e room_1 s m args below meth c A kc ks 8 Q (PLw z y o cL N0 cg mg f) 1559 [(4, .int i), (3, .ref o), (2, .ref (yad y 0)), (1, .ref (zad z 46)), (0, .ref b)] [] := by
  have hK : kc ≤ room_1.cells ∧ ks ≤ room_1.slots := ⟨Nat.le_of_succ_le hRc.1, Nat.le_trans (Nat.le_add_right _ 6) hRc.2⟩
  have E := eq_toss h.1.2.1 (xs (ix (i + 1)))
  refine l_aload_n C0 3 dL_law_1559 rfl rfl ?_
  refine l_aload_n C0 4 dL_law_1560 rfl rfl ?_
  refine l_iload C0 0 dL_law_1561 rfl ?_
  refine l_iconst C0 (v := 1) dL_law_1563 (by decide) ?_
  refine l_iadd C0 dL_law_1564 ?_
  refine q_xs C0 F hi.1 dL_law_1565 ?_
  refine q_toss C0 F hfl (rest := []) h.2.1 w_667 ⟨Nat.le_of_ble_eq_true rfl, Nat.le_of_ble_eq_true rfl⟩ hRc (Nat.le_of_ble_eq_true rfl) dL_law_1566 ?_
  refine l_aload_n C0 2 dL_law_1569 rfl rfl ?_
  refine l_aload_n C0 4 dL_law_1570 rfl rfl ?_
  refine l_iload C0 0 dL_law_1571 rfl ?_
  refine l_iconst C0 (v := 1) dL_law_1573 (by decide) ?_
  refine l_iadd C0 dL_law_1574 ?_
  refine q_xs C0 F hi.1 dL_law_1575 ?_
  refine q_mi C0 F (c_X6_toss l y _ (xs (ix (i + 1))) h.2.2.1) yk_X6_toss w_1158 ⟨Nat.le_of_ble_eq_true rfl, Nat.le_of_ble_eq_true rfl⟩ hRc rfl rfl (Nat.le_of_ble_eq_true rfl) dL_law_1576 ?_
  refine l_icmp_eq C0 1584 dL_law_1579 (by decide) (fun _ => ?_) (fun q => absurd E q)
  exact kk _ _ _ h
end LAWC
