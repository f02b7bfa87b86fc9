theorem lc_numbers {G : zG} {l : Launch} {nm : String} {a b bS Ls k : Nat} {xs : Nat → Int32} {M : zM} {Q : Option Value → zM → Prop} {bc bs : Nat}  (hX : zX G bS Ls xs) (hL : Ls < 2 ^ 31) (hk6 : 6 * k + 6 ≤ Ls) (hkT : 100 * (k + 1) < 2 ^ 24) (hSt : lS a b M k) (hn : ∀ M', lS a b M' (k + 1) → aj G l (kL nm) 84 1694 [(3, .int (nI (6 * k))), (0, .ref bS), (1, .ref a), (2, .ref b)] [] M' bc bs Q) : aj G l (kL nm) 84 1465 [(3, .int (nI (6 * k))), (0, .ref bS), (1, .ref a), (2, .ref b)] [] M bc bs Q := by
  obtain ⟨t, n, V0, W0, R, I, A, L, hg, hs⟩ := hSt
  obtain ⟨T, sl, ol, hH⟩ := hs.cH
  have hB := hH.2.2.2
  have hTr := hs.2.2.1
  have h33 : ∀ j, j < 4 → bd (A 33 j) 40 := fun j hj => (hTr j hj).1
  have hI := hs.2.1.2.1
  have h28 := hisR_b hI
  have hkW := hg.2.2.2.1
  obtain ⟨Ap, p32, p33⟩ := two_up (if inR (xs ((6 * k) + 1)) 0 3 ∧ inR (xs ((6 * k) + 2)) 0 3 ∧ inR (xs ((6 * k) + 3)) 0 40 then upd (A 32) (mN (xs ((6 * k) + 1))) (xs ((6 * k) + 2)) else A 32) (if inR (xs ((6 * k) + 1)) 0 3 ∧ inR (xs ((6 * k) + 2)) 0 3 ∧ inR (xs ((6 * k) + 3)) 0 40 then upd (A 33) (mN (xs ((6 * k) + 1))) (xs ((6 * k) + 3)) else A 33)
  obtain ⟨Lp, p34⟩ := one_up (if inR (xs ((6 * k) + 1)) 0 3 ∧ inR (xs ((6 * k) + 2)) 0 3 ∧ inR (xs ((6 * k) + 3)) 0 40 then zfil (L 34) (40 * mN (xs ((6 * k) + 1))) (mN (xs ((6 * k) + 3))) else L 34)
  refine aj.aload_n dL_law_1465 rfl ?_
  refine aj.aload_n dL_law_1466 rfl ?_
  refine aj.iload_n dL_law_1467 rfl ?_
  refine aj.iconst (v := 1) dL_law_1468 rfl ?_
  refine aj.iaddN (a := 6 * k) (b := 1) dL_law_1469 rfl rfl ?_
  refine aj.sci hX (j := (6 * k) + 1) rfl (by omega) hL dL_law_1470 ?_
  refine aj.aload_n dL_law_1471 rfl ?_
  refine aj.iload_n dL_law_1472 rfl ?_
  refine aj.iconst (v := 2) dL_law_1473 rfl ?_
  refine aj.iaddN (a := 6 * k) (b := 2) dL_law_1474 rfl rfl ?_
  refine aj.sci hX (j := (6 * k) + 2) rfl (by omega) hL dL_law_1475 ?_
  refine aj.aload_n dL_law_1476 rfl ?_
  refine aj.iload_n dL_law_1477 rfl ?_
  refine aj.iconst (v := 3) dL_law_1478 rfl ?_
  refine aj.iaddN (a := 6 * k) (b := 3) dL_law_1479 rfl rfl ?_
  refine aj.sci hX (j := (6 * k) + 3) rfl (by omega) hL dL_law_1480 ?_
  refine aj.callE1 (d' := 2) (bc := bc) (bs := bs) (kc := 0) (ks := 0) (As := [.int (xs ((6 * k) + 1)), .int (xs ((6 * k) + 2)), .int (xs ((6 * k) + 3))]) (rest := []) dL_law_1481 v_L_180 li_X11_numbers hg.obC rfl rfl rfl (Nat.le_of_ble_eq_true rfl) (Nat.le_of_ble_eq_true rfl) (p_numbers ((xs ((6 * k) + 1))) ((xs ((6 * k) + 2))) ((xs ((6 * k) + 3))) hkW hH hTr p32 p33 p34) (fun M1 hM => ?_)
  obtain ⟨V1, W1, hM1, hv1, ht1⟩ := hM
  obtain ⟨hg1, hk1⟩ := hg.c hM1 rfl
  refine aj.aload_n dL_law_1484 rfl ?_
  refine aj.aload_n dL_law_1485 rfl ?_
  refine aj.iload_n dL_law_1486 rfl ?_
  refine aj.iconst (v := 1) dL_law_1487 rfl ?_
  refine aj.iaddN (a := 6 * k) (b := 1) dL_law_1488 rfl rfl ?_
  refine aj.sci hX (j := (6 * k) + 1) rfl (by omega) hL dL_law_1489 ?_
  refine aj.aload_n dL_law_1490 rfl ?_
  refine aj.iload_n dL_law_1491 rfl ?_
  refine aj.iconst (v := 2) dL_law_1492 rfl ?_
  refine aj.iaddN (a := 6 * k) (b := 2) dL_law_1493 rfl rfl ?_
  refine aj.sci hX (j := (6 * k) + 2) rfl (by omega) hL dL_law_1494 ?_
  refine aj.aload_n dL_law_1495 rfl ?_
  refine aj.iload_n dL_law_1496 rfl ?_
  refine aj.iconst (v := 3) dL_law_1497 rfl ?_
  refine aj.iaddN (a := 6 * k) (b := 3) dL_law_1498 rfl rfl ?_
  refine aj.sci hX (j := (6 * k) + 3) rfl (by omega) hL dL_law_1499 ?_
  refine aj.callE1 (d' := 1) (bc := bc) (bs := bs) (kc := 0) (ks := 0) (As := [.int (xs ((6 * k) + 1)), .int (xs ((6 * k) + 2)), .int (xs ((6 * k) + 3))]) (rest := [.int _]) dL_law_1500 v_L_183 li_X12_numbers hg1.obR rfl rfl rfl (Nat.le_of_ble_eq_true rfl) (Nat.le_of_ble_eq_true rfl) (q_numbers ((xs ((6 * k) + 1))) ((xs ((6 * k) + 2))) ((xs ((6 * k) + 3))) hg1.2.2.2.2.1 ) (fun M2 hM => ?_)
  obtain ⟨A1, L1, hM2, q32, q33, eA, q34, eL⟩ := hM
  obtain ⟨hg2, hk2⟩ := hg1.r hM2
  refine aj.icmp_eq (tgt := 1694) dL_law_1503 rfl (fun c1503 => ?_) (fun c1503 => ?_)
  · refine aj.pick [0, 1, 2, 3] rfl ?_
    exact hn M2 ⟨t, n, V1, W1, R, I, A1, L1, hg2, ((hs.kp (hk1.trans hk2)).tray hv1 (trR_eq (q32.trans p32.symm) (q33.trans p33.symm) (q34.trans p34.symm) ht1) eA).more (by omega) hkT⟩
  · exact absurd (rfl) c1503
theorem lc_write {G : zG} {l : Launch} {nm : String} {a b bS Ls k : Nat} {xs : Nat → Int32} {M : zM} {Q : Option Value → zM → Prop} {bc bs : Nat}  (hX : zX G bS Ls xs) (hL : Ls < 2 ^ 31) (hk6 : 6 * k + 6 ≤ Ls) (hkT : 100 * (k + 1) < 2 ^ 24) (hSt : lS a b M k) (hn : ∀ M', lS a b M' (k + 1) → aj G l (kL nm) 84 1694 [(3, .int (nI (6 * k))), (0, .ref bS), (1, .ref a), (2, .ref b)] [] M' bc bs Q) : aj G l (kL nm) 84 1508 [(3, .int (nI (6 * k))), (0, .ref bS), (1, .ref a), (2, .ref b)] [] M bc bs Q := by
  obtain ⟨t, n, V0, W0, R, I, A, L, hg, hs⟩ := hSt
  obtain ⟨T, sl, ol, hH⟩ := hs.cH
  have hB := hH.2.2.2
  have hTr := hs.2.2.1
  have h33 : ∀ j, j < 4 → bd (A 33 j) 40 := fun j hj => (hTr j hj).1
  have hI := hs.2.1.2.1
  have h28 := hisR_b hI
  have hkW := hg.2.2.2.1
  obtain ⟨Lp, p34⟩ := one_up (if inR (xs ((6 * k) + 1)) 0 3 ∧ ¬ A 32 (mN (xs ((6 * k) + 1))) = -1 ∧ inR (xs ((6 * k) + 2)) 0 ((mN (A 33 (mN (xs ((6 * k) + 1)))) : Int) - 1) then vp_updL (L 34) (40 * mN (xs ((6 * k) + 1)) + mN (xs ((6 * k) + 2))) (mCut ((Int32.toInt64 (xs ((6 * k) + 3)) <<< (Int32.toInt64 32 &&& 63)) ||| (Int32.toInt64 (xs ((6 * k) + 4)) &&& 4294967295)) (A 32 (mN (xs ((6 * k) + 1))))) else L 34)
  refine aj.aload_n dL_law_1508 rfl ?_
  refine aj.aload_n dL_law_1509 rfl ?_
  refine aj.iload_n dL_law_1510 rfl ?_
  refine aj.iconst (v := 1) dL_law_1511 rfl ?_
  refine aj.iaddN (a := 6 * k) (b := 1) dL_law_1512 rfl rfl ?_
  refine aj.sci hX (j := (6 * k) + 1) rfl (by omega) hL dL_law_1513 ?_
  refine aj.aload_n dL_law_1514 rfl ?_
  refine aj.iload_n dL_law_1515 rfl ?_
  refine aj.iconst (v := 2) dL_law_1516 rfl ?_
  refine aj.iaddN (a := 6 * k) (b := 2) dL_law_1517 rfl rfl ?_
  refine aj.sci hX (j := (6 * k) + 2) rfl (by omega) hL dL_law_1518 ?_
  refine aj.aload_n dL_law_1519 rfl ?_
  refine aj.iload_n dL_law_1520 rfl ?_
  refine aj.iconst (v := 3) dL_law_1521 rfl ?_
  refine aj.iaddN (a := 6 * k) (b := 3) dL_law_1522 rfl rfl ?_
  refine aj.sci hX (j := (6 * k) + 3) rfl (by omega) hL dL_law_1523 ?_
  refine aj.i2l dL_law_1524 ?_
  refine aj.bipush (v := 32) dL_law_1525 rfl ?_
  refine aj.lshl dL_law_1527 ?_
  refine aj.aload_n dL_law_1528 rfl ?_
  refine aj.iload_n dL_law_1529 rfl ?_
  refine aj.iconst (v := 4) dL_law_1530 rfl ?_
  refine aj.iaddN (a := 6 * k) (b := 4) dL_law_1531 rfl rfl ?_
  refine aj.sci hX (j := (6 * k) + 4) rfl (by omega) hL dL_law_1532 ?_
  refine aj.i2l dL_law_1533 ?_
  refine aj.ldc2 dL_law_1534 w1872 ?_
  refine aj.land dL_law_1537 ?_
  refine aj.lor dL_law_1538 ?_
  refine aj.callE1 (d' := 2) (bc := bc) (bs := bs) (kc := 0) (ks := 0) (As := [.int (xs ((6 * k) + 1)), .int (xs ((6 * k) + 2)), .long (((Int32.toInt64 (xs ((6 * k) + 3))) <<< (Int32.toInt64 32 &&& 63)) ||| ((Int32.toInt64 (xs ((6 * k) + 4))) &&& 4294967295))]) (rest := []) dL_law_1539 v_L_186 li_X11_write hg.obC rfl rfl rfl (Nat.le_of_ble_eq_true rfl) (Nat.le_of_ble_eq_true rfl) (p_write ((xs ((6 * k) + 1))) ((xs ((6 * k) + 2))) ((((Int32.toInt64 (xs ((6 * k) + 3))) <<< (Int32.toInt64 32 &&& 63)) ||| ((Int32.toInt64 (xs ((6 * k) + 4))) &&& 4294967295))) hkW hH hTr p34) (fun M1 hM => ?_)
  obtain ⟨V1, W1, hM1, hv1, ht1⟩ := hM
  obtain ⟨hg1, hk1⟩ := hg.c hM1 rfl
  refine aj.aload_n dL_law_1542 rfl ?_
  refine aj.aload_n dL_law_1543 rfl ?_
  refine aj.iload_n dL_law_1544 rfl ?_
  refine aj.iconst (v := 1) dL_law_1545 rfl ?_
  refine aj.iaddN (a := 6 * k) (b := 1) dL_law_1546 rfl rfl ?_
  refine aj.sci hX (j := (6 * k) + 1) rfl (by omega) hL dL_law_1547 ?_
  refine aj.aload_n dL_law_1548 rfl ?_
  refine aj.iload_n dL_law_1549 rfl ?_
  refine aj.iconst (v := 2) dL_law_1550 rfl ?_
  refine aj.iaddN (a := 6 * k) (b := 2) dL_law_1551 rfl rfl ?_
  refine aj.sci hX (j := (6 * k) + 2) rfl (by omega) hL dL_law_1552 ?_
  refine aj.aload_n dL_law_1553 rfl ?_
  refine aj.iload_n dL_law_1554 rfl ?_
  refine aj.iconst (v := 3) dL_law_1555 rfl ?_
  refine aj.iaddN (a := 6 * k) (b := 3) dL_law_1556 rfl rfl ?_
  refine aj.sci hX (j := (6 * k) + 3) rfl (by omega) hL dL_law_1557 ?_
  refine aj.i2l dL_law_1558 ?_
  refine aj.bipush (v := 32) dL_law_1559 rfl ?_
  refine aj.lshl dL_law_1561 ?_
  refine aj.aload_n dL_law_1562 rfl ?_
  refine aj.iload_n dL_law_1563 rfl ?_
  refine aj.iconst (v := 4) dL_law_1564 rfl ?_
  refine aj.iaddN (a := 6 * k) (b := 4) dL_law_1565 rfl rfl ?_
  refine aj.sci hX (j := (6 * k) + 4) rfl (by omega) hL dL_law_1566 ?_
  refine aj.i2l dL_law_1567 ?_
  refine aj.ldc2 dL_law_1568 w1872 ?_
  refine aj.land dL_law_1571 ?_
  refine aj.lor dL_law_1572 ?_
  refine aj.callE1 (d' := 2) (bc := bc) (bs := bs) (kc := 0) (ks := 0) (As := [.int (xs ((6 * k) + 1)), .int (xs ((6 * k) + 2)), .long (((Int32.toInt64 (xs ((6 * k) + 3))) <<< (Int32.toInt64 32 &&& 63)) ||| ((Int32.toInt64 (xs ((6 * k) + 4))) &&& 4294967295))]) (rest := [.long _]) dL_law_1573 v_L_190 li_X12_write hg1.obR rfl rfl rfl (Nat.le_of_ble_eq_true rfl) (Nat.le_of_ble_eq_true rfl) (q_write ((xs ((6 * k) + 1))) ((xs ((6 * k) + 2))) ((((Int32.toInt64 (xs ((6 * k) + 3))) <<< (Int32.toInt64 32 &&& 63)) ||| ((Int32.toInt64 (xs ((6 * k) + 4))) &&& 4294967295))) hg1.2.2.2.2.1 h33 hB) (fun M2 hM => ?_)
  obtain ⟨L1, hM2, q34, eL⟩ := hM
  obtain ⟨hg2, hk2⟩ := hg1.r hM2
  refine aj.lif_eq (tgt := 1694) dL_law_1576 dL_law_1577 rfl (fun c1576 => ?_) (fun c1576 => ?_)
  · refine aj.pick [0, 1, 2, 3] rfl ?_
    exact hn M2 ⟨t, n, V1, W1, R, I, A, L1, hg2, ((hs.kp (hk1.trans hk2)).tray hv1 (trR_eq rfl rfl (q34.trans p34.symm) ht1) (fun _ _ _ => rfl)).more (by omega) hkT⟩
  · exact absurd (rfl) c1576
theorem lc_lists {G : zG} {l : Launch} {nm : String} {a b bS Ls k : Nat} {xs : Nat → Int32} {M : zM} {Q : Option Value → zM → Prop} {bc bs : Nat}  (hX : zX G bS Ls xs) (hL : Ls < 2 ^ 31) (hk6 : 6 * k + 6 ≤ Ls) (hkT : 100 * (k + 1) < 2 ^ 24) (hSt : lS a b M k) (hn : ∀ M', lS a b M' (k + 1) → aj G l (kL nm) 84 1694 [(3, .int (nI (6 * k))), (0, .ref bS), (1, .ref a), (2, .ref b)] [] M' bc bs Q) : aj G l (kL nm) 84 1582 [(3, .int (nI (6 * k))), (0, .ref bS), (1, .ref a), (2, .ref b)] [] M bc bs Q := by
  obtain ⟨t, n, V0, W0, R, I, A, L, hg, hs⟩ := hSt
  obtain ⟨T, sl, ol, hH⟩ := hs.cH
  have hB := hH.2.2.2
  have hTr := hs.2.2.1
  have h33 : ∀ j, j < 4 → bd (A 33 j) 40 := fun j hj => (hTr j hj).1
  have hI := hs.2.1.2.1
  have h28 := hisR_b hI
  have hkW := hg.2.2.2.1
  obtain ⟨Lp, p34⟩ := one_up (if (inR (xs ((6 * k) + 1)) 0 3 ∧ inR (xs ((6 * k) + 2)) 0 ((mN (A 1 6) : Int) - 1) ∧ inR (xs ((6 * k) + 3)) 0 20) ∧ ¬ A 32 (mN (xs ((6 * k) + 1))) = -1 then zlst (L 34) (40 * mN (xs ((6 * k) + 1))) (fun j => mLn (A 1) sl (mN (xs ((6 * k) + 2))) (mN (xs ((6 * k) + 3))) j) (if mN (A 33 (mN (xs ((6 * k) + 1)))) < 10 then mN (A 33 (mN (xs ((6 * k) + 1)))) else 10) else L 34)
  refine aj.aload_n dL_law_1582 rfl ?_
  refine aj.aload_n dL_law_1583 rfl ?_
  refine aj.iload_n dL_law_1584 rfl ?_
  refine aj.iconst (v := 1) dL_law_1585 rfl ?_
  refine aj.iaddN (a := 6 * k) (b := 1) dL_law_1586 rfl rfl ?_
  refine aj.sci hX (j := (6 * k) + 1) rfl (by omega) hL dL_law_1587 ?_
  refine aj.aload_n dL_law_1588 rfl ?_
  refine aj.iload_n dL_law_1589 rfl ?_
  refine aj.iconst (v := 2) dL_law_1590 rfl ?_
  refine aj.iaddN (a := 6 * k) (b := 2) dL_law_1591 rfl rfl ?_
  refine aj.sci hX (j := (6 * k) + 2) rfl (by omega) hL dL_law_1592 ?_
  refine aj.aload_n dL_law_1593 rfl ?_
  refine aj.iload_n dL_law_1594 rfl ?_
  refine aj.iconst (v := 3) dL_law_1595 rfl ?_
  refine aj.iaddN (a := 6 * k) (b := 3) dL_law_1596 rfl rfl ?_
  refine aj.sci hX (j := (6 * k) + 3) rfl (by omega) hL dL_law_1597 ?_
  refine aj.callE1 (d' := 6) (bc := bc) (bs := bs) (kc := 0) (ks := 0) (As := [.int (xs ((6 * k) + 1)), .int (xs ((6 * k) + 2)), .int (xs ((6 * k) + 3))]) (rest := []) dL_law_1598 v_L_191 li_X11_lists hg.obC rfl rfl rfl (Nat.le_of_ble_eq_true rfl) (Nat.le_of_ble_eq_true rfl) (p_lists ((xs ((6 * k) + 1))) ((xs ((6 * k) + 2))) ((xs ((6 * k) + 3))) hkW hH hTr p34) (fun M1 hM => ?_)
  obtain ⟨V1, W1, hM1, hv1, ht1⟩ := hM
  obtain ⟨hg1, hk1⟩ := hg.c hM1 rfl
  refine aj.aload_n dL_law_1601 rfl ?_
  refine aj.aload_n dL_law_1602 rfl ?_
  refine aj.iload_n dL_law_1603 rfl ?_
  refine aj.iconst (v := 1) dL_law_1604 rfl ?_
  refine aj.iaddN (a := 6 * k) (b := 1) dL_law_1605 rfl rfl ?_
  refine aj.sci hX (j := (6 * k) + 1) rfl (by omega) hL dL_law_1606 ?_
  refine aj.aload_n dL_law_1607 rfl ?_
  refine aj.iload_n dL_law_1608 rfl ?_
  refine aj.iconst (v := 2) dL_law_1609 rfl ?_
  refine aj.iaddN (a := 6 * k) (b := 2) dL_law_1610 rfl rfl ?_
  refine aj.sci hX (j := (6 * k) + 2) rfl (by omega) hL dL_law_1611 ?_
  refine aj.aload_n dL_law_1612 rfl ?_
  refine aj.iload_n dL_law_1613 rfl ?_
  refine aj.iconst (v := 3) dL_law_1614 rfl ?_
  refine aj.iaddN (a := 6 * k) (b := 3) dL_law_1615 rfl rfl ?_
  refine aj.sci hX (j := (6 * k) + 3) rfl (by omega) hL dL_law_1616 ?_
  refine aj.callE1 (d' := 4) (bc := bc) (bs := bs) (kc := 0) (ks := 0) (As := [.int (xs ((6 * k) + 1)), .int (xs ((6 * k) + 2)), .int (xs ((6 * k) + 3))]) (rest := [.int _]) dL_law_1617 v_L_194 li_X12_lists hg1.obR rfl rfl rfl (Nat.le_of_ble_eq_true rfl) (Nat.le_of_ble_eq_true rfl) (q_lists ((xs ((6 * k) + 1))) ((xs ((6 * k) + 2))) ((xs ((6 * k) + 3))) hg1.2.2.2.2.1 h33 hB) (fun M2 hM => ?_)
  obtain ⟨L1, hM2, q34, eL⟩ := hM
  obtain ⟨hg2, hk2⟩ := hg1.r hM2
  refine aj.icmp_eq (tgt := 1694) dL_law_1620 rfl (fun c1620 => ?_) (fun c1620 => ?_)
  · refine aj.pick [0, 1, 2, 3] rfl ?_
    exact hn M2 ⟨t, n, V1, W1, R, I, A, L1, hg2, ((hs.kp (hk1.trans hk2)).tray hv1 (trR_eq rfl rfl (q34.trans p34.symm) ht1) (fun _ _ _ => rfl)).more (by omega) hkT⟩
  · exact absurd (rfl) c1620
theorem lc_image {G : zG} {l : Launch} {nm : String} {a b bS Ls k : Nat} {xs : Nat → Int32} {M : zM} {Q : Option Value → zM → Prop} {bc bs : Nat}  (hX : zX G bS Ls xs) (hL : Ls < 2 ^ 31) (hk6 : 6 * k + 6 ≤ Ls) (hkT : 100 * (k + 1) < 2 ^ 24) (hSt : lS a b M k) (hn : ∀ M', lS a b M' (k + 1) → aj G l (kL nm) 84 1694 [(3, .int (nI (6 * k))), (0, .ref bS), (1, .ref a), (2, .ref b)] [] M' bc bs Q) : aj G l (kL nm) 84 1625 [(3, .int (nI (6 * k))), (0, .ref bS), (1, .ref a), (2, .ref b)] [] M bc bs Q := by
  obtain ⟨t, n, V0, W0, R, I, A, L, hg, hs⟩ := hSt
  obtain ⟨T, sl, ol, hH⟩ := hs.cH
  have hB := hH.2.2.2
  have hTr := hs.2.2.1
  have h33 : ∀ j, j < 4 → bd (A 33 j) 40 := fun j hj => (hTr j hj).1
  have hI := hs.2.1.2.1
  have h28 := hisR_b hI
  have hkW := hg.2.2.2.1
  refine aj.aload_n dL_law_1625 rfl ?_
  refine aj.aload_n dL_law_1626 rfl ?_
  refine aj.iload_n dL_law_1627 rfl ?_
  refine aj.iconst (v := 1) dL_law_1628 rfl ?_
  refine aj.iaddN (a := 6 * k) (b := 1) dL_law_1629 rfl rfl ?_
  refine aj.sci hX (j := (6 * k) + 1) rfl (by omega) hL dL_law_1630 ?_
  refine aj.callE1 (d' := 1) (bc := bc) (bs := bs) (kc := 0) (ks := 0) (As := [.int (xs ((6 * k) + 1))]) (rest := []) dL_law_1631 v_L_195 li_X11_image hg.obC rfl rfl rfl (Nat.le_of_ble_eq_true rfl) (Nat.le_of_ble_eq_true rfl) (p_image ((xs ((6 * k) + 1))) hkW hH ) (fun M1 hM => ?_)
  have hR1 : (if inR (xs ((6 * k) + 1)) 0 1 then va_up R 47 (va_up (R 47) (mN (xs ((6 * k) + 1))) (some T)) else R) 0 1 = R 0 1 := by
    by_cases hq : inR (xs ((6 * k) + 1)) 0 1
    · rw [if_pos hq, va_up_ne _ _ (by decide)]
    · rw [if_neg hq]
  obtain ⟨hg1, hk1⟩ := hg.c hM hR1
  refine aj.aload_n dL_law_1634 rfl ?_
  refine aj.aload_n dL_law_1635 rfl ?_
  refine aj.iload_n dL_law_1636 rfl ?_
  refine aj.iconst (v := 1) dL_law_1637 rfl ?_
  refine aj.iaddN (a := 6 * k) (b := 1) dL_law_1638 rfl rfl ?_
  refine aj.sci hX (j := (6 * k) + 1) rfl (by omega) hL dL_law_1639 ?_
  refine aj.callE1 (d' := 1) (bc := bc) (bs := bs) (kc := 0) (ks := 0) (As := [.int (xs ((6 * k) + 1))]) (rest := [.int _]) dL_law_1640 v_L_198 li_X12_image hg1.obR rfl rfl rfl (Nat.le_of_ble_eq_true rfl) (Nat.le_of_ble_eq_true rfl) (q_image ((xs ((6 * k) + 1))) hg1.2.2.2.2.1 ) (fun M2 hM => ?_)
  obtain ⟨A1, hM2, e1, e2, eA⟩ := hM
  obtain ⟨hg2, hk2⟩ := hg1.r hM2
  refine aj.icmp_eq (tgt := 1694) dL_law_1643 rfl (fun c1643 => ?_) (fun c1643 => ?_)
  · refine aj.pick [0, 1, 2, 3] rfl ?_
    by_cases hq : inR (xs ((6 * k) + 1)) 0 1
    · rw [if_pos hq] at e1 e2
      rw [if_pos hq, if_pos hq] at hg2
      exact hn M2 ⟨t, n, _, W0, _, I, A1, L, hg2, ((hs.kp (hk1.trans hk2)).image (Nat.lt_succ_of_le (inR_bd (n := 1) hq (by decide)).2) hH.1 e1 e2 eA).more (by omega) hkT⟩
    · rw [if_neg hq] at e1 e2
      rw [if_neg hq, if_neg hq] at hg2
      have e3 := eA 3 (by decide) (by decide)
      have e32 := eA 32 (by decide) (by decide)
      have e33 := eA 33 (by decide) (by decide)
      exact hn M2 ⟨t, n, V0, W0, R, I, A1, L, hg2, ((hs.kp (hk1.trans hk2)).cong rfl rfl rfl e1 e2 e3 e32 e33 rfl).more (by omega) hkT⟩
  · exact absurd (rfl) c1643
theorem lc_restore {G : zG} {l : Launch} {nm : String} {a b bS Ls k : Nat} {xs : Nat → Int32} {M : zM} {Q : Option Value → zM → Prop} {bc bs : Nat}  (hX : zX G bS Ls xs) (hL : Ls < 2 ^ 31) (hk6 : 6 * k + 6 ≤ Ls) (hkT : 100 * (k + 1) < 2 ^ 24) (hSt : lS a b M k) (hn : ∀ M', lS a b M' (k + 1) → aj G l (kL nm) 84 1694 [(3, .int (nI (6 * k))), (0, .ref bS), (1, .ref a), (2, .ref b)] [] M' bc bs Q) : aj G l (kL nm) 84 1648 [(3, .int (nI (6 * k))), (0, .ref bS), (1, .ref a), (2, .ref b)] [] M bc bs Q := by
  obtain ⟨t, n, V0, W0, R, I, A, L, hg, hs⟩ := hSt
  obtain ⟨T, sl, ol, hH⟩ := hs.cH
  have hB := hH.2.2.2
  have hTr := hs.2.2.1
  have h33 : ∀ j, j < 4 → bd (A 33 j) 40 := fun j hj => (hTr j hj).1
  have hI := hs.2.1.2.1
  have h28 := hisR_b hI
  have hkW := hg.2.2.2.1
  refine aj.aload_n dL_law_1648 rfl ?_
  refine aj.aload_n dL_law_1649 rfl ?_
  refine aj.iload_n dL_law_1650 rfl ?_
  refine aj.iconst (v := 1) dL_law_1651 rfl ?_
  refine aj.iaddN (a := 6 * k) (b := 1) dL_law_1652 rfl rfl ?_
  refine aj.sci hX (j := (6 * k) + 1) rfl (by omega) hL dL_law_1653 ?_
  refine aj.callE1 (d' := 1) (bc := bc) (bs := bs) (kc := 0) (ks := 0) (As := [.int (xs ((6 * k) + 1))]) (rest := []) dL_law_1654 v_L_199 li_X11_restore hg.obC rfl rfl rfl (Nat.le_of_ble_eq_true rfl) (Nat.le_of_ble_eq_true rfl) (p_restore ((xs ((6 * k) + 1))) hkW hH (G2 := A 2) (fun i hi => (hs.2.2.2.1 i hi).1)) (fun M1 hM => ?_)
  have hR1 : (if inR (xs ((6 * k) + 1)) 0 1 ∧ ¬ A 2 (mN (xs ((6 * k) + 1))) = 0 then va_up R 0 (va_up (R 0) 0 (R 47 (mN (xs ((6 * k) + 1))))) else R) 0 1 = R 0 1 := by
    by_cases hq : inR (xs ((6 * k) + 1)) 0 1 ∧ ¬ A 2 (mN (xs ((6 * k) + 1))) = 0
    · rw [if_pos hq, va_up_self, va_up_ne _ _ (by decide)]
    · rw [if_neg hq]
  obtain ⟨hg1, hk1⟩ := hg.c hM hR1
  refine aj.aload_n dL_law_1657 rfl ?_
  refine aj.aload_n dL_law_1658 rfl ?_
  refine aj.iload_n dL_law_1659 rfl ?_
  refine aj.iconst (v := 1) dL_law_1660 rfl ?_
  refine aj.iaddN (a := 6 * k) (b := 1) dL_law_1661 rfl rfl ?_
  refine aj.sci hX (j := (6 * k) + 1) rfl (by omega) hL dL_law_1662 ?_
  refine aj.callE1 (d' := 1) (bc := bc) (bs := bs) (kc := 0) (ks := 0) (As := [.int (xs ((6 * k) + 1))]) (rest := [.int _]) dL_law_1663 v_L_202 li_X12_restore hg1.obR rfl rfl rfl (Nat.le_of_ble_eq_true rfl) (Nat.le_of_ble_eq_true rfl) (q_restore ((xs ((6 * k) + 1))) hg1.2.2.2.2.1 ) (fun M2 hM => ?_)
  obtain ⟨A1, hM2, e1, eA⟩ := hM
  obtain ⟨hg2, hk2⟩ := hg1.r hM2
  refine aj.icmp_eq (tgt := 1694) dL_law_1666 rfl (fun c1666 => ?_) (fun c1666 => ?_)
  · refine aj.pick [0, 1, 2, 3] rfl ?_
    by_cases hq : inR (xs ((6 * k) + 1)) 0 1 ∧ ¬ A 2 (mN (xs ((6 * k) + 1))) = 0
    · rw [if_pos hq] at e1
      rw [if_pos hq, if_pos hq] at hg2
      exact hn M2 ⟨t, n, _, W0, _, I, A1, L, hg2, ((hs.kp (hk1.trans hk2)).restore (Nat.lt_succ_of_le (inR_bd (n := 1) hq.1 (by decide)).2) hq.2 e1 eA).more (by omega) hkT⟩
    · rw [if_neg hq] at e1
      rw [if_neg hq, if_neg hq] at hg2
      have e2 := eA 2 (by decide)
      have e3 := eA 3 (by decide)
      have e32 := eA 32 (by decide)
      have e33 := eA 33 (by decide)
      exact hn M2 ⟨t, n, V0, W0, R, I, A1, L, hg2, ((hs.kp (hk1.trans hk2)).cong rfl rfl rfl e1 e2 e3 e32 e33 rfl).more (by omega) hkT⟩
  · exact absurd (rfl) c1666
theorem lc_feed {G : zG} {l : Launch} {nm : String} {a b bS Ls k : Nat} {xs : Nat → Int32} {M : zM} {Q : Option Value → zM → Prop} {bc bs : Nat}  (hX : zX G bS Ls xs) (hL : Ls < 2 ^ 31) (hk6 : 6 * k + 6 ≤ Ls) (hkT : 100 * (k + 1) < 2 ^ 24) (hSt : lS a b M k) (hn : ∀ M', lS a b M' (k + 1) → aj G l (kL nm) 84 1694 [(3, .int (nI (6 * k))), (0, .ref bS), (1, .ref a), (2, .ref b)] [] M' bc bs Q) : aj G l (kL nm) 84 232 [(3, .int (nI (6 * k))), (0, .ref bS), (1, .ref a), (2, .ref b)] [] M bc bs Q := by
  obtain ⟨t, n, V0, W0, R, I, A, L, hg, hs⟩ := hSt
  obtain ⟨T, sl, ol, hH⟩ := hs.cH
  have hB := hH.2.2.2
  have hTr := hs.2.2.1
  have h33 : ∀ j, j < 4 → bd (A 33 j) 40 := fun j hj => (hTr j hj).1
  have hI := hs.2.1.2.1
  have h28 := hisR_b hI
  have hkW := hg.2.2.2.1
  have h00 := hs.2.2.2.2.1.1
  have hI5 := hs.2.2.2.2.1.2.1
  have hV5 : bd (V0 0 0) 900 := by rw [h00]; exact hI5
  have hTp : ∀ j, j < mN (V0 0 0) → V0 1 j = vp_nar .byte (A 3 j) := fun j hj => hs.2.2.2.2.1.2.2.2 j (by rw [← h00]; exact hj)
  refine aj.aload_n dL_law_232 rfl ?_
  refine aj.aload_n dL_law_233 rfl ?_
  refine aj.iload_n dL_law_234 rfl ?_
  refine aj.iconst (v := 1) dL_law_235 rfl ?_
  refine aj.iaddN (a := 6 * k) (b := 1) dL_law_236 rfl rfl ?_
  refine aj.sci hX (j := (6 * k) + 1) rfl (by omega) hL dL_law_237 ?_
  refine aj.aload_n dL_law_238 rfl ?_
  refine aj.iload_n dL_law_239 rfl ?_
  refine aj.iconst (v := 2) dL_law_240 rfl ?_
  refine aj.iaddN (a := 6 * k) (b := 2) dL_law_241 rfl rfl ?_
  refine aj.sci hX (j := (6 * k) + 2) rfl (by omega) hL dL_law_242 ?_
  refine aj.aload_n dL_law_243 rfl ?_
  refine aj.iload_n dL_law_244 rfl ?_
  refine aj.iconst (v := 3) dL_law_245 rfl ?_
  refine aj.iaddN (a := 6 * k) (b := 3) dL_law_246 rfl rfl ?_
  refine aj.sci hX (j := (6 * k) + 3) rfl (by omega) hL dL_law_247 ?_
  refine aj.aload_n dL_law_248 rfl ?_
  refine aj.iload_n dL_law_249 rfl ?_
  refine aj.iconst (v := 4) dL_law_250 rfl ?_
  refine aj.iaddN (a := 6 * k) (b := 4) dL_law_251 rfl rfl ?_
  refine aj.sci hX (j := (6 * k) + 4) rfl (by omega) hL dL_law_252 ?_
  refine aj.aload_n dL_law_253 rfl ?_
  refine aj.iload_n dL_law_254 rfl ?_
  refine aj.iconst (v := 5) dL_law_255 rfl ?_
  refine aj.iaddN (a := 6 * k) (b := 5) dL_law_256 rfl rfl ?_
  refine aj.sci hX (j := (6 * k) + 5) rfl (by omega) hL dL_law_257 ?_
  refine aj.callE1 (d' := 1) (bc := bc) (bs := bs) (kc := 0) (ks := 0) (As := [.int (xs ((6 * k) + 1)), .int (xs ((6 * k) + 2)), .int (xs ((6 * k) + 3)), .int (xs ((6 * k) + 4)), .int (xs ((6 * k) + 5))]) (rest := []) dL_law_258 v_L_13 li_X11_feed hg.obC rfl rfl rfl (Nat.le_of_ble_eq_true rfl) (Nat.le_of_ble_eq_true rfl) (p_feed ((xs ((6 * k) + 1))) ((xs ((6 * k) + 2))) ((xs ((6 * k) + 3))) ((xs ((6 * k) + 4))) ((xs ((6 * k) + 5))) hkW hH hV5 hTp) (fun M1 hM => ?_)
  obtain ⟨V1, hM1, hv1, h001, hT1⟩ := hM
  obtain ⟨hg1, hk1⟩ := hg.c hM1 rfl
  refine aj.aload_n dL_law_261 rfl ?_
  refine aj.aload_n dL_law_262 rfl ?_
  refine aj.iload_n dL_law_263 rfl ?_
  refine aj.iconst (v := 1) dL_law_264 rfl ?_
  refine aj.iaddN (a := 6 * k) (b := 1) dL_law_265 rfl rfl ?_
  refine aj.sci hX (j := (6 * k) + 1) rfl (by omega) hL dL_law_266 ?_
  refine aj.aload_n dL_law_267 rfl ?_
  refine aj.iload_n dL_law_268 rfl ?_
  refine aj.iconst (v := 2) dL_law_269 rfl ?_
  refine aj.iaddN (a := 6 * k) (b := 2) dL_law_270 rfl rfl ?_
  refine aj.sci hX (j := (6 * k) + 2) rfl (by omega) hL dL_law_271 ?_
  refine aj.aload_n dL_law_272 rfl ?_
  refine aj.iload_n dL_law_273 rfl ?_
  refine aj.iconst (v := 3) dL_law_274 rfl ?_
  refine aj.iaddN (a := 6 * k) (b := 3) dL_law_275 rfl rfl ?_
  refine aj.sci hX (j := (6 * k) + 3) rfl (by omega) hL dL_law_276 ?_
  refine aj.aload_n dL_law_277 rfl ?_
  refine aj.iload_n dL_law_278 rfl ?_
  refine aj.iconst (v := 4) dL_law_279 rfl ?_
  refine aj.iaddN (a := 6 * k) (b := 4) dL_law_280 rfl rfl ?_
  refine aj.sci hX (j := (6 * k) + 4) rfl (by omega) hL dL_law_281 ?_
  refine aj.aload_n dL_law_282 rfl ?_
  refine aj.iload_n dL_law_283 rfl ?_
  refine aj.iconst (v := 5) dL_law_284 rfl ?_
  refine aj.iaddN (a := 6 * k) (b := 5) dL_law_285 rfl rfl ?_
  refine aj.sci hX (j := (6 * k) + 5) rfl (by omega) hL dL_law_286 ?_
  refine aj.callE1 (d' := 0) (bc := bc) (bs := bs) (kc := 0) (ks := 0) (As := [.int (xs ((6 * k) + 1)), .int (xs ((6 * k) + 2)), .int (xs ((6 * k) + 3)), .int (xs ((6 * k) + 4)), .int (xs ((6 * k) + 5))]) (rest := [.int _]) dL_law_287 v_L_17 li_X12_feed hg1.obR rfl rfl rfl (Nat.le_of_ble_eq_true rfl) (Nat.le_of_ble_eq_true rfl) (q_feed ((xs ((6 * k) + 1))) ((xs ((6 * k) + 2))) ((xs ((6 * k) + 3))) ((xs ((6 * k) + 4))) ((xs ((6 * k) + 5))) hg1.2.2.2.2.1 hI5) (fun M2 hM => ?_)
  obtain ⟨hg2, hk2⟩ := hg1.r hM
  refine aj.icmp_eq (tgt := 1694) dL_law_290 rfl (fun c290 => ?_) (fun c290 => ?_)
  · refine aj.pick [0, 1, 2, 3] rfl ?_
    exact hn M2 ⟨t, n, V1, W0, R, _, _, L, hg2, ((hs.kp (hk1.trans hk2)).feed hv1 h001 hT1).more (by omega) hkT⟩
  · exact absurd (by rw [h00]) c290
