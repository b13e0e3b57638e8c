/-! ===== what a text tells, 3 ===== -/
set_option maxHeartbeats 40000000 in
theorem f_X12_tell_C (T : qTabOk) {M : qM} {S : Int} {mn gn : List Int} (hIM : INV S M) (p1 : M 84 19 = 1 - M 84 18) (p2 : M 84 13 = 0) (p3 : M 84 12 = 0) (p4 : 420 * M 84 19 ≤ M 84 48) (p5 : M 84 48 - 420 * M 84 19 ≤ M 84 11) (p6 : 130 * M 84 19 ≤ M 84 42) (p7 : 4 * (M 84 42 - 130 * M 84 19) ≤ M 84 11) (p8 : M 84 20 = M 95 (M 84 19) + M 100 (M 84 19)) (p9 : GH M) (p10 : NA M) (p11 : GG M) (p12 : TLp M mn gn) (p13 : M 87 (M 84 11) ≠ 0) (hg : M 87 (M 84 11) = 25) : CV fzR 150 [qR 84] SH M (fun M' => (INV S M') ∧ (qSm [(84, some 11), (84, some 12), (84, some 13), (84, some 14), (84, some 15), (84, some 16), (84, some 20), (84, some 42), (84, some 48), (84, some 52), (92, none), (93, none), (94, none), (95, none), (96, none), (97, none), (98, none), (99, none), (100, none), (101, none), (102, none), (103, none), (104, none), (105, none), (106, none), (107, none), (108, none), (109, none), (110, none), (111, none), (112, none), (113, none), (114, none), (115, none), (116, none), (117, none), (118, none), (119, none), (120, none)] M M') ∧ (TLe M') ∧ (M 84 11 ≤ M' 84 11) ∧ (0 < M' 84 13 ∨ M 84 11 + 1 ≤ M' 84 11) ∧ (M' 84 13 = 0 → M' 84 12 = 0 ∧ 420 * M 84 19 ≤ M' 84 48 ∧ M' 84 48 - 420 * M 84 19 ≤ M' 84 11 ∧ 130 * M 84 19 ≤ M' 84 42 ∧ 4 * (M' 84 42 - 130 * M 84 19) ≤ M' 84 11) ∧ (M' 84 13 = 0 → M' 84 20 = M' 95 (M 84 19) + M' 100 (M 84 19)) ∧ (GH M') ∧ (M' 84 13 = 0 → NA M') ∧ (GG M')) := by
  refine s_X12_tell_f_0 T ?_
  have hr1 : (0 : Int) ≤ M 84 19 ∧ M 84 19 ≤ (1 : Int) := hIM.1 84 19
  have hr2 : (0 : Int) ≤ M 84 18 ∧ M 84 18 ≤ (1 : Int) := hIM.1 84 18
  have hr3 : (0 : Int) ≤ M 84 13 ∧ M 84 13 ≤ (5 : Int) := hIM.1 84 13
  have hr4 : (0 : Int) ≤ M 84 12 ∧ M 84 12 ≤ (7 : Int) := hIM.1 84 12
  have hr5 : (0 : Int) ≤ M 84 11 ∧ M 84 11 ≤ (400 : Int) := hIM.1 84 11
  have hr6 : (0 : Int) ≤ M 84 20 ∧ M 84 20 ≤ (11 : Int) := hIM.1 84 20
  have hr7 : (0 : Int) ≤ M 84 11 ∧ M 84 11 ≤ (400 : Int) := hIM.1 84 11
  have hr8 : (0 : Int) ≤ M 84 12 ∧ M 84 12 ≤ (7 : Int) := hIM.1 84 12
  have hr9 : (0 : Int) ≤ M 84 13 ∧ M 84 13 ≤ (5 : Int) := hIM.1 84 13
  have hr10 : (0 : Int) ≤ M 84 15 ∧ M 84 15 ≤ (5 : Int) := hIM.1 84 15
  have hr11 : (0 : Int) ≤ M 84 18 ∧ M 84 18 ≤ (1 : Int) := hIM.1 84 18
  have hr12 : (0 : Int) ≤ M 84 19 ∧ M 84 19 ≤ (1 : Int) := hIM.1 84 19
  have hr13 : (0 : Int) ≤ M 84 20 ∧ M 84 20 ≤ (11 : Int) := hIM.1 84 20
  have hr14 : (0 : Int) ≤ M 95 (M 84 19) ∧ M 95 (M 84 19) ≤ (6 : Int) := hIM.1 95 (M 84 19)
  have hr15 : (0 : Int) ≤ M 100 (M 84 19) ∧ M 100 (M 84 19) ≤ (5 : Int) := hIM.1 100 (M 84 19)
  have hr16 : (0 : Int) ≤ M 84 11 ∧ M 84 11 ≤ (400 : Int) := hIM.1 84 11
  refine ⟨by omega, ?_⟩
  refine ⟨⟨fun hb17 => ?_, fun hb17 => ?_, fun hb17 => ?_, fun hb17 => ?_, fun hb17 => ?_, fun hb17 => ?_, fun hb17 => ?_, fun hb17 => ?_, trivial⟩, fun hb17 => ?_⟩
  · exfalso; omega
  · exfalso; omega
  · exfalso; omega
  · exfalso; omega
  · exfalso; omega
  · have hr1484 : (0 : Int) ≤ M 84 19 ∧ M 84 19 ≤ (1 : Int) := hIM.1 84 19
    refine ⟨by omega, ?_⟩
    have hr1485 : (0 : Int) ≤ M 106 (M 84 19) ∧ M 106 (M 84 19) ≤ (12 : Int) := hIM.1 106 (M 84 19)
    refine ⟨trivial, ?_⟩
    have hr1489 : (0 : Int) ≤ M 84 11 ∧ M 84 11 ≤ (400 : Int) := hIM.1 84 11
    have hr1490 : (0 : Int) ≤ M 84 13 ∧ M 84 13 ≤ (5 : Int) := hIM.1 84 13
    refine CV_mono (f_X12_roomFor T (hIM)) (fun N1487 hp1488 => ?_)
    obtain ⟨hIN1487, hk1491, hx1492, hp1488⟩ := hp1488
    have hr1493 : (0 : Int) ≤ N1487 84 11 ∧ N1487 84 11 ≤ (400 : Int) := hIN1487.1 84 11
    have hr1494 : (0 : Int) ≤ N1487 84 12 ∧ N1487 84 12 ≤ (7 : Int) := hIN1487.1 84 12
    have hc1495 : N1487 84 12 = M 84 12 := hk1491 84 12 rfl
    have hr1496 : (0 : Int) ≤ N1487 84 13 ∧ N1487 84 13 ≤ (5 : Int) := hIN1487.1 84 13
    have hr1497 : (0 : Int) ≤ N1487 84 15 ∧ N1487 84 15 ≤ (5 : Int) := hIN1487.1 84 15
    have hc1498 : N1487 84 15 = M 84 15 := hk1491 84 15 rfl
    have hr1499 : (0 : Int) ≤ N1487 84 18 ∧ N1487 84 18 ≤ (1 : Int) := hIN1487.1 84 18
    have hc1500 : N1487 84 18 = M 84 18 := hk1491 84 18 rfl
    have hr1501 : (0 : Int) ≤ N1487 84 19 ∧ N1487 84 19 ≤ (1 : Int) := hIN1487.1 84 19
    have hc1502 : N1487 84 19 = M 84 19 := hk1491 84 19 rfl
    have hr1503 : (0 : Int) ≤ N1487 84 20 ∧ N1487 84 20 ≤ (11 : Int) := hIN1487.1 84 20
    have hc1504 : N1487 84 20 = M 84 20 := hk1491 84 20 rfl
    have hc1505 : N1487 84 42 = M 84 42 := hk1491 84 42 rfl
    have hc1506 : N1487 84 48 = M 84 48 := hk1491 84 48 rfl
    have hr1507 : (0 : Int) ≤ N1487 106 (M 84 19) ∧ N1487 106 (M 84 19) ≤ (12 : Int) := hIN1487.1 106 (M 84 19)
    have hc1508 : N1487 106 (M 84 19) = M 106 (M 84 19) := hk1491 106 (M 84 19) rfl
    have sc1 : N1487 106 (N1487 84 19) = M 106 (M 84 19) := by rw [show N1487 84 19 = M 84 19 by omega]; exact hk1491 106 _ rfl
    have hna : NA N1487 := NA_fr p10 hk1491 rfl
    have hr1509 : (0 : Int) ≤ N1487 95 (M 84 19) ∧ N1487 95 (M 84 19) ≤ (6 : Int) := hIN1487.1 95 (M 84 19)
    have hc1510 : N1487 95 (M 84 19) = M 95 (M 84 19) := hk1491 95 (M 84 19) rfl
    have hr1511 : (0 : Int) ≤ N1487 100 (M 84 19) ∧ N1487 100 (M 84 19) ≤ (5 : Int) := hIN1487.1 100 (M 84 19)
    have hc1512 : N1487 100 (M 84 19) = M 100 (M 84 19) := hk1491 100 (M 84 19) rfl
    have hr1513 : (0 : Int) ≤ N1487 103 (M 84 19) ∧ N1487 103 (M 84 19) ≤ (12 : Int) := hIN1487.1 103 (M 84 19)
    have hc1514 : N1487 103 (M 84 19) = M 103 (M 84 19) := hk1491 103 (M 84 19) rfl
    have hr1515 : (0 : Int) ≤ N1487 106 (M 84 19) ∧ N1487 106 (M 84 19) ≤ (12 : Int) := hIN1487.1 106 (M 84 19)
    have hc1516 : N1487 106 (M 84 19) = M 106 (M 84 19) := hk1491 106 (M 84 19) rfl
    have hP : PS N1487 (1, 8, 0, 0, 0, (M 95 (M 84 19), M 100 (M 84 19), M 103 (M 84 19), M 106 (M 84 19) + 1)) (0, 8, 0, mn, gn) := TL_room p12.1 hx1492 (SA_fr hk1491 rfl) (hk1491 84 15 rfl) (hk1491 84 16 rfl) (by omega) (by omega) rfl (fun h9 => gFu_0.mpr (by omega)) (fun h9 h8 => by have := gFu_0.mp h8; omega)
    have hC : NMc N1487 mn gn := NMc_fr p12.2 hk1491 rfl (by omega) (by rw [hk1491 84 15 rfl]; exact id)
    have hr1517 : (0 : Int) ≤ N1487 84 19 ∧ N1487 84 19 ≤ (1 : Int) := hIN1487.1 84 19
    have hc1518 : N1487 84 19 = M 84 19 := hk1491 84 19 rfl
    refine ⟨by omega, ?_⟩
    have hr1519 : (0 : Int) ≤ N1487 84 19 ∧ N1487 84 19 ≤ (1 : Int) := hIN1487.1 84 19
    have hc1520 : N1487 84 19 = M 84 19 := hk1491 84 19 rfl
    refine ⟨by omega, ?_⟩
    have hr1521 : (0 : Int) ≤ N1487 106 (N1487 84 19) ∧ N1487 106 (N1487 84 19) ≤ (12 : Int) := hIN1487.1 106 (N1487 84 19)
    have hc1522 : N1487 106 (N1487 84 19) = M 106 (N1487 84 19) := hk1491 106 (N1487 84 19) rfl
    refine ⟨fun hb1523 => ?_, fun hb1523 => ?_⟩
    · refine ⟨by omega, ?_⟩
      refine ⟨trivial, ?_⟩
      have hr1527 : (0 : Int) ≤ N1487 84 11 ∧ N1487 84 11 ≤ (400 : Int) := hIN1487.1 84 11
      have hr1528 : (0 : Int) ≤ N1487 84 13 ∧ N1487 84 13 ≤ (5 : Int) := hIN1487.1 84 13
      have hr1529 : (0 : Int) ≤ N1487 84 15 ∧ N1487 84 15 ≤ (5 : Int) := hIN1487.1 84 15
      have hc1530 : N1487 84 15 = M 84 15 := hk1491 84 15 rfl
      refine CI_mono (f_X12_known T (hIN1487) (by assumption)) (fun z1524 N1525 hp1526 => ?_)
      obtain ⟨hIN1525, hk1531, hx1532, hp1526⟩ := hp1526
      have hP : PS N1525 (1, 8, 1, 0, 0, (M 95 (M 84 19), M 100 (M 84 19), M 103 (M 84 19), M 106 (M 84 19) + 1)) (0, 8, 1, mn, gn) := KNO hP (by omega) rfl (by omega) hx1532 hC (SA_fr hk1531 rfl)
      have hC : NMc N1525 mn gn := NMc_fr hC hk1531 rfl (by omega) (by omega)
      refine ⟨by omega, ?_⟩
      obtain ⟨N1533, he1534⟩ : ∃ X : qM, X = stM N1525 107 ((12 * (N1487 84 19)) + 0) z1524 := ⟨_, rfl⟩
      rw [← he1534]
      have hk1535 := stM_k he1534
      have hg1536 := stM_g he1534
      have hr1537 : (0 : Int) ≤ N1525 84 18 ∧ N1525 84 18 ≤ (1 : Int) := hIN1525.1 84 18
      have hc1538 : N1525 84 18 = N1487 84 18 := hk1531 84 18 rfl
      have hc1539 : N1487 84 18 = M 84 18 := hk1491 84 18 rfl
      have hr1540 : (0 : Int) ≤ N1525 84 19 ∧ N1525 84 19 ≤ (1 : Int) := hIN1525.1 84 19
      have hc1541 : N1525 84 19 = N1487 84 19 := hk1531 84 19 rfl
      have hc1542 : N1487 84 19 = M 84 19 := hk1491 84 19 rfl
      have hIN1533 : INV S N1533 := INV_side (w := 12) hIN1525 he1534 (qFree _ _ _ rfl) (by decide) (by omega)
      have hna : NA N1533 := NA_fr (NA_fr hna hk1531 rfl) (stM_s he1534) rfl
      have hP := PS_fr hP (stM_s he1534) rfl
      have hC : NMc N1533 mn gn := NMc_fr hC (stM_s he1534) rfl (by rw [stM_k he1534 84 13 (Or.inl (by decide))]; exact id) (by rw [stM_k he1534 84 15 (Or.inl (by decide))]; exact id)
      refine ⟨trivial, ?_⟩
      have hr1546 : (0 : Int) ≤ N1533 84 11 ∧ N1533 84 11 ≤ (400 : Int) := hIN1533.1 84 11
      have hc1547 : N1533 84 11 = N1525 84 11 := hk1535 84 11 (Or.inl (by decide))
      have hr1548 : (0 : Int) ≤ N1533 84 13 ∧ N1533 84 13 ≤ (5 : Int) := hIN1533.1 84 13
      have hc1549 : N1533 84 13 = N1525 84 13 := hk1535 84 13 (Or.inl (by decide))
      have hr1550 : (0 : Int) ≤ N1533 84 15 ∧ N1533 84 15 ≤ (5 : Int) := hIN1533.1 84 15
      have hc1551 : N1533 84 15 = N1525 84 15 := hk1535 84 15 (Or.inl (by decide))
      refine CI_mono (f_X12_known T (hIN1533) (by assumption)) (fun z1543 N1544 hp1545 => ?_)
      obtain ⟨hIN1544, hk1552, hx1553, hp1545⟩ := hp1545
      have hP : PS N1544 (1, 8, 2, 0, 0, (M 95 (M 84 19), M 100 (M 84 19), M 103 (M 84 19), M 106 (M 84 19) + 1)) (0, 8, 2, mn, gn) := KNO hP (by omega) rfl (by omega) hx1553 hC (SA_fr hk1552 rfl)
      have hC : NMc N1544 mn gn := NMc_fr hC hk1552 rfl (by omega) (by omega)
      refine ⟨by omega, ?_⟩
      obtain ⟨N1554, he1555⟩ : ∃ X : qM, X = stM N1544 108 ((12 * (N1487 84 19)) + 0) z1543 := ⟨_, rfl⟩
      rw [← he1555]
      have hk1556 := stM_k he1555
      have hg1557 := stM_g he1555
      have hr1558 : (0 : Int) ≤ N1544 84 18 ∧ N1544 84 18 ≤ (1 : Int) := hIN1544.1 84 18
      have hc1559 : N1544 84 18 = N1533 84 18 := hk1552 84 18 rfl
      have hc1560 : N1533 84 18 = N1525 84 18 := hk1535 84 18 (Or.inl (by decide))
      have hc1561 : N1525 84 18 = N1487 84 18 := hk1531 84 18 rfl
      have hc1562 : N1487 84 18 = M 84 18 := hk1491 84 18 rfl
      have hr1563 : (0 : Int) ≤ N1544 84 19 ∧ N1544 84 19 ≤ (1 : Int) := hIN1544.1 84 19
      have hc1564 : N1544 84 19 = N1533 84 19 := hk1552 84 19 rfl
      have hc1565 : N1533 84 19 = N1525 84 19 := hk1535 84 19 (Or.inl (by decide))
      have hc1566 : N1525 84 19 = N1487 84 19 := hk1531 84 19 rfl
      have hc1567 : N1487 84 19 = M 84 19 := hk1491 84 19 rfl
      have hIN1554 : INV S N1554 := INV_side (w := 12) hIN1544 he1555 (qFree _ _ _ rfl) (by decide) (by omega)
      have hr1568 : (0 : Int) ≤ N1554 84 11 ∧ N1554 84 11 ≤ (400 : Int) := hIN1554.1 84 11
      have hc1569 : N1554 84 11 = N1544 84 11 := hk1556 84 11 (Or.inl (by decide))
      have hr1570 : (0 : Int) ≤ N1554 84 12 ∧ N1554 84 12 ≤ (7 : Int) := hIN1554.1 84 12
      have hc1571 : N1554 84 12 = N1544 84 12 := hk1556 84 12 (Or.inl (by decide))
      have hc1572 : N1544 84 12 = N1533 84 12 := hk1552 84 12 rfl
      have hc1573 : N1533 84 12 = N1525 84 12 := hk1535 84 12 (Or.inl (by decide))
      have hc1574 : N1525 84 12 = N1487 84 12 := hk1531 84 12 rfl
      have hc1575 : N1487 84 12 = M 84 12 := hk1491 84 12 rfl
      have hr1576 : (0 : Int) ≤ N1554 84 13 ∧ N1554 84 13 ≤ (5 : Int) := hIN1554.1 84 13
      have hc1577 : N1554 84 13 = N1544 84 13 := hk1556 84 13 (Or.inl (by decide))
      have hr1578 : (0 : Int) ≤ N1554 84 15 ∧ N1554 84 15 ≤ (5 : Int) := hIN1554.1 84 15
      have hc1579 : N1554 84 15 = N1544 84 15 := hk1556 84 15 (Or.inl (by decide))
      have hr1580 : (0 : Int) ≤ N1554 84 18 ∧ N1554 84 18 ≤ (1 : Int) := hIN1554.1 84 18
      have hc1581 : N1554 84 18 = N1544 84 18 := hk1556 84 18 (Or.inl (by decide))
      have hc1582 : N1544 84 18 = N1533 84 18 := hk1552 84 18 rfl
      have hc1583 : N1533 84 18 = N1525 84 18 := hk1535 84 18 (Or.inl (by decide))
      have hc1584 : N1525 84 18 = N1487 84 18 := hk1531 84 18 rfl
      have hc1585 : N1487 84 18 = M 84 18 := hk1491 84 18 rfl
      have hr1586 : (0 : Int) ≤ N1554 84 19 ∧ N1554 84 19 ≤ (1 : Int) := hIN1554.1 84 19
      have hc1587 : N1554 84 19 = N1544 84 19 := hk1556 84 19 (Or.inl (by decide))
      have hc1588 : N1544 84 19 = N1533 84 19 := hk1552 84 19 rfl
      have hc1589 : N1533 84 19 = N1525 84 19 := hk1535 84 19 (Or.inl (by decide))
      have hc1590 : N1525 84 19 = N1487 84 19 := hk1531 84 19 rfl
      have hc1591 : N1487 84 19 = M 84 19 := hk1491 84 19 rfl
      have hr1592 : (0 : Int) ≤ N1554 84 20 ∧ N1554 84 20 ≤ (11 : Int) := hIN1554.1 84 20
      have hc1593 : N1554 84 20 = N1544 84 20 := hk1556 84 20 (Or.inl (by decide))
      have hc1594 : N1544 84 20 = N1533 84 20 := hk1552 84 20 rfl
      have hc1595 : N1533 84 20 = N1525 84 20 := hk1535 84 20 (Or.inl (by decide))
      have hc1596 : N1525 84 20 = N1487 84 20 := hk1531 84 20 rfl
      have hc1597 : N1487 84 20 = M 84 20 := hk1491 84 20 rfl
      have hc1598 : N1554 84 42 = N1544 84 42 := hk1556 84 42 (Or.inl (by decide))
      have hc1599 : N1544 84 42 = N1533 84 42 := hk1552 84 42 rfl
      have hc1600 : N1533 84 42 = N1525 84 42 := hk1535 84 42 (Or.inl (by decide))
      have hc1601 : N1525 84 42 = N1487 84 42 := hk1531 84 42 rfl
      have hc1602 : N1487 84 42 = M 84 42 := hk1491 84 42 rfl
      have hc1603 : N1554 84 48 = N1544 84 48 := hk1556 84 48 (Or.inl (by decide))
      have hc1604 : N1544 84 48 = N1533 84 48 := hk1552 84 48 rfl
      have hc1605 : N1533 84 48 = N1525 84 48 := hk1535 84 48 (Or.inl (by decide))
      have hc1606 : N1525 84 48 = N1487 84 48 := hk1531 84 48 rfl
      have hc1607 : N1487 84 48 = M 84 48 := hk1491 84 48 rfl
      have sc3 : N1554 106 (N1554 84 19) = M 106 (M 84 19) := by rw [show N1554 84 19 = M 84 19 by omega]; exact (stM_k he1555 106 _ (Or.inl (by decide))).trans ((hk1552 106 _ rfl).trans ((stM_k he1534 106 _ (Or.inl (by decide))).trans ((hk1531 106 _ rfl).trans (hk1491 106 _ rfl))))
      have hgh : GH N1554 := GH_fr (GH_fr (GH_fr (GH_fr (GH_fr p9 hk1491 rfl (fun _ => by omega)) hk1531 rfl (fun _ => by omega)) (stM_s he1534) rfl (fun _ => by omega)) hk1552 rfl (fun _ => by omega)) (stM_s he1555) rfl (fun _ => by omega)
      have hP := PS_fr hP (stM_s he1555) rfl
      have hC : NMc N1554 mn gn := NMc_fr hC (stM_s he1555) rfl (by rw [stM_k he1555 84 13 (Or.inl (by decide))]; exact id) (by rw [stM_k he1555 84 15 (Or.inl (by decide))]; exact id)
      have hLW : LWp N1554 8 2 (M 95 (M 84 19), M 100 (M 84 19), M 103 (M 84 19), M 106 (M 84 19) + 1) (0, 8, 2, mn, gn) := ⟨hP, rfl, rfl⟩
      have hr1608 : (0 : Int) ≤ N1554 84 19 ∧ N1554 84 19 ≤ (1 : Int) := hIN1554.1 84 19
      have hc1609 : N1554 84 19 = N1544 84 19 := hk1556 84 19 (Or.inl (by decide))
      have hc1610 : N1544 84 19 = N1533 84 19 := hk1552 84 19 rfl
      have hc1611 : N1533 84 19 = N1525 84 19 := hk1535 84 19 (Or.inl (by decide))
      have hc1612 : N1525 84 19 = N1487 84 19 := hk1531 84 19 rfl
      have hc1613 : N1487 84 19 = M 84 19 := hk1491 84 19 rfl
      refine ⟨by omega, ?_⟩
      have hr1614 : (0 : Int) ≤ N1554 106 (N1554 84 19) ∧ N1554 106 (N1554 84 19) ≤ (12 : Int) := hIN1554.1 106 (N1554 84 19)
      have hc1615 : N1554 106 (N1554 84 19) = N1544 106 (N1554 84 19) := hk1556 106 (N1554 84 19) (Or.inl (by decide))
      have hc1616 : N1544 106 (N1554 84 19) = N1533 106 (N1554 84 19) := hk1552 106 (N1554 84 19) rfl
      have hc1617 : N1533 106 (N1554 84 19) = N1525 106 (N1554 84 19) := hk1535 106 (N1554 84 19) (Or.inl (by decide))
      have hc1618 : N1525 106 (N1554 84 19) = N1487 106 (N1554 84 19) := hk1531 106 (N1554 84 19) rfl
      have hc1619 : N1487 106 (N1554 84 19) = M 106 (N1554 84 19) := hk1491 106 (N1554 84 19) rfl
      refine ⟨fun hb1620 => ?_, fun hb1620 => ?_⟩
      · refine ⟨by omega, ?_⟩
        refine ⟨trivial, ?_⟩
        have hr1624 : (0 : Int) ≤ N1554 84 19 ∧ N1554 84 19 ≤ (1 : Int) := hIN1554.1 84 19
        have hc1625 : N1554 84 19 = N1544 84 19 := hk1556 84 19 (Or.inl (by decide))
        have hc1626 : N1544 84 19 = N1533 84 19 := hk1552 84 19 rfl
        have hc1627 : N1533 84 19 = N1525 84 19 := hk1535 84 19 (Or.inl (by decide))
        have hc1628 : N1525 84 19 = N1487 84 19 := hk1531 84 19 rfl
        have hc1629 : N1487 84 19 = M 84 19 := hk1491 84 19 rfl
        have hr1630 : (0 : Int) ≤ N1554 84 18 ∧ N1554 84 18 ≤ (1 : Int) := hIN1554.1 84 18
        have hc1631 : N1554 84 18 = N1544 84 18 := hk1556 84 18 (Or.inl (by decide))
        have hc1632 : N1544 84 18 = N1533 84 18 := hk1552 84 18 rfl
        have hc1633 : N1533 84 18 = N1525 84 18 := hk1535 84 18 (Or.inl (by decide))
        have hc1634 : N1525 84 18 = N1487 84 18 := hk1531 84 18 rfl
        have hc1635 : N1487 84 18 = M 84 18 := hk1491 84 18 rfl
        have hc1636 : N1554 84 48 = N1544 84 48 := hk1556 84 48 (Or.inl (by decide))
        have hc1637 : N1544 84 48 = N1533 84 48 := hk1552 84 48 rfl
        have hc1638 : N1533 84 48 = N1525 84 48 := hk1535 84 48 (Or.inl (by decide))
        have hc1639 : N1525 84 48 = N1487 84 48 := hk1531 84 48 rfl
        have hc1640 : N1487 84 48 = M 84 48 := hk1491 84 48 rfl
        have hr1641 : (0 : Int) ≤ N1554 84 11 ∧ N1554 84 11 ≤ (400 : Int) := hIN1554.1 84 11
        have hc1642 : N1554 84 11 = N1544 84 11 := hk1556 84 11 (Or.inl (by decide))
        have hr1643 : (0 : Int) ≤ N1554 84 13 ∧ N1554 84 13 ≤ (5 : Int) := hIN1554.1 84 13
        have hc1644 : N1554 84 13 = N1544 84 13 := hk1556 84 13 (Or.inl (by decide))
        have hr1645 : (0 : Int) ≤ N1554 84 12 ∧ N1554 84 12 ≤ (7 : Int) := hIN1554.1 84 12
        have hc1646 : N1554 84 12 = N1544 84 12 := hk1556 84 12 (Or.inl (by decide))
        have hc1647 : N1544 84 12 = N1533 84 12 := hk1552 84 12 rfl
        have hc1648 : N1533 84 12 = N1525 84 12 := hk1535 84 12 (Or.inl (by decide))
        have hc1649 : N1525 84 12 = N1487 84 12 := hk1531 84 12 rfl
        have hc1650 : N1487 84 12 = M 84 12 := hk1491 84 12 rfl
        have hc1651 : N1554 84 42 = N1544 84 42 := hk1556 84 42 (Or.inl (by decide))
        have hc1652 : N1544 84 42 = N1533 84 42 := hk1552 84 42 rfl
        have hc1653 : N1533 84 42 = N1525 84 42 := hk1535 84 42 (Or.inl (by decide))
        have hc1654 : N1525 84 42 = N1487 84 42 := hk1531 84 42 rfl
        have hc1655 : N1487 84 42 = M 84 42 := hk1491 84 42 rfl
        refine CV_mono (f_X12_tellLaw T (hIN1554) (show N1554 84 19 = 1 - N1554 84 18 by omega) (by assumption) (show ((28 + 0) : Int) < 40 by omega) (show 420 * N1554 84 19 ≤ N1554 84 48 by omega) (show N1554 84 48 - 420 * N1554 84 19 ≤ N1554 84 11 + 2 by omega) (show N1554 84 13 = 0 → N1554 84 12 = 0 ∧ N1554 84 48 - 420 * N1554 84 19 ≤ N1554 84 11 ∧ 4 * (N1554 84 42 - 130 * N1554 84 19) + 2 ≤ N1554 84 11 by omega) (show 130 * N1554 84 19 ≤ N1554 84 42 by omega) (show N1554 84 42 ≤ 130 * N1554 84 19 + 100 by omega) (by assumption)) (fun N1622 hp1623 => ?_)
        obtain ⟨hIN1622, hk1656, hj1657, hj1658, hx1659, hp1623⟩ := hp1623
        have hr1660 : (0 : Int) ≤ N1622 84 11 ∧ N1622 84 11 ≤ (400 : Int) := hIN1622.1 84 11
        have hr1661 : (0 : Int) ≤ N1622 84 12 ∧ N1622 84 12 ≤ (7 : Int) := hIN1622.1 84 12
        have hr1662 : (0 : Int) ≤ N1622 84 13 ∧ N1622 84 13 ≤ (5 : Int) := hIN1622.1 84 13
        have hr1663 : (0 : Int) ≤ N1622 84 15 ∧ N1622 84 15 ≤ (5 : Int) := hIN1622.1 84 15
        have hc1664 : N1622 84 15 = N1554 84 15 := hk1656 84 15 rfl
        have hc1665 : N1554 84 15 = N1544 84 15 := hk1556 84 15 (Or.inl (by decide))
        have hr1666 : (0 : Int) ≤ N1622 84 18 ∧ N1622 84 18 ≤ (1 : Int) := hIN1622.1 84 18
        have hc1667 : N1622 84 18 = N1554 84 18 := hk1656 84 18 rfl
        have hc1668 : N1554 84 18 = N1544 84 18 := hk1556 84 18 (Or.inl (by decide))
        have hc1669 : N1544 84 18 = N1533 84 18 := hk1552 84 18 rfl
        have hc1670 : N1533 84 18 = N1525 84 18 := hk1535 84 18 (Or.inl (by decide))
        have hc1671 : N1525 84 18 = N1487 84 18 := hk1531 84 18 rfl
        have hc1672 : N1487 84 18 = M 84 18 := hk1491 84 18 rfl
        have hr1673 : (0 : Int) ≤ N1622 84 19 ∧ N1622 84 19 ≤ (1 : Int) := hIN1622.1 84 19
        have hc1674 : N1622 84 19 = N1554 84 19 := hk1656 84 19 rfl
        have hc1675 : N1554 84 19 = N1544 84 19 := hk1556 84 19 (Or.inl (by decide))
        have hc1676 : N1544 84 19 = N1533 84 19 := hk1552 84 19 rfl
        have hc1677 : N1533 84 19 = N1525 84 19 := hk1535 84 19 (Or.inl (by decide))
        have hc1678 : N1525 84 19 = N1487 84 19 := hk1531 84 19 rfl
        have hc1679 : N1487 84 19 = M 84 19 := hk1491 84 19 rfl
        have hr1680 : (0 : Int) ≤ N1622 84 20 ∧ N1622 84 20 ≤ (11 : Int) := hIN1622.1 84 20
        have hc1681 : N1622 84 20 = N1554 84 20 := hk1656 84 20 rfl
        have hc1682 : N1554 84 20 = N1544 84 20 := hk1556 84 20 (Or.inl (by decide))
        have hc1683 : N1544 84 20 = N1533 84 20 := hk1552 84 20 rfl
        have hc1684 : N1533 84 20 = N1525 84 20 := hk1535 84 20 (Or.inl (by decide))
        have hc1685 : N1525 84 20 = N1487 84 20 := hk1531 84 20 rfl
        have hc1686 : N1487 84 20 = M 84 20 := hk1491 84 20 rfl
        have sc4 : N1622 106 (N1622 84 19) = M 106 (M 84 19) := by rw [show N1622 84 19 = M 84 19 by omega]; exact (hk1656 106 _ rfl).trans ((stM_k he1555 106 _ (Or.inl (by decide))).trans ((hk1552 106 _ rfl).trans ((stM_k he1534 106 _ (Or.inl (by decide))).trans ((hk1531 106 _ rfl).trans (hk1491 106 _ rfl)))))
        have hP : PS N1622 (0, 0, 0, 0, 0, (M 95 (M 84 19), M 100 (M 84 19), M 103 (M 84 19), M 106 (M 84 19) + 1)) (0, 0, 0, mn, gn) := hx1659
        have hC : NMc N1622 mn gn := NMc_fr hC hk1656 rfl (by omega) (by rw [hk1656 84 15 rfl]; exact id)
        have hr1687 : (0 : Int) ≤ N1622 84 13 ∧ N1622 84 13 ≤ (5 : Int) := hIN1622.1 84 13
        refine ⟨fun hb1688 => ?_, fun hb1688 => ?_⟩
        · first | have hTe : TLe N1622 := hTe | have hTe : TLe N1622 := TLe_R (PS_F hP (by omega)) | have hTe : TLe N1622 := TLe_R (TL_def p12.1 hx1659 (SA_fr hk1656 rfl) (by omega) p13)
          have hr1689 : (0 : Int) ≤ N1622 84 11 ∧ N1622 84 11 ≤ (400 : Int) := hIN1622.1 84 11
          have hr1690 : (0 : Int) ≤ N1622 84 13 ∧ N1622 84 13 ≤ (5 : Int) := hIN1622.1 84 13
          have hr1691 : (0 : Int) ≤ N1622 84 12 ∧ N1622 84 12 ≤ (7 : Int) := hIN1622.1 84 12
          have hr1692 : (0 : Int) ≤ N1622 84 20 ∧ N1622 84 20 ≤ (11 : Int) := hIN1622.1 84 20
          have hc1693 : N1622 84 20 = N1554 84 20 := hk1656 84 20 rfl
          have hc1694 : N1554 84 20 = N1544 84 20 := hk1556 84 20 (Or.inl (by decide))
          have hc1695 : N1544 84 20 = N1533 84 20 := hk1552 84 20 rfl
          have hc1696 : N1533 84 20 = N1525 84 20 := hk1535 84 20 (Or.inl (by decide))
          have hc1697 : N1525 84 20 = N1487 84 20 := hk1531 84 20 rfl
          have hc1698 : N1487 84 20 = M 84 20 := hk1491 84 20 rfl
          have hsm : qSm [(84, some 11), (84, some 12), (84, some 13), (84, some 14), (84, some 15), (84, some 16), (84, some 20), (84, some 42), (84, some 48), (84, some 52), (92, none), (93, none), (94, none), (95, none), (96, none), (97, none), (98, none), (99, none), (100, none), (101, none), (102, none), (103, none), (104, none), (105, none), (106, none), (107, none), (108, none), (109, none), (110, none), (111, none), (112, none), (113, none), (114, none), (115, none), (116, none), (117, none), (118, none), (119, none), (120, none)] M N1622 := by
            intro b j hbj
            rw [hk1656 b j (qSm_sub hbj rfl), hk1556 b j (qSm_ne hbj rfl), hk1552 b j (qSm_sub hbj rfl), hk1535 b j (qSm_ne hbj rfl), hk1531 b j (qSm_sub hbj rfl), hk1491 b j (qSm_sub hbj rfl)]
          exact ⟨rfl, rfl, hIN1622, hsm, by exact hTe, by omega, by omega, by omega, by first | exact hNM | exact fun h1 => absurd h1 (by omega), by first | exact hGH | exact fun h1 => absurd h1 (by omega), by first | exact hNA | exact fun h1 => absurd h1 (by omega), by first | exact hGG | exact fun h1 _ => absurd h1 (by omega)⟩
        · have hr1699 : (0 : Int) ≤ N1622 84 19 ∧ N1622 84 19 ≤ (1 : Int) := hIN1622.1 84 19
          have hc1700 : N1622 84 19 = N1554 84 19 := hk1656 84 19 rfl
          have hc1701 : N1554 84 19 = N1544 84 19 := hk1556 84 19 (Or.inl (by decide))
          have hc1702 : N1544 84 19 = N1533 84 19 := hk1552 84 19 rfl
          have hc1703 : N1533 84 19 = N1525 84 19 := hk1535 84 19 (Or.inl (by decide))
          have hc1704 : N1525 84 19 = N1487 84 19 := hk1531 84 19 rfl
          have hc1705 : N1487 84 19 = M 84 19 := hk1491 84 19 rfl
          refine ⟨by omega, ?_⟩
          have hr1706 : (0 : Int) ≤ N1622 106 (N1622 84 19) ∧ N1622 106 (N1622 84 19) ≤ (12 : Int) := hIN1622.1 106 (N1622 84 19)
          have hc1707 : N1622 106 (N1622 84 19) = N1554 106 (N1622 84 19) := hk1656 106 (N1622 84 19) rfl
          have hc1708 : N1554 106 (N1622 84 19) = N1544 106 (N1622 84 19) := hk1556 106 (N1622 84 19) (Or.inl (by decide))
          have hc1709 : N1544 106 (N1622 84 19) = N1533 106 (N1622 84 19) := hk1552 106 (N1622 84 19) rfl
          have hc1710 : N1533 106 (N1622 84 19) = N1525 106 (N1622 84 19) := hk1535 106 (N1622 84 19) (Or.inl (by decide))
          have hc1711 : N1525 106 (N1622 84 19) = N1487 106 (N1622 84 19) := hk1531 106 (N1622 84 19) rfl
          have hc1712 : N1487 106 (N1622 84 19) = M 106 (N1622 84 19) := hk1491 106 (N1622 84 19) rfl
          refine ⟨by omega, ?_⟩
          refine ⟨by omega, ?_⟩
          obtain ⟨N1713, he1714⟩ : ∃ X : qM, X = stM N1622 106 (N1622 84 19) ((N1622 106 (N1622 84 19)) + 1) := ⟨_, rfl⟩
          rw [← he1714]
          have hk1715 := stM_k he1714
          have hg1716 := stM_g he1714
          have hr1717 : (0 : Int) ≤ N1622 84 18 ∧ N1622 84 18 ≤ (1 : Int) := hIN1622.1 84 18
          have hc1718 : N1622 84 18 = N1554 84 18 := hk1656 84 18 rfl
          have hc1719 : N1554 84 18 = N1544 84 18 := hk1556 84 18 (Or.inl (by decide))
          have hc1720 : N1544 84 18 = N1533 84 18 := hk1552 84 18 rfl
          have hc1721 : N1533 84 18 = N1525 84 18 := hk1535 84 18 (Or.inl (by decide))
          have hc1722 : N1525 84 18 = N1487 84 18 := hk1531 84 18 rfl
          have hc1723 : N1487 84 18 = M 84 18 := hk1491 84 18 rfl
          have hr1724 : (0 : Int) ≤ N1622 84 19 ∧ N1622 84 19 ≤ (1 : Int) := hIN1622.1 84 19
          have hc1725 : N1622 84 19 = N1554 84 19 := hk1656 84 19 rfl
          have hc1726 : N1554 84 19 = N1544 84 19 := hk1556 84 19 (Or.inl (by decide))
          have hc1727 : N1544 84 19 = N1533 84 19 := hk1552 84 19 rfl
          have hc1728 : N1533 84 19 = N1525 84 19 := hk1535 84 19 (Or.inl (by decide))
          have hc1729 : N1525 84 19 = N1487 84 19 := hk1531 84 19 rfl
          have hc1730 : N1487 84 19 = M 84 19 := hk1491 84 19 rfl
          have hIN1713 : INV S N1713 := INV_side (w := 1) hIN1622 he1714 (show (0 : Int) ≤ _ ∧ _ ≤ (12 : Int) from ⟨by omega, by omega⟩) (by decide) (by omega)
          have hr1731 : (0 : Int) ≤ N1713 84 11 ∧ N1713 84 11 ≤ (400 : Int) := hIN1713.1 84 11
          have hc1732 : N1713 84 11 = N1622 84 11 := hk1715 84 11 (Or.inl (by decide))
          have hr1733 : (0 : Int) ≤ N1713 84 12 ∧ N1713 84 12 ≤ (7 : Int) := hIN1713.1 84 12
          have hc1734 : N1713 84 12 = N1622 84 12 := hk1715 84 12 (Or.inl (by decide))
          have hr1735 : (0 : Int) ≤ N1713 84 13 ∧ N1713 84 13 ≤ (5 : Int) := hIN1713.1 84 13
          have hc1736 : N1713 84 13 = N1622 84 13 := hk1715 84 13 (Or.inl (by decide))
          have hr1737 : (0 : Int) ≤ N1713 84 15 ∧ N1713 84 15 ≤ (5 : Int) := hIN1713.1 84 15
          have hc1738 : N1713 84 15 = N1622 84 15 := hk1715 84 15 (Or.inl (by decide))
          have hc1739 : N1622 84 15 = N1554 84 15 := hk1656 84 15 rfl
          have hc1740 : N1554 84 15 = N1544 84 15 := hk1556 84 15 (Or.inl (by decide))
          have hr1741 : (0 : Int) ≤ N1713 84 18 ∧ N1713 84 18 ≤ (1 : Int) := hIN1713.1 84 18
          have hc1742 : N1713 84 18 = N1622 84 18 := hk1715 84 18 (Or.inl (by decide))
          have hc1743 : N1622 84 18 = N1554 84 18 := hk1656 84 18 rfl
          have hc1744 : N1554 84 18 = N1544 84 18 := hk1556 84 18 (Or.inl (by decide))
          have hc1745 : N1544 84 18 = N1533 84 18 := hk1552 84 18 rfl
          have hc1746 : N1533 84 18 = N1525 84 18 := hk1535 84 18 (Or.inl (by decide))
          have hc1747 : N1525 84 18 = N1487 84 18 := hk1531 84 18 rfl
          have hc1748 : N1487 84 18 = M 84 18 := hk1491 84 18 rfl
          have hr1749 : (0 : Int) ≤ N1713 84 19 ∧ N1713 84 19 ≤ (1 : Int) := hIN1713.1 84 19
          have hc1750 : N1713 84 19 = N1622 84 19 := hk1715 84 19 (Or.inl (by decide))
          have hc1751 : N1622 84 19 = N1554 84 19 := hk1656 84 19 rfl
          have hc1752 : N1554 84 19 = N1544 84 19 := hk1556 84 19 (Or.inl (by decide))
          have hc1753 : N1544 84 19 = N1533 84 19 := hk1552 84 19 rfl
          have hc1754 : N1533 84 19 = N1525 84 19 := hk1535 84 19 (Or.inl (by decide))
          have hc1755 : N1525 84 19 = N1487 84 19 := hk1531 84 19 rfl
          have hc1756 : N1487 84 19 = M 84 19 := hk1491 84 19 rfl
          have hr1757 : (0 : Int) ≤ N1713 84 20 ∧ N1713 84 20 ≤ (11 : Int) := hIN1713.1 84 20
          have hc1758 : N1713 84 20 = N1622 84 20 := hk1715 84 20 (Or.inl (by decide))
          have hc1759 : N1622 84 20 = N1554 84 20 := hk1656 84 20 rfl
          have hc1760 : N1554 84 20 = N1544 84 20 := hk1556 84 20 (Or.inl (by decide))
          have hc1761 : N1544 84 20 = N1533 84 20 := hk1552 84 20 rfl
          have hc1762 : N1533 84 20 = N1525 84 20 := hk1535 84 20 (Or.inl (by decide))
          have hc1763 : N1525 84 20 = N1487 84 20 := hk1531 84 20 rfl
          have hc1764 : N1487 84 20 = M 84 20 := hk1491 84 20 rfl
          have hc1765 : N1713 84 42 = N1622 84 42 := hk1715 84 42 (Or.inl (by decide))
          have hc1766 : N1713 84 48 = N1622 84 48 := hk1715 84 48 (Or.inl (by decide))
          have hGH : GH N1713 := GH_fr hp1623.2.2.2.2.2.2 (stM_s he1714) rfl (fun _ => by omega)
          have hNA : N1713 84 13 = 0 → NA N1713 := fun _ => NA_fr (NA_fr (NA_fr (NA_fr hna hk1552 rfl) (stM_s he1555) rfl) hk1656 rfl) (stM_s he1714) rfl
          have hNM : N1713 84 13 = 0 → N1713 84 20 = N1713 95 (M 84 19) + N1713 100 (M 84 19) := fun h => by rw [stM_k he1714 84 20 (Or.inl (by decide)), hk1656 84 20 rfl, stM_k he1555 84 20 (Or.inl (by decide)), hk1552 84 20 rfl, stM_k he1534 84 20 (Or.inl (by decide)), hk1531 84 20 rfl, hk1491 84 20 rfl, stM_k he1714 95 _ (Or.inl (by decide)), hk1656 95 _ rfl, stM_k he1555 95 _ (Or.inl (by decide)), hk1552 95 _ rfl, stM_k he1534 95 _ (Or.inl (by decide)), hk1531 95 _ rfl, hk1491 95 _ rfl, stM_k he1714 100 _ (Or.inl (by decide)), hk1656 100 _ rfl, stM_k he1555 100 _ (Or.inl (by decide)), hk1552 100 _ rfl, stM_k he1534 100 _ (Or.inl (by decide)), hk1531 100 _ rfl, hk1491 100 _ rfl]; exact p8
          have h103 : N1713 106 (M 84 19) = M 106 (M 84 19) + 1 := by have e := stM_g he1714; rw [show N1622 84 19 = M 84 19 by omega] at e; have e2 := sc4; rw [show N1622 84 19 = M 84 19 by omega] at e2; omega
          have hsm0 : qSm [(84, some 11), (84, some 12), (84, some 13), (84, some 14), (84, some 15), (84, some 16), (84, some 42), (84, some 48), (84, some 52), (106, none), (107, none), (108, none), (111, none), (112, none), (113, none), (114, none), (115, none), (116, none), (117, none), (118, none), (119, none), (120, none)] M N1713 := (by intro b j hbj; rw [hk1715 b j (qSm_ne hbj rfl), hk1656 b j (qSm_sub hbj rfl), hk1556 b j (qSm_ne hbj rfl), hk1552 b j (qSm_sub hbj rfl), hk1535 b j (qSm_ne hbj rfl), hk1531 b j (qSm_sub hbj rfl), hk1491 b j (qSm_sub hbj rfl)])
          have hGG : GG N1713 := GG_want p11 (by omega) (fun _ _ => by omega) (by omega) h103 (fun j hj => by rw [stM_k he1714 107 _ (Or.inl (by decide)), hk1656 107 _ rfl, stM_k he1555 107 _ (Or.inl (by decide)), hk1552 107 _ rfl, stM_k he1534 107 _ (Or.inr (by omega)), hk1531 107 _ rfl, hk1491 107 _ rfl]) (fun j hj => by rw [stM_k he1714 108 _ (Or.inl (by decide)), hk1656 108 _ rfl, stM_k he1555 108 _ (Or.inr (by omega)), hk1552 108 _ rfl, stM_k he1534 108 _ (Or.inl (by decide)), hk1531 108 _ rfl, hk1491 108 _ rfl]) (fun b hb => by
            simp only [List.contains_cons, List.contains_nil, Bool.or_false, Bool.or_eq_true, beq_iff_eq] at hb
            funext j
            exact hsm0 b j (by rcases hb with rfl | rfl | rfl | rfl | rfl | rfl | rfl | rfl | rfl | rfl <;> rfl)) (fun h1 h2 => by
            rw [stM_k he1714 107 _ (Or.inl (by decide)), hk1656 107 _ rfl, stM_k he1555 107 _ (Or.inl (by decide)), hk1552 107 _ rfl, show 12 * M 84 19 + M 106 (M 84 19) = ((12 * (N1487 84 19)) + 0) by omega, stM_g he1534, stM_k he1714 108 _ (Or.inl (by decide)), hk1656 108 _ rfl, stM_g he1555]
            omega)
          have hr1767 : (0 : Int) ≤ N1713 95 (M 84 19) ∧ N1713 95 (M 84 19) ≤ (6 : Int) := hIN1713.1 95 (M 84 19)
          have hc1768 : N1713 95 (M 84 19) = N1622 95 (M 84 19) := hk1715 95 (M 84 19) (Or.inl (by decide))
          have hc1769 : N1622 95 (M 84 19) = N1554 95 (M 84 19) := hk1656 95 (M 84 19) rfl
          have hc1770 : N1554 95 (M 84 19) = N1544 95 (M 84 19) := hk1556 95 (M 84 19) (Or.inl (by decide))
          have hc1771 : N1544 95 (M 84 19) = N1533 95 (M 84 19) := hk1552 95 (M 84 19) rfl
          have hc1772 : N1533 95 (M 84 19) = N1525 95 (M 84 19) := hk1535 95 (M 84 19) (Or.inl (by decide))
          have hc1773 : N1525 95 (M 84 19) = N1487 95 (M 84 19) := hk1531 95 (M 84 19) rfl
          have hc1774 : N1487 95 (M 84 19) = M 95 (M 84 19) := hk1491 95 (M 84 19) rfl
          have hr1775 : (0 : Int) ≤ N1713 100 (M 84 19) ∧ N1713 100 (M 84 19) ≤ (5 : Int) := hIN1713.1 100 (M 84 19)
          have hc1776 : N1713 100 (M 84 19) = N1622 100 (M 84 19) := hk1715 100 (M 84 19) (Or.inl (by decide))
          have hc1777 : N1622 100 (M 84 19) = N1554 100 (M 84 19) := hk1656 100 (M 84 19) rfl
          have hc1778 : N1554 100 (M 84 19) = N1544 100 (M 84 19) := hk1556 100 (M 84 19) (Or.inl (by decide))
          have hc1779 : N1544 100 (M 84 19) = N1533 100 (M 84 19) := hk1552 100 (M 84 19) rfl
          have hc1780 : N1533 100 (M 84 19) = N1525 100 (M 84 19) := hk1535 100 (M 84 19) (Or.inl (by decide))
          have hc1781 : N1525 100 (M 84 19) = N1487 100 (M 84 19) := hk1531 100 (M 84 19) rfl
          have hc1782 : N1487 100 (M 84 19) = M 100 (M 84 19) := hk1491 100 (M 84 19) rfl
          have hr1783 : (0 : Int) ≤ N1713 103 (M 84 19) ∧ N1713 103 (M 84 19) ≤ (12 : Int) := hIN1713.1 103 (M 84 19)
          have hc1784 : N1713 103 (M 84 19) = N1622 103 (M 84 19) := hk1715 103 (M 84 19) (Or.inl (by decide))
          have hc1785 : N1622 103 (M 84 19) = N1554 103 (M 84 19) := hk1656 103 (M 84 19) rfl
          have hc1786 : N1554 103 (M 84 19) = N1544 103 (M 84 19) := hk1556 103 (M 84 19) (Or.inl (by decide))
          have hc1787 : N1544 103 (M 84 19) = N1533 103 (M 84 19) := hk1552 103 (M 84 19) rfl
          have hc1788 : N1533 103 (M 84 19) = N1525 103 (M 84 19) := hk1535 103 (M 84 19) (Or.inl (by decide))
          have hc1789 : N1525 103 (M 84 19) = N1487 103 (M 84 19) := hk1531 103 (M 84 19) rfl
          have hc1790 : N1487 103 (M 84 19) = M 103 (M 84 19) := hk1491 103 (M 84 19) rfl
          have hP := PS_fr hP (stM_s he1714) rfl
          have hC : NMc N1713 mn gn := NMc_fr hC (stM_s he1714) rfl (by rw [stM_k he1714 84 13 (Or.inl (by decide))]; exact id) (by rw [stM_k he1714 84 15 (Or.inl (by decide))]; exact id)
          have hTe : TLe N1713 := TLe_of (w := (M 95 (M 84 19), M 100 (M 84 19), M 103 (M 84 19), M 106 (M 84 19) + 1)) ⟨mn, gn, hP, hC⟩ (fun h9 => wC_eq (s := M 84 19) (by omega) (by omega) (by omega) (by omega) h103)
          first | have hTe : TLe N1713 := hTe | have hTe : TLe N1713 := TLe_R (PS_F hP (by omega)) | have hTe : TLe N1713 := TLe_R (TL_def p12.1 hx1659 (SA_fr hk1656 rfl) (by omega) p13)
          have hr1791 : (0 : Int) ≤ N1713 84 11 ∧ N1713 84 11 ≤ (400 : Int) := hIN1713.1 84 11
          have hc1792 : N1713 84 11 = N1622 84 11 := hk1715 84 11 (Or.inl (by decide))
          have hr1793 : (0 : Int) ≤ N1713 84 13 ∧ N1713 84 13 ≤ (5 : Int) := hIN1713.1 84 13
          have hc1794 : N1713 84 13 = N1622 84 13 := hk1715 84 13 (Or.inl (by decide))
          have hr1795 : (0 : Int) ≤ N1713 84 12 ∧ N1713 84 12 ≤ (7 : Int) := hIN1713.1 84 12
          have hc1796 : N1713 84 12 = N1622 84 12 := hk1715 84 12 (Or.inl (by decide))
          have hc1797 : N1713 84 48 = N1622 84 48 := hk1715 84 48 (Or.inl (by decide))
          have hc1798 : N1713 84 42 = N1622 84 42 := hk1715 84 42 (Or.inl (by decide))
          have hr1799 : (0 : Int) ≤ N1713 84 20 ∧ N1713 84 20 ≤ (11 : Int) := hIN1713.1 84 20
          have hc1800 : N1713 84 20 = N1622 84 20 := hk1715 84 20 (Or.inl (by decide))
          have hc1801 : N1622 84 20 = N1554 84 20 := hk1656 84 20 rfl
          have hc1802 : N1554 84 20 = N1544 84 20 := hk1556 84 20 (Or.inl (by decide))
          have hc1803 : N1544 84 20 = N1533 84 20 := hk1552 84 20 rfl
          have hc1804 : N1533 84 20 = N1525 84 20 := hk1535 84 20 (Or.inl (by decide))
          have hc1805 : N1525 84 20 = N1487 84 20 := hk1531 84 20 rfl
          have hc1806 : N1487 84 20 = M 84 20 := hk1491 84 20 rfl
          have hsm : qSm [(84, some 11), (84, some 12), (84, some 13), (84, some 14), (84, some 15), (84, some 16), (84, some 20), (84, some 42), (84, some 48), (84, some 52), (92, none), (93, none), (94, none), (95, none), (96, none), (97, none), (98, none), (99, none), (100, none), (101, none), (102, none), (103, none), (104, none), (105, none), (106, none), (107, none), (108, none), (109, none), (110, none), (111, none), (112, none), (113, none), (114, none), (115, none), (116, none), (117, none), (118, none), (119, none), (120, none)] M N1713 := by
            intro b j hbj
            rw [hk1715 b j (qSm_ne hbj rfl), hk1656 b j (qSm_sub hbj rfl), hk1556 b j (qSm_ne hbj rfl), hk1552 b j (qSm_sub hbj rfl), hk1535 b j (qSm_ne hbj rfl), hk1531 b j (qSm_sub hbj rfl), hk1491 b j (qSm_sub hbj rfl)]
          exact ⟨rfl, rfl, hIN1713, hsm, by exact hTe, by omega, by omega, by omega, by first | exact hNM | exact fun h1 => absurd h1 (by omega), by first | exact hGH | exact fun h1 => absurd h1 (by omega), by first | exact hNA | exact fun h1 => absurd h1 (by omega), by first | exact hGG | exact fun h1 _ => absurd h1 (by omega)⟩
      · have hr1807 : (0 : Int) ≤ N1554 84 19 ∧ N1554 84 19 ≤ (1 : Int) := hIN1554.1 84 19
        have hc1808 : N1554 84 19 = N1544 84 19 := hk1556 84 19 (Or.inl (by decide))
        have hc1809 : N1544 84 19 = N1533 84 19 := hk1552 84 19 rfl
        have hc1810 : N1533 84 19 = N1525 84 19 := hk1535 84 19 (Or.inl (by decide))
        have hc1811 : N1525 84 19 = N1487 84 19 := hk1531 84 19 rfl
        have hc1812 : N1487 84 19 = M 84 19 := hk1491 84 19 rfl
        refine ⟨by omega, ?_⟩
        have hr1813 : (0 : Int) ≤ N1554 106 (N1554 84 19) ∧ N1554 106 (N1554 84 19) ≤ (12 : Int) := hIN1554.1 106 (N1554 84 19)
        have hc1814 : N1554 106 (N1554 84 19) = N1544 106 (N1554 84 19) := hk1556 106 (N1554 84 19) (Or.inl (by decide))
        have hc1815 : N1544 106 (N1554 84 19) = N1533 106 (N1554 84 19) := hk1552 106 (N1554 84 19) rfl
        have hc1816 : N1533 106 (N1554 84 19) = N1525 106 (N1554 84 19) := hk1535 106 (N1554 84 19) (Or.inl (by decide))
        have hc1817 : N1525 106 (N1554 84 19) = N1487 106 (N1554 84 19) := hk1531 106 (N1554 84 19) rfl
        have hc1818 : N1487 106 (N1554 84 19) = M 106 (N1554 84 19) := hk1491 106 (N1554 84 19) rfl
        refine ⟨by omega, ?_⟩
        refine ⟨trivial, ?_⟩
        have hr1822 : (0 : Int) ≤ N1554 84 19 ∧ N1554 84 19 ≤ (1 : Int) := hIN1554.1 84 19
        have hc1823 : N1554 84 19 = N1544 84 19 := hk1556 84 19 (Or.inl (by decide))
        have hc1824 : N1544 84 19 = N1533 84 19 := hk1552 84 19 rfl
        have hc1825 : N1533 84 19 = N1525 84 19 := hk1535 84 19 (Or.inl (by decide))
        have hc1826 : N1525 84 19 = N1487 84 19 := hk1531 84 19 rfl
        have hc1827 : N1487 84 19 = M 84 19 := hk1491 84 19 rfl
        have hr1828 : (0 : Int) ≤ N1554 84 18 ∧ N1554 84 18 ≤ (1 : Int) := hIN1554.1 84 18
        have hc1829 : N1554 84 18 = N1544 84 18 := hk1556 84 18 (Or.inl (by decide))
        have hc1830 : N1544 84 18 = N1533 84 18 := hk1552 84 18 rfl
        have hc1831 : N1533 84 18 = N1525 84 18 := hk1535 84 18 (Or.inl (by decide))
        have hc1832 : N1525 84 18 = N1487 84 18 := hk1531 84 18 rfl
        have hc1833 : N1487 84 18 = M 84 18 := hk1491 84 18 rfl
        have hc1834 : N1554 84 48 = N1544 84 48 := hk1556 84 48 (Or.inl (by decide))
        have hc1835 : N1544 84 48 = N1533 84 48 := hk1552 84 48 rfl
        have hc1836 : N1533 84 48 = N1525 84 48 := hk1535 84 48 (Or.inl (by decide))
        have hc1837 : N1525 84 48 = N1487 84 48 := hk1531 84 48 rfl
        have hc1838 : N1487 84 48 = M 84 48 := hk1491 84 48 rfl
        have hr1839 : (0 : Int) ≤ N1554 84 11 ∧ N1554 84 11 ≤ (400 : Int) := hIN1554.1 84 11
        have hc1840 : N1554 84 11 = N1544 84 11 := hk1556 84 11 (Or.inl (by decide))
        have hr1841 : (0 : Int) ≤ N1554 84 13 ∧ N1554 84 13 ≤ (5 : Int) := hIN1554.1 84 13
        have hc1842 : N1554 84 13 = N1544 84 13 := hk1556 84 13 (Or.inl (by decide))
        have hr1843 : (0 : Int) ≤ N1554 84 12 ∧ N1554 84 12 ≤ (7 : Int) := hIN1554.1 84 12
        have hc1844 : N1554 84 12 = N1544 84 12 := hk1556 84 12 (Or.inl (by decide))
        have hc1845 : N1544 84 12 = N1533 84 12 := hk1552 84 12 rfl
        have hc1846 : N1533 84 12 = N1525 84 12 := hk1535 84 12 (Or.inl (by decide))
        have hc1847 : N1525 84 12 = N1487 84 12 := hk1531 84 12 rfl
        have hc1848 : N1487 84 12 = M 84 12 := hk1491 84 12 rfl
        have hc1849 : N1554 84 42 = N1544 84 42 := hk1556 84 42 (Or.inl (by decide))
        have hc1850 : N1544 84 42 = N1533 84 42 := hk1552 84 42 rfl
        have hc1851 : N1533 84 42 = N1525 84 42 := hk1535 84 42 (Or.inl (by decide))
        have hc1852 : N1525 84 42 = N1487 84 42 := hk1531 84 42 rfl
        have hc1853 : N1487 84 42 = M 84 42 := hk1491 84 42 rfl
        refine CV_mono (f_X12_tellLaw T (hIN1554) (show N1554 84 19 = 1 - N1554 84 18 by omega) (by assumption) (show ((28 + (N1554 106 (N1554 84 19))) : Int) < 40 by omega) (show 420 * N1554 84 19 ≤ N1554 84 48 by omega) (show N1554 84 48 - 420 * N1554 84 19 ≤ N1554 84 11 + 2 by omega) (show N1554 84 13 = 0 → N1554 84 12 = 0 ∧ N1554 84 48 - 420 * N1554 84 19 ≤ N1554 84 11 ∧ 4 * (N1554 84 42 - 130 * N1554 84 19) + 2 ≤ N1554 84 11 by omega) (show 130 * N1554 84 19 ≤ N1554 84 42 by omega) (show N1554 84 42 ≤ 130 * N1554 84 19 + 100 by omega) (by assumption)) (fun N1820 hp1821 => ?_)
        obtain ⟨hIN1820, hk1854, hj1855, hj1856, hx1857, hp1821⟩ := hp1821
        have hr1858 : (0 : Int) ≤ N1820 84 11 ∧ N1820 84 11 ≤ (400 : Int) := hIN1820.1 84 11
        have hr1859 : (0 : Int) ≤ N1820 84 12 ∧ N1820 84 12 ≤ (7 : Int) := hIN1820.1 84 12
        have hr1860 : (0 : Int) ≤ N1820 84 13 ∧ N1820 84 13 ≤ (5 : Int) := hIN1820.1 84 13
        have hr1861 : (0 : Int) ≤ N1820 84 15 ∧ N1820 84 15 ≤ (5 : Int) := hIN1820.1 84 15
        have hc1862 : N1820 84 15 = N1554 84 15 := hk1854 84 15 rfl
        have hc1863 : N1554 84 15 = N1544 84 15 := hk1556 84 15 (Or.inl (by decide))
        have hr1864 : (0 : Int) ≤ N1820 84 18 ∧ N1820 84 18 ≤ (1 : Int) := hIN1820.1 84 18
        have hc1865 : N1820 84 18 = N1554 84 18 := hk1854 84 18 rfl
        have hc1866 : N1554 84 18 = N1544 84 18 := hk1556 84 18 (Or.inl (by decide))
        have hc1867 : N1544 84 18 = N1533 84 18 := hk1552 84 18 rfl
        have hc1868 : N1533 84 18 = N1525 84 18 := hk1535 84 18 (Or.inl (by decide))
        have hc1869 : N1525 84 18 = N1487 84 18 := hk1531 84 18 rfl
        have hc1870 : N1487 84 18 = M 84 18 := hk1491 84 18 rfl
        have hr1871 : (0 : Int) ≤ N1820 84 19 ∧ N1820 84 19 ≤ (1 : Int) := hIN1820.1 84 19
        have hc1872 : N1820 84 19 = N1554 84 19 := hk1854 84 19 rfl
        have hc1873 : N1554 84 19 = N1544 84 19 := hk1556 84 19 (Or.inl (by decide))
        have hc1874 : N1544 84 19 = N1533 84 19 := hk1552 84 19 rfl
        have hc1875 : N1533 84 19 = N1525 84 19 := hk1535 84 19 (Or.inl (by decide))
        have hc1876 : N1525 84 19 = N1487 84 19 := hk1531 84 19 rfl
        have hc1877 : N1487 84 19 = M 84 19 := hk1491 84 19 rfl
        have hr1878 : (0 : Int) ≤ N1820 84 20 ∧ N1820 84 20 ≤ (11 : Int) := hIN1820.1 84 20
        have hc1879 : N1820 84 20 = N1554 84 20 := hk1854 84 20 rfl
        have hc1880 : N1554 84 20 = N1544 84 20 := hk1556 84 20 (Or.inl (by decide))
        have hc1881 : N1544 84 20 = N1533 84 20 := hk1552 84 20 rfl
        have hc1882 : N1533 84 20 = N1525 84 20 := hk1535 84 20 (Or.inl (by decide))
        have hc1883 : N1525 84 20 = N1487 84 20 := hk1531 84 20 rfl
        have hc1884 : N1487 84 20 = M 84 20 := hk1491 84 20 rfl
        have sc4 : N1820 106 (N1820 84 19) = M 106 (M 84 19) := by rw [show N1820 84 19 = M 84 19 by omega]; exact (hk1854 106 _ rfl).trans ((stM_k he1555 106 _ (Or.inl (by decide))).trans ((hk1552 106 _ rfl).trans ((stM_k he1534 106 _ (Or.inl (by decide))).trans ((hk1531 106 _ rfl).trans (hk1491 106 _ rfl)))))
        have hP : PS N1820 (0, 0, 0, 0, 0, (M 95 (M 84 19), M 100 (M 84 19), M 103 (M 84 19), M 106 (M 84 19) + 1)) (0, 0, 0, mn, gn) := hx1857
        have hC : NMc N1820 mn gn := NMc_fr hC hk1854 rfl (by omega) (by rw [hk1854 84 15 rfl]; exact id)
        have hr1885 : (0 : Int) ≤ N1820 84 13 ∧ N1820 84 13 ≤ (5 : Int) := hIN1820.1 84 13
        refine ⟨fun hb1886 => ?_, fun hb1886 => ?_⟩
        · first | have hTe : TLe N1820 := hTe | have hTe : TLe N1820 := TLe_R (PS_F hP (by omega)) | have hTe : TLe N1820 := TLe_R (TL_def p12.1 hx1857 (SA_fr hk1854 rfl) (by omega) p13)
          have hr1887 : (0 : Int) ≤ N1820 84 11 ∧ N1820 84 11 ≤ (400 : Int) := hIN1820.1 84 11
          have hr1888 : (0 : Int) ≤ N1820 84 13 ∧ N1820 84 13 ≤ (5 : Int) := hIN1820.1 84 13
          have hr1889 : (0 : Int) ≤ N1820 84 12 ∧ N1820 84 12 ≤ (7 : Int) := hIN1820.1 84 12
          have hr1890 : (0 : Int) ≤ N1820 84 20 ∧ N1820 84 20 ≤ (11 : Int) := hIN1820.1 84 20
          have hc1891 : N1820 84 20 = N1554 84 20 := hk1854 84 20 rfl
          have hc1892 : N1554 84 20 = N1544 84 20 := hk1556 84 20 (Or.inl (by decide))
          have hc1893 : N1544 84 20 = N1533 84 20 := hk1552 84 20 rfl
          have hc1894 : N1533 84 20 = N1525 84 20 := hk1535 84 20 (Or.inl (by decide))
          have hc1895 : N1525 84 20 = N1487 84 20 := hk1531 84 20 rfl
          have hc1896 : N1487 84 20 = M 84 20 := hk1491 84 20 rfl
          have hsm : qSm [(84, some 11), (84, some 12), (84, some 13), (84, some 14), (84, some 15), (84, some 16), (84, some 20), (84, some 42), (84, some 48), (84, some 52), (92, none), (93, none), (94, none), (95, none), (96, none), (97, none), (98, none), (99, none), (100, none), (101, none), (102, none), (103, none), (104, none), (105, none), (106, none), (107, none), (108, none), (109, none), (110, none), (111, none), (112, none), (113, none), (114, none), (115, none), (116, none), (117, none), (118, none), (119, none), (120, none)] M N1820 := by
            intro b j hbj
            rw [hk1854 b j (qSm_sub hbj rfl), hk1556 b j (qSm_ne hbj rfl), hk1552 b j (qSm_sub hbj rfl), hk1535 b j (qSm_ne hbj rfl), hk1531 b j (qSm_sub hbj rfl), hk1491 b j (qSm_sub hbj rfl)]
          exact ⟨rfl, rfl, hIN1820, hsm, by exact hTe, by omega, by omega, by omega, by first | exact hNM | exact fun h1 => absurd h1 (by omega), by first | exact hGH | exact fun h1 => absurd h1 (by omega), by first | exact hNA | exact fun h1 => absurd h1 (by omega), by first | exact hGG | exact fun h1 _ => absurd h1 (by omega)⟩
        · have hr1897 : (0 : Int) ≤ N1820 84 19 ∧ N1820 84 19 ≤ (1 : Int) := hIN1820.1 84 19
          have hc1898 : N1820 84 19 = N1554 84 19 := hk1854 84 19 rfl
          have hc1899 : N1554 84 19 = N1544 84 19 := hk1556 84 19 (Or.inl (by decide))
          have hc1900 : N1544 84 19 = N1533 84 19 := hk1552 84 19 rfl
          have hc1901 : N1533 84 19 = N1525 84 19 := hk1535 84 19 (Or.inl (by decide))
          have hc1902 : N1525 84 19 = N1487 84 19 := hk1531 84 19 rfl
          have hc1903 : N1487 84 19 = M 84 19 := hk1491 84 19 rfl
          refine ⟨by omega, ?_⟩
          have hr1904 : (0 : Int) ≤ N1820 106 (N1820 84 19) ∧ N1820 106 (N1820 84 19) ≤ (12 : Int) := hIN1820.1 106 (N1820 84 19)
          have hc1905 : N1820 106 (N1820 84 19) = N1554 106 (N1820 84 19) := hk1854 106 (N1820 84 19) rfl
          have hc1906 : N1554 106 (N1820 84 19) = N1544 106 (N1820 84 19) := hk1556 106 (N1820 84 19) (Or.inl (by decide))
          have hc1907 : N1544 106 (N1820 84 19) = N1533 106 (N1820 84 19) := hk1552 106 (N1820 84 19) rfl
          have hc1908 : N1533 106 (N1820 84 19) = N1525 106 (N1820 84 19) := hk1535 106 (N1820 84 19) (Or.inl (by decide))
          have hc1909 : N1525 106 (N1820 84 19) = N1487 106 (N1820 84 19) := hk1531 106 (N1820 84 19) rfl
          have hc1910 : N1487 106 (N1820 84 19) = M 106 (N1820 84 19) := hk1491 106 (N1820 84 19) rfl
          refine ⟨by omega, ?_⟩
          refine ⟨by omega, ?_⟩
          obtain ⟨N1911, he1912⟩ : ∃ X : qM, X = stM N1820 106 (N1820 84 19) ((N1820 106 (N1820 84 19)) + 1) := ⟨_, rfl⟩
          rw [← he1912]
          have hk1913 := stM_k he1912
          have hg1914 := stM_g he1912
          have hr1915 : (0 : Int) ≤ N1820 84 18 ∧ N1820 84 18 ≤ (1 : Int) := hIN1820.1 84 18
          have hc1916 : N1820 84 18 = N1554 84 18 := hk1854 84 18 rfl
          have hc1917 : N1554 84 18 = N1544 84 18 := hk1556 84 18 (Or.inl (by decide))
          have hc1918 : N1544 84 18 = N1533 84 18 := hk1552 84 18 rfl
          have hc1919 : N1533 84 18 = N1525 84 18 := hk1535 84 18 (Or.inl (by decide))
          have hc1920 : N1525 84 18 = N1487 84 18 := hk1531 84 18 rfl
          have hc1921 : N1487 84 18 = M 84 18 := hk1491 84 18 rfl
          have hr1922 : (0 : Int) ≤ N1820 84 19 ∧ N1820 84 19 ≤ (1 : Int) := hIN1820.1 84 19
          have hc1923 : N1820 84 19 = N1554 84 19 := hk1854 84 19 rfl
          have hc1924 : N1554 84 19 = N1544 84 19 := hk1556 84 19 (Or.inl (by decide))
          have hc1925 : N1544 84 19 = N1533 84 19 := hk1552 84 19 rfl
          have hc1926 : N1533 84 19 = N1525 84 19 := hk1535 84 19 (Or.inl (by decide))
          have hc1927 : N1525 84 19 = N1487 84 19 := hk1531 84 19 rfl
          have hc1928 : N1487 84 19 = M 84 19 := hk1491 84 19 rfl
          have hIN1911 : INV S N1911 := INV_side (w := 1) hIN1820 he1912 (show (0 : Int) ≤ _ ∧ _ ≤ (12 : Int) from ⟨by omega, by omega⟩) (by decide) (by omega)
          have hr1929 : (0 : Int) ≤ N1911 84 11 ∧ N1911 84 11 ≤ (400 : Int) := hIN1911.1 84 11
          have hc1930 : N1911 84 11 = N1820 84 11 := hk1913 84 11 (Or.inl (by decide))
          have hr1931 : (0 : Int) ≤ N1911 84 12 ∧ N1911 84 12 ≤ (7 : Int) := hIN1911.1 84 12
          have hc1932 : N1911 84 12 = N1820 84 12 := hk1913 84 12 (Or.inl (by decide))
          have hr1933 : (0 : Int) ≤ N1911 84 13 ∧ N1911 84 13 ≤ (5 : Int) := hIN1911.1 84 13
          have hc1934 : N1911 84 13 = N1820 84 13 := hk1913 84 13 (Or.inl (by decide))
          have hr1935 : (0 : Int) ≤ N1911 84 15 ∧ N1911 84 15 ≤ (5 : Int) := hIN1911.1 84 15
          have hc1936 : N1911 84 15 = N1820 84 15 := hk1913 84 15 (Or.inl (by decide))
          have hc1937 : N1820 84 15 = N1554 84 15 := hk1854 84 15 rfl
          have hc1938 : N1554 84 15 = N1544 84 15 := hk1556 84 15 (Or.inl (by decide))
          have hr1939 : (0 : Int) ≤ N1911 84 18 ∧ N1911 84 18 ≤ (1 : Int) := hIN1911.1 84 18
          have hc1940 : N1911 84 18 = N1820 84 18 := hk1913 84 18 (Or.inl (by decide))
          have hc1941 : N1820 84 18 = N1554 84 18 := hk1854 84 18 rfl
          have hc1942 : N1554 84 18 = N1544 84 18 := hk1556 84 18 (Or.inl (by decide))
          have hc1943 : N1544 84 18 = N1533 84 18 := hk1552 84 18 rfl
          have hc1944 : N1533 84 18 = N1525 84 18 := hk1535 84 18 (Or.inl (by decide))
          have hc1945 : N1525 84 18 = N1487 84 18 := hk1531 84 18 rfl
          have hc1946 : N1487 84 18 = M 84 18 := hk1491 84 18 rfl
          have hr1947 : (0 : Int) ≤ N1911 84 19 ∧ N1911 84 19 ≤ (1 : Int) := hIN1911.1 84 19
          have hc1948 : N1911 84 19 = N1820 84 19 := hk1913 84 19 (Or.inl (by decide))
          have hc1949 : N1820 84 19 = N1554 84 19 := hk1854 84 19 rfl
          have hc1950 : N1554 84 19 = N1544 84 19 := hk1556 84 19 (Or.inl (by decide))
          have hc1951 : N1544 84 19 = N1533 84 19 := hk1552 84 19 rfl
          have hc1952 : N1533 84 19 = N1525 84 19 := hk1535 84 19 (Or.inl (by decide))
          have hc1953 : N1525 84 19 = N1487 84 19 := hk1531 84 19 rfl
          have hc1954 : N1487 84 19 = M 84 19 := hk1491 84 19 rfl
          have hr1955 : (0 : Int) ≤ N1911 84 20 ∧ N1911 84 20 ≤ (11 : Int) := hIN1911.1 84 20
          have hc1956 : N1911 84 20 = N1820 84 20 := hk1913 84 20 (Or.inl (by decide))
          have hc1957 : N1820 84 20 = N1554 84 20 := hk1854 84 20 rfl
          have hc1958 : N1554 84 20 = N1544 84 20 := hk1556 84 20 (Or.inl (by decide))
          have hc1959 : N1544 84 20 = N1533 84 20 := hk1552 84 20 rfl
          have hc1960 : N1533 84 20 = N1525 84 20 := hk1535 84 20 (Or.inl (by decide))
          have hc1961 : N1525 84 20 = N1487 84 20 := hk1531 84 20 rfl
          have hc1962 : N1487 84 20 = M 84 20 := hk1491 84 20 rfl
          have hc1963 : N1911 84 42 = N1820 84 42 := hk1913 84 42 (Or.inl (by decide))
          have hc1964 : N1911 84 48 = N1820 84 48 := hk1913 84 48 (Or.inl (by decide))
          have hGH : GH N1911 := GH_fr hp1821.2.2.2.2.2.2 (stM_s he1912) rfl (fun _ => by omega)
          have hNA : N1911 84 13 = 0 → NA N1911 := fun _ => NA_fr (NA_fr (NA_fr (NA_fr hna hk1552 rfl) (stM_s he1555) rfl) hk1854 rfl) (stM_s he1912) rfl
          have hNM : N1911 84 13 = 0 → N1911 84 20 = N1911 95 (M 84 19) + N1911 100 (M 84 19) := fun h => by rw [stM_k he1912 84 20 (Or.inl (by decide)), hk1854 84 20 rfl, stM_k he1555 84 20 (Or.inl (by decide)), hk1552 84 20 rfl, stM_k he1534 84 20 (Or.inl (by decide)), hk1531 84 20 rfl, hk1491 84 20 rfl, stM_k he1912 95 _ (Or.inl (by decide)), hk1854 95 _ rfl, stM_k he1555 95 _ (Or.inl (by decide)), hk1552 95 _ rfl, stM_k he1534 95 _ (Or.inl (by decide)), hk1531 95 _ rfl, hk1491 95 _ rfl, stM_k he1912 100 _ (Or.inl (by decide)), hk1854 100 _ rfl, stM_k he1555 100 _ (Or.inl (by decide)), hk1552 100 _ rfl, stM_k he1534 100 _ (Or.inl (by decide)), hk1531 100 _ rfl, hk1491 100 _ rfl]; exact p8
          have h103 : N1911 106 (M 84 19) = M 106 (M 84 19) + 1 := by have e := stM_g he1912; rw [show N1820 84 19 = M 84 19 by omega] at e; have e2 := sc4; rw [show N1820 84 19 = M 84 19 by omega] at e2; omega
          have hsm0 : qSm [(84, some 11), (84, some 12), (84, some 13), (84, some 14), (84, some 15), (84, some 16), (84, some 42), (84, some 48), (84, some 52), (106, none), (107, none), (108, none), (111, none), (112, none), (113, none), (114, none), (115, none), (116, none), (117, none), (118, none), (119, none), (120, none)] M N1911 := (by intro b j hbj; rw [hk1913 b j (qSm_ne hbj rfl), hk1854 b j (qSm_sub hbj rfl), hk1556 b j (qSm_ne hbj rfl), hk1552 b j (qSm_sub hbj rfl), hk1535 b j (qSm_ne hbj rfl), hk1531 b j (qSm_sub hbj rfl), hk1491 b j (qSm_sub hbj rfl)])
          have hGG : GG N1911 := GG_want p11 (by omega) (fun _ _ => by omega) (by omega) h103 (fun j hj => by rw [stM_k he1912 107 _ (Or.inl (by decide)), hk1854 107 _ rfl, stM_k he1555 107 _ (Or.inl (by decide)), hk1552 107 _ rfl, stM_k he1534 107 _ (Or.inr (by omega)), hk1531 107 _ rfl, hk1491 107 _ rfl]) (fun j hj => by rw [stM_k he1912 108 _ (Or.inl (by decide)), hk1854 108 _ rfl, stM_k he1555 108 _ (Or.inr (by omega)), hk1552 108 _ rfl, stM_k he1534 108 _ (Or.inl (by decide)), hk1531 108 _ rfl, hk1491 108 _ rfl]) (fun b hb => by
            simp only [List.contains_cons, List.contains_nil, Bool.or_false, Bool.or_eq_true, beq_iff_eq] at hb
            funext j
            exact hsm0 b j (by rcases hb with rfl | rfl | rfl | rfl | rfl | rfl | rfl | rfl | rfl | rfl <;> rfl)) (fun h1 h2 => by
            rw [stM_k he1912 107 _ (Or.inl (by decide)), hk1854 107 _ rfl, stM_k he1555 107 _ (Or.inl (by decide)), hk1552 107 _ rfl, show 12 * M 84 19 + M 106 (M 84 19) = ((12 * (N1487 84 19)) + 0) by omega, stM_g he1534, stM_k he1912 108 _ (Or.inl (by decide)), hk1854 108 _ rfl, stM_g he1555]
            omega)
          have hr1965 : (0 : Int) ≤ N1911 95 (M 84 19) ∧ N1911 95 (M 84 19) ≤ (6 : Int) := hIN1911.1 95 (M 84 19)
          have hc1966 : N1911 95 (M 84 19) = N1820 95 (M 84 19) := hk1913 95 (M 84 19) (Or.inl (by decide))
          have hc1967 : N1820 95 (M 84 19) = N1554 95 (M 84 19) := hk1854 95 (M 84 19) rfl
          have hc1968 : N1554 95 (M 84 19) = N1544 95 (M 84 19) := hk1556 95 (M 84 19) (Or.inl (by decide))
          have hc1969 : N1544 95 (M 84 19) = N1533 95 (M 84 19) := hk1552 95 (M 84 19) rfl
          have hc1970 : N1533 95 (M 84 19) = N1525 95 (M 84 19) := hk1535 95 (M 84 19) (Or.inl (by decide))
          have hc1971 : N1525 95 (M 84 19) = N1487 95 (M 84 19) := hk1531 95 (M 84 19) rfl
          have hc1972 : N1487 95 (M 84 19) = M 95 (M 84 19) := hk1491 95 (M 84 19) rfl
          have hr1973 : (0 : Int) ≤ N1911 100 (M 84 19) ∧ N1911 100 (M 84 19) ≤ (5 : Int) := hIN1911.1 100 (M 84 19)
          have hc1974 : N1911 100 (M 84 19) = N1820 100 (M 84 19) := hk1913 100 (M 84 19) (Or.inl (by decide))
          have hc1975 : N1820 100 (M 84 19) = N1554 100 (M 84 19) := hk1854 100 (M 84 19) rfl
          have hc1976 : N1554 100 (M 84 19) = N1544 100 (M 84 19) := hk1556 100 (M 84 19) (Or.inl (by decide))
          have hc1977 : N1544 100 (M 84 19) = N1533 100 (M 84 19) := hk1552 100 (M 84 19) rfl
          have hc1978 : N1533 100 (M 84 19) = N1525 100 (M 84 19) := hk1535 100 (M 84 19) (Or.inl (by decide))
          have hc1979 : N1525 100 (M 84 19) = N1487 100 (M 84 19) := hk1531 100 (M 84 19) rfl
          have hc1980 : N1487 100 (M 84 19) = M 100 (M 84 19) := hk1491 100 (M 84 19) rfl
          have hr1981 : (0 : Int) ≤ N1911 103 (M 84 19) ∧ N1911 103 (M 84 19) ≤ (12 : Int) := hIN1911.1 103 (M 84 19)
          have hc1982 : N1911 103 (M 84 19) = N1820 103 (M 84 19) := hk1913 103 (M 84 19) (Or.inl (by decide))
          have hc1983 : N1820 103 (M 84 19) = N1554 103 (M 84 19) := hk1854 103 (M 84 19) rfl
          have hc1984 : N1554 103 (M 84 19) = N1544 103 (M 84 19) := hk1556 103 (M 84 19) (Or.inl (by decide))
          have hc1985 : N1544 103 (M 84 19) = N1533 103 (M 84 19) := hk1552 103 (M 84 19) rfl
          have hc1986 : N1533 103 (M 84 19) = N1525 103 (M 84 19) := hk1535 103 (M 84 19) (Or.inl (by decide))
          have hc1987 : N1525 103 (M 84 19) = N1487 103 (M 84 19) := hk1531 103 (M 84 19) rfl
          have hc1988 : N1487 103 (M 84 19) = M 103 (M 84 19) := hk1491 103 (M 84 19) rfl
          have hP := PS_fr hP (stM_s he1912) rfl
          have hC : NMc N1911 mn gn := NMc_fr hC (stM_s he1912) rfl (by rw [stM_k he1912 84 13 (Or.inl (by decide))]; exact id) (by rw [stM_k he1912 84 15 (Or.inl (by decide))]; exact id)
          have hTe : TLe N1911 := TLe_of (w := (M 95 (M 84 19), M 100 (M 84 19), M 103 (M 84 19), M 106 (M 84 19) + 1)) ⟨mn, gn, hP, hC⟩ (fun h9 => wC_eq (s := M 84 19) (by omega) (by omega) (by omega) (by omega) h103)
          first | have hTe : TLe N1911 := hTe | have hTe : TLe N1911 := TLe_R (PS_F hP (by omega)) | have hTe : TLe N1911 := TLe_R (TL_def p12.1 hx1857 (SA_fr hk1854 rfl) (by omega) p13)
          have hr1989 : (0 : Int) ≤ N1911 84 11 ∧ N1911 84 11 ≤ (400 : Int) := hIN1911.1 84 11
          have hc1990 : N1911 84 11 = N1820 84 11 := hk1913 84 11 (Or.inl (by decide))
          have hr1991 : (0 : Int) ≤ N1911 84 13 ∧ N1911 84 13 ≤ (5 : Int) := hIN1911.1 84 13
          have hc1992 : N1911 84 13 = N1820 84 13 := hk1913 84 13 (Or.inl (by decide))
          have hr1993 : (0 : Int) ≤ N1911 84 12 ∧ N1911 84 12 ≤ (7 : Int) := hIN1911.1 84 12
          have hc1994 : N1911 84 12 = N1820 84 12 := hk1913 84 12 (Or.inl (by decide))
          have hc1995 : N1911 84 48 = N1820 84 48 := hk1913 84 48 (Or.inl (by decide))
          have hc1996 : N1911 84 42 = N1820 84 42 := hk1913 84 42 (Or.inl (by decide))
          have hr1997 : (0 : Int) ≤ N1911 84 20 ∧ N1911 84 20 ≤ (11 : Int) := hIN1911.1 84 20
          have hc1998 : N1911 84 20 = N1820 84 20 := hk1913 84 20 (Or.inl (by decide))
          have hc1999 : N1820 84 20 = N1554 84 20 := hk1854 84 20 rfl
          have hc2000 : N1554 84 20 = N1544 84 20 := hk1556 84 20 (Or.inl (by decide))
          have hc2001 : N1544 84 20 = N1533 84 20 := hk1552 84 20 rfl
          have hc2002 : N1533 84 20 = N1525 84 20 := hk1535 84 20 (Or.inl (by decide))
          have hc2003 : N1525 84 20 = N1487 84 20 := hk1531 84 20 rfl
          have hc2004 : N1487 84 20 = M 84 20 := hk1491 84 20 rfl
          have hsm : qSm [(84, some 11), (84, some 12), (84, some 13), (84, some 14), (84, some 15), (84, some 16), (84, some 20), (84, some 42), (84, some 48), (84, some 52), (92, none), (93, none), (94, none), (95, none), (96, none), (97, none), (98, none), (99, none), (100, none), (101, none), (102, none), (103, none), (104, none), (105, none), (106, none), (107, none), (108, none), (109, none), (110, none), (111, none), (112, none), (113, none), (114, none), (115, none), (116, none), (117, none), (118, none), (119, none), (120, none)] M N1911 := by
            intro b j hbj
            rw [hk1913 b j (qSm_ne hbj rfl), hk1854 b j (qSm_sub hbj rfl), hk1556 b j (qSm_ne hbj rfl), hk1552 b j (qSm_sub hbj rfl), hk1535 b j (qSm_ne hbj rfl), hk1531 b j (qSm_sub hbj rfl), hk1491 b j (qSm_sub hbj rfl)]
          exact ⟨rfl, rfl, hIN1911, hsm, by exact hTe, by omega, by omega, by omega, by first | exact hNM | exact fun h1 => absurd h1 (by omega), by first | exact hGH | exact fun h1 => absurd h1 (by omega), by first | exact hNA | exact fun h1 => absurd h1 (by omega), by first | exact hGG | exact fun h1 _ => absurd h1 (by omega)⟩
    · have hr2005 : (0 : Int) ≤ N1487 84 19 ∧ N1487 84 19 ≤ (1 : Int) := hIN1487.1 84 19
      have hc2006 : N1487 84 19 = M 84 19 := hk1491 84 19 rfl
      refine ⟨by omega, ?_⟩
      have hr2007 : (0 : Int) ≤ N1487 106 (N1487 84 19) ∧ N1487 106 (N1487 84 19) ≤ (12 : Int) := hIN1487.1 106 (N1487 84 19)
      have hc2008 : N1487 106 (N1487 84 19) = M 106 (N1487 84 19) := hk1491 106 (N1487 84 19) rfl
      refine ⟨by omega, ?_⟩
      refine ⟨trivial, ?_⟩
      have hr2012 : (0 : Int) ≤ N1487 84 11 ∧ N1487 84 11 ≤ (400 : Int) := hIN1487.1 84 11
      have hr2013 : (0 : Int) ≤ N1487 84 13 ∧ N1487 84 13 ≤ (5 : Int) := hIN1487.1 84 13
      have hr2014 : (0 : Int) ≤ N1487 84 15 ∧ N1487 84 15 ≤ (5 : Int) := hIN1487.1 84 15
      have hc2015 : N1487 84 15 = M 84 15 := hk1491 84 15 rfl
      refine CI_mono (f_X12_known T (hIN1487) (by assumption)) (fun z2009 N2010 hp2011 => ?_)
      obtain ⟨hIN2010, hk2016, hx2017, hp2011⟩ := hp2011
      have hP : PS N2010 (1, 8, 1, 0, 0, (M 95 (M 84 19), M 100 (M 84 19), M 103 (M 84 19), M 106 (M 84 19) + 1)) (0, 8, 1, mn, gn) := KNO hP (by omega) rfl (by omega) hx2017 hC (SA_fr hk2016 rfl)
      have hC : NMc N2010 mn gn := NMc_fr hC hk2016 rfl (by omega) (by omega)
      refine ⟨by omega, ?_⟩
      obtain ⟨N2018, he2019⟩ : ∃ X : qM, X = stM N2010 107 ((12 * (N1487 84 19)) + (N1487 106 (N1487 84 19))) z2009 := ⟨_, rfl⟩
      rw [← he2019]
      have hk2020 := stM_k he2019
      have hg2021 := stM_g he2019
      have hr2022 : (0 : Int) ≤ N2010 84 18 ∧ N2010 84 18 ≤ (1 : Int) := hIN2010.1 84 18
      have hc2023 : N2010 84 18 = N1487 84 18 := hk2016 84 18 rfl
      have hc2024 : N1487 84 18 = M 84 18 := hk1491 84 18 rfl
      have hr2025 : (0 : Int) ≤ N2010 84 19 ∧ N2010 84 19 ≤ (1 : Int) := hIN2010.1 84 19
      have hc2026 : N2010 84 19 = N1487 84 19 := hk2016 84 19 rfl
      have hc2027 : N1487 84 19 = M 84 19 := hk1491 84 19 rfl
      have hIN2018 : INV S N2018 := INV_side (w := 12) hIN2010 he2019 (qFree _ _ _ rfl) (by decide) (by omega)
      have hna : NA N2018 := NA_fr (NA_fr hna hk2016 rfl) (stM_s he2019) rfl
      have hP := PS_fr hP (stM_s he2019) rfl
      have hC : NMc N2018 mn gn := NMc_fr hC (stM_s he2019) rfl (by rw [stM_k he2019 84 13 (Or.inl (by decide))]; exact id) (by rw [stM_k he2019 84 15 (Or.inl (by decide))]; exact id)
      refine ⟨trivial, ?_⟩
      have hr2031 : (0 : Int) ≤ N2018 84 11 ∧ N2018 84 11 ≤ (400 : Int) := hIN2018.1 84 11
      have hc2032 : N2018 84 11 = N2010 84 11 := hk2020 84 11 (Or.inl (by decide))
      have hr2033 : (0 : Int) ≤ N2018 84 13 ∧ N2018 84 13 ≤ (5 : Int) := hIN2018.1 84 13
      have hc2034 : N2018 84 13 = N2010 84 13 := hk2020 84 13 (Or.inl (by decide))
      have hr2035 : (0 : Int) ≤ N2018 84 15 ∧ N2018 84 15 ≤ (5 : Int) := hIN2018.1 84 15
      have hc2036 : N2018 84 15 = N2010 84 15 := hk2020 84 15 (Or.inl (by decide))
      refine CI_mono (f_X12_known T (hIN2018) (by assumption)) (fun z2028 N2029 hp2030 => ?_)
      obtain ⟨hIN2029, hk2037, hx2038, hp2030⟩ := hp2030
      have hP : PS N2029 (1, 8, 2, 0, 0, (M 95 (M 84 19), M 100 (M 84 19), M 103 (M 84 19), M 106 (M 84 19) + 1)) (0, 8, 2, mn, gn) := KNO hP (by omega) rfl (by omega) hx2038 hC (SA_fr hk2037 rfl)
      have hC : NMc N2029 mn gn := NMc_fr hC hk2037 rfl (by omega) (by omega)
      refine ⟨by omega, ?_⟩
      obtain ⟨N2039, he2040⟩ : ∃ X : qM, X = stM N2029 108 ((12 * (N1487 84 19)) + (N1487 106 (N1487 84 19))) z2028 := ⟨_, rfl⟩
      rw [← he2040]
      have hk2041 := stM_k he2040
      have hg2042 := stM_g he2040
      have hr2043 : (0 : Int) ≤ N2029 84 18 ∧ N2029 84 18 ≤ (1 : Int) := hIN2029.1 84 18
      have hc2044 : N2029 84 18 = N2018 84 18 := hk2037 84 18 rfl
      have hc2045 : N2018 84 18 = N2010 84 18 := hk2020 84 18 (Or.inl (by decide))
      have hc2046 : N2010 84 18 = N1487 84 18 := hk2016 84 18 rfl
      have hc2047 : N1487 84 18 = M 84 18 := hk1491 84 18 rfl
      have hr2048 : (0 : Int) ≤ N2029 84 19 ∧ N2029 84 19 ≤ (1 : Int) := hIN2029.1 84 19
      have hc2049 : N2029 84 19 = N2018 84 19 := hk2037 84 19 rfl
      have hc2050 : N2018 84 19 = N2010 84 19 := hk2020 84 19 (Or.inl (by decide))
      have hc2051 : N2010 84 19 = N1487 84 19 := hk2016 84 19 rfl
      have hc2052 : N1487 84 19 = M 84 19 := hk1491 84 19 rfl
      have hIN2039 : INV S N2039 := INV_side (w := 12) hIN2029 he2040 (qFree _ _ _ rfl) (by decide) (by omega)
      have hr2053 : (0 : Int) ≤ N2039 84 11 ∧ N2039 84 11 ≤ (400 : Int) := hIN2039.1 84 11
      have hc2054 : N2039 84 11 = N2029 84 11 := hk2041 84 11 (Or.inl (by decide))
      have hr2055 : (0 : Int) ≤ N2039 84 12 ∧ N2039 84 12 ≤ (7 : Int) := hIN2039.1 84 12
      have hc2056 : N2039 84 12 = N2029 84 12 := hk2041 84 12 (Or.inl (by decide))
      have hc2057 : N2029 84 12 = N2018 84 12 := hk2037 84 12 rfl
      have hc2058 : N2018 84 12 = N2010 84 12 := hk2020 84 12 (Or.inl (by decide))
      have hc2059 : N2010 84 12 = N1487 84 12 := hk2016 84 12 rfl
      have hc2060 : N1487 84 12 = M 84 12 := hk1491 84 12 rfl
      have hr2061 : (0 : Int) ≤ N2039 84 13 ∧ N2039 84 13 ≤ (5 : Int) := hIN2039.1 84 13
      have hc2062 : N2039 84 13 = N2029 84 13 := hk2041 84 13 (Or.inl (by decide))
      have hr2063 : (0 : Int) ≤ N2039 84 15 ∧ N2039 84 15 ≤ (5 : Int) := hIN2039.1 84 15
      have hc2064 : N2039 84 15 = N2029 84 15 := hk2041 84 15 (Or.inl (by decide))
      have hr2065 : (0 : Int) ≤ N2039 84 18 ∧ N2039 84 18 ≤ (1 : Int) := hIN2039.1 84 18
      have hc2066 : N2039 84 18 = N2029 84 18 := hk2041 84 18 (Or.inl (by decide))
      have hc2067 : N2029 84 18 = N2018 84 18 := hk2037 84 18 rfl
      have hc2068 : N2018 84 18 = N2010 84 18 := hk2020 84 18 (Or.inl (by decide))
      have hc2069 : N2010 84 18 = N1487 84 18 := hk2016 84 18 rfl
      have hc2070 : N1487 84 18 = M 84 18 := hk1491 84 18 rfl
      have hr2071 : (0 : Int) ≤ N2039 84 19 ∧ N2039 84 19 ≤ (1 : Int) := hIN2039.1 84 19
      have hc2072 : N2039 84 19 = N2029 84 19 := hk2041 84 19 (Or.inl (by decide))
      have hc2073 : N2029 84 19 = N2018 84 19 := hk2037 84 19 rfl
      have hc2074 : N2018 84 19 = N2010 84 19 := hk2020 84 19 (Or.inl (by decide))
      have hc2075 : N2010 84 19 = N1487 84 19 := hk2016 84 19 rfl
      have hc2076 : N1487 84 19 = M 84 19 := hk1491 84 19 rfl
      have hr2077 : (0 : Int) ≤ N2039 84 20 ∧ N2039 84 20 ≤ (11 : Int) := hIN2039.1 84 20
      have hc2078 : N2039 84 20 = N2029 84 20 := hk2041 84 20 (Or.inl (by decide))
      have hc2079 : N2029 84 20 = N2018 84 20 := hk2037 84 20 rfl
      have hc2080 : N2018 84 20 = N2010 84 20 := hk2020 84 20 (Or.inl (by decide))
      have hc2081 : N2010 84 20 = N1487 84 20 := hk2016 84 20 rfl
      have hc2082 : N1487 84 20 = M 84 20 := hk1491 84 20 rfl
      have hc2083 : N2039 84 42 = N2029 84 42 := hk2041 84 42 (Or.inl (by decide))
      have hc2084 : N2029 84 42 = N2018 84 42 := hk2037 84 42 rfl
      have hc2085 : N2018 84 42 = N2010 84 42 := hk2020 84 42 (Or.inl (by decide))
      have hc2086 : N2010 84 42 = N1487 84 42 := hk2016 84 42 rfl
      have hc2087 : N1487 84 42 = M 84 42 := hk1491 84 42 rfl
      have hc2088 : N2039 84 48 = N2029 84 48 := hk2041 84 48 (Or.inl (by decide))
      have hc2089 : N2029 84 48 = N2018 84 48 := hk2037 84 48 rfl
      have hc2090 : N2018 84 48 = N2010 84 48 := hk2020 84 48 (Or.inl (by decide))
      have hc2091 : N2010 84 48 = N1487 84 48 := hk2016 84 48 rfl
      have hc2092 : N1487 84 48 = M 84 48 := hk1491 84 48 rfl
      have sc3 : N2039 106 (N2039 84 19) = M 106 (M 84 19) := by rw [show N2039 84 19 = M 84 19 by omega]; exact (stM_k he2040 106 _ (Or.inl (by decide))).trans ((hk2037 106 _ rfl).trans ((stM_k he2019 106 _ (Or.inl (by decide))).trans ((hk2016 106 _ rfl).trans (hk1491 106 _ rfl))))
      have hgh : GH N2039 := GH_fr (GH_fr (GH_fr (GH_fr (GH_fr p9 hk1491 rfl (fun _ => by omega)) hk2016 rfl (fun _ => by omega)) (stM_s he2019) rfl (fun _ => by omega)) hk2037 rfl (fun _ => by omega)) (stM_s he2040) rfl (fun _ => by omega)
      have hP := PS_fr hP (stM_s he2040) rfl
      have hC : NMc N2039 mn gn := NMc_fr hC (stM_s he2040) rfl (by rw [stM_k he2040 84 13 (Or.inl (by decide))]; exact id) (by rw [stM_k he2040 84 15 (Or.inl (by decide))]; exact id)
      have hLW : LWp N2039 8 2 (M 95 (M 84 19), M 100 (M 84 19), M 103 (M 84 19), M 106 (M 84 19) + 1) (0, 8, 2, mn, gn) := ⟨hP, rfl, rfl⟩
      have hr2093 : (0 : Int) ≤ N2039 84 19 ∧ N2039 84 19 ≤ (1 : Int) := hIN2039.1 84 19
      have hc2094 : N2039 84 19 = N2029 84 19 := hk2041 84 19 (Or.inl (by decide))
      have hc2095 : N2029 84 19 = N2018 84 19 := hk2037 84 19 rfl
      have hc2096 : N2018 84 19 = N2010 84 19 := hk2020 84 19 (Or.inl (by decide))
      have hc2097 : N2010 84 19 = N1487 84 19 := hk2016 84 19 rfl
      have hc2098 : N1487 84 19 = M 84 19 := hk1491 84 19 rfl
      refine ⟨by omega, ?_⟩
      have hr2099 : (0 : Int) ≤ N2039 106 (N2039 84 19) ∧ N2039 106 (N2039 84 19) ≤ (12 : Int) := hIN2039.1 106 (N2039 84 19)
      have hc2100 : N2039 106 (N2039 84 19) = N2029 106 (N2039 84 19) := hk2041 106 (N2039 84 19) (Or.inl (by decide))
      have hc2101 : N2029 106 (N2039 84 19) = N2018 106 (N2039 84 19) := hk2037 106 (N2039 84 19) rfl
      have hc2102 : N2018 106 (N2039 84 19) = N2010 106 (N2039 84 19) := hk2020 106 (N2039 84 19) (Or.inl (by decide))
      have hc2103 : N2010 106 (N2039 84 19) = N1487 106 (N2039 84 19) := hk2016 106 (N2039 84 19) rfl
      have hc2104 : N1487 106 (N2039 84 19) = M 106 (N2039 84 19) := hk1491 106 (N2039 84 19) rfl
      refine ⟨fun hb2105 => ?_, fun hb2105 => ?_⟩
      · refine ⟨by omega, ?_⟩
        refine ⟨trivial, ?_⟩
        have hr2109 : (0 : Int) ≤ N2039 84 19 ∧ N2039 84 19 ≤ (1 : Int) := hIN2039.1 84 19
        have hc2110 : N2039 84 19 = N2029 84 19 := hk2041 84 19 (Or.inl (by decide))
        have hc2111 : N2029 84 19 = N2018 84 19 := hk2037 84 19 rfl
        have hc2112 : N2018 84 19 = N2010 84 19 := hk2020 84 19 (Or.inl (by decide))
        have hc2113 : N2010 84 19 = N1487 84 19 := hk2016 84 19 rfl
        have hc2114 : N1487 84 19 = M 84 19 := hk1491 84 19 rfl
        have hr2115 : (0 : Int) ≤ N2039 84 18 ∧ N2039 84 18 ≤ (1 : Int) := hIN2039.1 84 18
        have hc2116 : N2039 84 18 = N2029 84 18 := hk2041 84 18 (Or.inl (by decide))
        have hc2117 : N2029 84 18 = N2018 84 18 := hk2037 84 18 rfl
        have hc2118 : N2018 84 18 = N2010 84 18 := hk2020 84 18 (Or.inl (by decide))
        have hc2119 : N2010 84 18 = N1487 84 18 := hk2016 84 18 rfl
        have hc2120 : N1487 84 18 = M 84 18 := hk1491 84 18 rfl
        have hc2121 : N2039 84 48 = N2029 84 48 := hk2041 84 48 (Or.inl (by decide))
        have hc2122 : N2029 84 48 = N2018 84 48 := hk2037 84 48 rfl
        have hc2123 : N2018 84 48 = N2010 84 48 := hk2020 84 48 (Or.inl (by decide))
        have hc2124 : N2010 84 48 = N1487 84 48 := hk2016 84 48 rfl
        have hc2125 : N1487 84 48 = M 84 48 := hk1491 84 48 rfl
        have hr2126 : (0 : Int) ≤ N2039 84 11 ∧ N2039 84 11 ≤ (400 : Int) := hIN2039.1 84 11
        have hc2127 : N2039 84 11 = N2029 84 11 := hk2041 84 11 (Or.inl (by decide))
        have hr2128 : (0 : Int) ≤ N2039 84 13 ∧ N2039 84 13 ≤ (5 : Int) := hIN2039.1 84 13
        have hc2129 : N2039 84 13 = N2029 84 13 := hk2041 84 13 (Or.inl (by decide))
        have hr2130 : (0 : Int) ≤ N2039 84 12 ∧ N2039 84 12 ≤ (7 : Int) := hIN2039.1 84 12
        have hc2131 : N2039 84 12 = N2029 84 12 := hk2041 84 12 (Or.inl (by decide))
        have hc2132 : N2029 84 12 = N2018 84 12 := hk2037 84 12 rfl
        have hc2133 : N2018 84 12 = N2010 84 12 := hk2020 84 12 (Or.inl (by decide))
        have hc2134 : N2010 84 12 = N1487 84 12 := hk2016 84 12 rfl
        have hc2135 : N1487 84 12 = M 84 12 := hk1491 84 12 rfl
        have hc2136 : N2039 84 42 = N2029 84 42 := hk2041 84 42 (Or.inl (by decide))
        have hc2137 : N2029 84 42 = N2018 84 42 := hk2037 84 42 rfl
        have hc2138 : N2018 84 42 = N2010 84 42 := hk2020 84 42 (Or.inl (by decide))
        have hc2139 : N2010 84 42 = N1487 84 42 := hk2016 84 42 rfl
        have hc2140 : N1487 84 42 = M 84 42 := hk1491 84 42 rfl
        refine CV_mono (f_X12_tellLaw T (hIN2039) (show N2039 84 19 = 1 - N2039 84 18 by omega) (by assumption) (show ((28 + 0) : Int) < 40 by omega) (show 420 * N2039 84 19 ≤ N2039 84 48 by omega) (show N2039 84 48 - 420 * N2039 84 19 ≤ N2039 84 11 + 2 by omega) (show N2039 84 13 = 0 → N2039 84 12 = 0 ∧ N2039 84 48 - 420 * N2039 84 19 ≤ N2039 84 11 ∧ 4 * (N2039 84 42 - 130 * N2039 84 19) + 2 ≤ N2039 84 11 by omega) (show 130 * N2039 84 19 ≤ N2039 84 42 by omega) (show N2039 84 42 ≤ 130 * N2039 84 19 + 100 by omega) (by assumption)) (fun N2107 hp2108 => ?_)
        obtain ⟨hIN2107, hk2141, hj2142, hj2143, hx2144, hp2108⟩ := hp2108
        have hr2145 : (0 : Int) ≤ N2107 84 11 ∧ N2107 84 11 ≤ (400 : Int) := hIN2107.1 84 11
        have hr2146 : (0 : Int) ≤ N2107 84 12 ∧ N2107 84 12 ≤ (7 : Int) := hIN2107.1 84 12
        have hr2147 : (0 : Int) ≤ N2107 84 13 ∧ N2107 84 13 ≤ (5 : Int) := hIN2107.1 84 13
        have hr2148 : (0 : Int) ≤ N2107 84 15 ∧ N2107 84 15 ≤ (5 : Int) := hIN2107.1 84 15
        have hc2149 : N2107 84 15 = N2039 84 15 := hk2141 84 15 rfl
        have hc2150 : N2039 84 15 = N2029 84 15 := hk2041 84 15 (Or.inl (by decide))
        have hr2151 : (0 : Int) ≤ N2107 84 18 ∧ N2107 84 18 ≤ (1 : Int) := hIN2107.1 84 18
        have hc2152 : N2107 84 18 = N2039 84 18 := hk2141 84 18 rfl
        have hc2153 : N2039 84 18 = N2029 84 18 := hk2041 84 18 (Or.inl (by decide))
        have hc2154 : N2029 84 18 = N2018 84 18 := hk2037 84 18 rfl
        have hc2155 : N2018 84 18 = N2010 84 18 := hk2020 84 18 (Or.inl (by decide))
        have hc2156 : N2010 84 18 = N1487 84 18 := hk2016 84 18 rfl
        have hc2157 : N1487 84 18 = M 84 18 := hk1491 84 18 rfl
        have hr2158 : (0 : Int) ≤ N2107 84 19 ∧ N2107 84 19 ≤ (1 : Int) := hIN2107.1 84 19
        have hc2159 : N2107 84 19 = N2039 84 19 := hk2141 84 19 rfl
        have hc2160 : N2039 84 19 = N2029 84 19 := hk2041 84 19 (Or.inl (by decide))
        have hc2161 : N2029 84 19 = N2018 84 19 := hk2037 84 19 rfl
        have hc2162 : N2018 84 19 = N2010 84 19 := hk2020 84 19 (Or.inl (by decide))
        have hc2163 : N2010 84 19 = N1487 84 19 := hk2016 84 19 rfl
        have hc2164 : N1487 84 19 = M 84 19 := hk1491 84 19 rfl
        have hr2165 : (0 : Int) ≤ N2107 84 20 ∧ N2107 84 20 ≤ (11 : Int) := hIN2107.1 84 20
        have hc2166 : N2107 84 20 = N2039 84 20 := hk2141 84 20 rfl
        have hc2167 : N2039 84 20 = N2029 84 20 := hk2041 84 20 (Or.inl (by decide))
        have hc2168 : N2029 84 20 = N2018 84 20 := hk2037 84 20 rfl
        have hc2169 : N2018 84 20 = N2010 84 20 := hk2020 84 20 (Or.inl (by decide))
        have hc2170 : N2010 84 20 = N1487 84 20 := hk2016 84 20 rfl
        have hc2171 : N1487 84 20 = M 84 20 := hk1491 84 20 rfl
        have sc4 : N2107 106 (N2107 84 19) = M 106 (M 84 19) := by rw [show N2107 84 19 = M 84 19 by omega]; exact (hk2141 106 _ rfl).trans ((stM_k he2040 106 _ (Or.inl (by decide))).trans ((hk2037 106 _ rfl).trans ((stM_k he2019 106 _ (Or.inl (by decide))).trans ((hk2016 106 _ rfl).trans (hk1491 106 _ rfl)))))
        have hP : PS N2107 (0, 0, 0, 0, 0, (M 95 (M 84 19), M 100 (M 84 19), M 103 (M 84 19), M 106 (M 84 19) + 1)) (0, 0, 0, mn, gn) := hx2144
        have hC : NMc N2107 mn gn := NMc_fr hC hk2141 rfl (by omega) (by rw [hk2141 84 15 rfl]; exact id)
        have hr2172 : (0 : Int) ≤ N2107 84 13 ∧ N2107 84 13 ≤ (5 : Int) := hIN2107.1 84 13
        refine ⟨fun hb2173 => ?_, fun hb2173 => ?_⟩
        · first | have hTe : TLe N2107 := hTe | have hTe : TLe N2107 := TLe_R (PS_F hP (by omega)) | have hTe : TLe N2107 := TLe_R (TL_def p12.1 hx2144 (SA_fr hk2141 rfl) (by omega) p13)
          have hr2174 : (0 : Int) ≤ N2107 84 11 ∧ N2107 84 11 ≤ (400 : Int) := hIN2107.1 84 11
          have hr2175 : (0 : Int) ≤ N2107 84 13 ∧ N2107 84 13 ≤ (5 : Int) := hIN2107.1 84 13
          have hr2176 : (0 : Int) ≤ N2107 84 12 ∧ N2107 84 12 ≤ (7 : Int) := hIN2107.1 84 12
          have hr2177 : (0 : Int) ≤ N2107 84 20 ∧ N2107 84 20 ≤ (11 : Int) := hIN2107.1 84 20
          have hc2178 : N2107 84 20 = N2039 84 20 := hk2141 84 20 rfl
          have hc2179 : N2039 84 20 = N2029 84 20 := hk2041 84 20 (Or.inl (by decide))
          have hc2180 : N2029 84 20 = N2018 84 20 := hk2037 84 20 rfl
          have hc2181 : N2018 84 20 = N2010 84 20 := hk2020 84 20 (Or.inl (by decide))
          have hc2182 : N2010 84 20 = N1487 84 20 := hk2016 84 20 rfl
          have hc2183 : N1487 84 20 = M 84 20 := hk1491 84 20 rfl
          have hsm : qSm [(84, some 11), (84, some 12), (84, some 13), (84, some 14), (84, some 15), (84, some 16), (84, some 20), (84, some 42), (84, some 48), (84, some 52), (92, none), (93, none), (94, none), (95, none), (96, none), (97, none), (98, none), (99, none), (100, none), (101, none), (102, none), (103, none), (104, none), (105, none), (106, none), (107, none), (108, none), (109, none), (110, none), (111, none), (112, none), (113, none), (114, none), (115, none), (116, none), (117, none), (118, none), (119, none), (120, none)] M N2107 := by
            intro b j hbj
            rw [hk2141 b j (qSm_sub hbj rfl), hk2041 b j (qSm_ne hbj rfl), hk2037 b j (qSm_sub hbj rfl), hk2020 b j (qSm_ne hbj rfl), hk2016 b j (qSm_sub hbj rfl), hk1491 b j (qSm_sub hbj rfl)]
          exact ⟨rfl, rfl, hIN2107, hsm, by exact hTe, by omega, by omega, by omega, by first | exact hNM | exact fun h1 => absurd h1 (by omega), by first | exact hGH | exact fun h1 => absurd h1 (by omega), by first | exact hNA | exact fun h1 => absurd h1 (by omega), by first | exact hGG | exact fun h1 _ => absurd h1 (by omega)⟩
        · have hr2184 : (0 : Int) ≤ N2107 84 19 ∧ N2107 84 19 ≤ (1 : Int) := hIN2107.1 84 19
          have hc2185 : N2107 84 19 = N2039 84 19 := hk2141 84 19 rfl
          have hc2186 : N2039 84 19 = N2029 84 19 := hk2041 84 19 (Or.inl (by decide))
          have hc2187 : N2029 84 19 = N2018 84 19 := hk2037 84 19 rfl
          have hc2188 : N2018 84 19 = N2010 84 19 := hk2020 84 19 (Or.inl (by decide))
          have hc2189 : N2010 84 19 = N1487 84 19 := hk2016 84 19 rfl
          have hc2190 : N1487 84 19 = M 84 19 := hk1491 84 19 rfl
          refine ⟨by omega, ?_⟩
          have hr2191 : (0 : Int) ≤ N2107 106 (N2107 84 19) ∧ N2107 106 (N2107 84 19) ≤ (12 : Int) := hIN2107.1 106 (N2107 84 19)
          have hc2192 : N2107 106 (N2107 84 19) = N2039 106 (N2107 84 19) := hk2141 106 (N2107 84 19) rfl
          have hc2193 : N2039 106 (N2107 84 19) = N2029 106 (N2107 84 19) := hk2041 106 (N2107 84 19) (Or.inl (by decide))
          have hc2194 : N2029 106 (N2107 84 19) = N2018 106 (N2107 84 19) := hk2037 106 (N2107 84 19) rfl
          have hc2195 : N2018 106 (N2107 84 19) = N2010 106 (N2107 84 19) := hk2020 106 (N2107 84 19) (Or.inl (by decide))
          have hc2196 : N2010 106 (N2107 84 19) = N1487 106 (N2107 84 19) := hk2016 106 (N2107 84 19) rfl
          have hc2197 : N1487 106 (N2107 84 19) = M 106 (N2107 84 19) := hk1491 106 (N2107 84 19) rfl
          refine ⟨by omega, ?_⟩
          refine ⟨by omega, ?_⟩
          obtain ⟨N2198, he2199⟩ : ∃ X : qM, X = stM N2107 106 (N2107 84 19) ((N2107 106 (N2107 84 19)) + 1) := ⟨_, rfl⟩
          rw [← he2199]
          have hk2200 := stM_k he2199
          have hg2201 := stM_g he2199
          have hr2202 : (0 : Int) ≤ N2107 84 18 ∧ N2107 84 18 ≤ (1 : Int) := hIN2107.1 84 18
          have hc2203 : N2107 84 18 = N2039 84 18 := hk2141 84 18 rfl
          have hc2204 : N2039 84 18 = N2029 84 18 := hk2041 84 18 (Or.inl (by decide))
          have hc2205 : N2029 84 18 = N2018 84 18 := hk2037 84 18 rfl
          have hc2206 : N2018 84 18 = N2010 84 18 := hk2020 84 18 (Or.inl (by decide))
          have hc2207 : N2010 84 18 = N1487 84 18 := hk2016 84 18 rfl
          have hc2208 : N1487 84 18 = M 84 18 := hk1491 84 18 rfl
          have hr2209 : (0 : Int) ≤ N2107 84 19 ∧ N2107 84 19 ≤ (1 : Int) := hIN2107.1 84 19
          have hc2210 : N2107 84 19 = N2039 84 19 := hk2141 84 19 rfl
          have hc2211 : N2039 84 19 = N2029 84 19 := hk2041 84 19 (Or.inl (by decide))
          have hc2212 : N2029 84 19 = N2018 84 19 := hk2037 84 19 rfl
          have hc2213 : N2018 84 19 = N2010 84 19 := hk2020 84 19 (Or.inl (by decide))
          have hc2214 : N2010 84 19 = N1487 84 19 := hk2016 84 19 rfl
          have hc2215 : N1487 84 19 = M 84 19 := hk1491 84 19 rfl
          have hIN2198 : INV S N2198 := INV_side (w := 1) hIN2107 he2199 (show (0 : Int) ≤ _ ∧ _ ≤ (12 : Int) from ⟨by omega, by omega⟩) (by decide) (by omega)
          have hr2216 : (0 : Int) ≤ N2198 84 11 ∧ N2198 84 11 ≤ (400 : Int) := hIN2198.1 84 11
          have hc2217 : N2198 84 11 = N2107 84 11 := hk2200 84 11 (Or.inl (by decide))
          have hr2218 : (0 : Int) ≤ N2198 84 12 ∧ N2198 84 12 ≤ (7 : Int) := hIN2198.1 84 12
          have hc2219 : N2198 84 12 = N2107 84 12 := hk2200 84 12 (Or.inl (by decide))
          have hr2220 : (0 : Int) ≤ N2198 84 13 ∧ N2198 84 13 ≤ (5 : Int) := hIN2198.1 84 13
          have hc2221 : N2198 84 13 = N2107 84 13 := hk2200 84 13 (Or.inl (by decide))
          have hr2222 : (0 : Int) ≤ N2198 84 15 ∧ N2198 84 15 ≤ (5 : Int) := hIN2198.1 84 15
          have hc2223 : N2198 84 15 = N2107 84 15 := hk2200 84 15 (Or.inl (by decide))
          have hc2224 : N2107 84 15 = N2039 84 15 := hk2141 84 15 rfl
          have hc2225 : N2039 84 15 = N2029 84 15 := hk2041 84 15 (Or.inl (by decide))
          have hr2226 : (0 : Int) ≤ N2198 84 18 ∧ N2198 84 18 ≤ (1 : Int) := hIN2198.1 84 18
          have hc2227 : N2198 84 18 = N2107 84 18 := hk2200 84 18 (Or.inl (by decide))
          have hc2228 : N2107 84 18 = N2039 84 18 := hk2141 84 18 rfl
          have hc2229 : N2039 84 18 = N2029 84 18 := hk2041 84 18 (Or.inl (by decide))
          have hc2230 : N2029 84 18 = N2018 84 18 := hk2037 84 18 rfl
          have hc2231 : N2018 84 18 = N2010 84 18 := hk2020 84 18 (Or.inl (by decide))
          have hc2232 : N2010 84 18 = N1487 84 18 := hk2016 84 18 rfl
          have hc2233 : N1487 84 18 = M 84 18 := hk1491 84 18 rfl
          have hr2234 : (0 : Int) ≤ N2198 84 19 ∧ N2198 84 19 ≤ (1 : Int) := hIN2198.1 84 19
          have hc2235 : N2198 84 19 = N2107 84 19 := hk2200 84 19 (Or.inl (by decide))
          have hc2236 : N2107 84 19 = N2039 84 19 := hk2141 84 19 rfl
          have hc2237 : N2039 84 19 = N2029 84 19 := hk2041 84 19 (Or.inl (by decide))
          have hc2238 : N2029 84 19 = N2018 84 19 := hk2037 84 19 rfl
          have hc2239 : N2018 84 19 = N2010 84 19 := hk2020 84 19 (Or.inl (by decide))
          have hc2240 : N2010 84 19 = N1487 84 19 := hk2016 84 19 rfl
          have hc2241 : N1487 84 19 = M 84 19 := hk1491 84 19 rfl
          have hr2242 : (0 : Int) ≤ N2198 84 20 ∧ N2198 84 20 ≤ (11 : Int) := hIN2198.1 84 20
          have hc2243 : N2198 84 20 = N2107 84 20 := hk2200 84 20 (Or.inl (by decide))
          have hc2244 : N2107 84 20 = N2039 84 20 := hk2141 84 20 rfl
          have hc2245 : N2039 84 20 = N2029 84 20 := hk2041 84 20 (Or.inl (by decide))
          have hc2246 : N2029 84 20 = N2018 84 20 := hk2037 84 20 rfl
          have hc2247 : N2018 84 20 = N2010 84 20 := hk2020 84 20 (Or.inl (by decide))
          have hc2248 : N2010 84 20 = N1487 84 20 := hk2016 84 20 rfl
          have hc2249 : N1487 84 20 = M 84 20 := hk1491 84 20 rfl
          have hc2250 : N2198 84 42 = N2107 84 42 := hk2200 84 42 (Or.inl (by decide))
          have hc2251 : N2198 84 48 = N2107 84 48 := hk2200 84 48 (Or.inl (by decide))
          have hGH : GH N2198 := GH_fr hp2108.2.2.2.2.2.2 (stM_s he2199) rfl (fun _ => by omega)
          have hNA : N2198 84 13 = 0 → NA N2198 := fun _ => NA_fr (NA_fr (NA_fr (NA_fr hna hk2037 rfl) (stM_s he2040) rfl) hk2141 rfl) (stM_s he2199) rfl
          have hNM : N2198 84 13 = 0 → N2198 84 20 = N2198 95 (M 84 19) + N2198 100 (M 84 19) := fun h => by rw [stM_k he2199 84 20 (Or.inl (by decide)), hk2141 84 20 rfl, stM_k he2040 84 20 (Or.inl (by decide)), hk2037 84 20 rfl, stM_k he2019 84 20 (Or.inl (by decide)), hk2016 84 20 rfl, hk1491 84 20 rfl, stM_k he2199 95 _ (Or.inl (by decide)), hk2141 95 _ rfl, stM_k he2040 95 _ (Or.inl (by decide)), hk2037 95 _ rfl, stM_k he2019 95 _ (Or.inl (by decide)), hk2016 95 _ rfl, hk1491 95 _ rfl, stM_k he2199 100 _ (Or.inl (by decide)), hk2141 100 _ rfl, stM_k he2040 100 _ (Or.inl (by decide)), hk2037 100 _ rfl, stM_k he2019 100 _ (Or.inl (by decide)), hk2016 100 _ rfl, hk1491 100 _ rfl]; exact p8
          have h103 : N2198 106 (M 84 19) = M 106 (M 84 19) + 1 := by have e := stM_g he2199; rw [show N2107 84 19 = M 84 19 by omega] at e; have e2 := sc4; rw [show N2107 84 19 = M 84 19 by omega] at e2; omega
          have hsm0 : qSm [(84, some 11), (84, some 12), (84, some 13), (84, some 14), (84, some 15), (84, some 16), (84, some 42), (84, some 48), (84, some 52), (106, none), (107, none), (108, none), (111, none), (112, none), (113, none), (114, none), (115, none), (116, none), (117, none), (118, none), (119, none), (120, none)] M N2198 := (by intro b j hbj; rw [hk2200 b j (qSm_ne hbj rfl), hk2141 b j (qSm_sub hbj rfl), hk2041 b j (qSm_ne hbj rfl), hk2037 b j (qSm_sub hbj rfl), hk2020 b j (qSm_ne hbj rfl), hk2016 b j (qSm_sub hbj rfl), hk1491 b j (qSm_sub hbj rfl)])
          have hGG : GG N2198 := GG_want p11 (by omega) (fun _ _ => by omega) (by omega) h103 (fun j hj => by rw [stM_k he2199 107 _ (Or.inl (by decide)), hk2141 107 _ rfl, stM_k he2040 107 _ (Or.inl (by decide)), hk2037 107 _ rfl, stM_k he2019 107 _ (Or.inr (by omega)), hk2016 107 _ rfl, hk1491 107 _ rfl]) (fun j hj => by rw [stM_k he2199 108 _ (Or.inl (by decide)), hk2141 108 _ rfl, stM_k he2040 108 _ (Or.inr (by omega)), hk2037 108 _ rfl, stM_k he2019 108 _ (Or.inl (by decide)), hk2016 108 _ rfl, hk1491 108 _ rfl]) (fun b hb => by
            simp only [List.contains_cons, List.contains_nil, Bool.or_false, Bool.or_eq_true, beq_iff_eq] at hb
            funext j
            exact hsm0 b j (by rcases hb with rfl | rfl | rfl | rfl | rfl | rfl | rfl | rfl | rfl | rfl <;> rfl)) (fun h1 h2 => by
            rw [stM_k he2199 107 _ (Or.inl (by decide)), hk2141 107 _ rfl, stM_k he2040 107 _ (Or.inl (by decide)), hk2037 107 _ rfl, show 12 * M 84 19 + M 106 (M 84 19) = ((12 * (N1487 84 19)) + (N1487 106 (N1487 84 19))) by omega, stM_g he2019, stM_k he2199 108 _ (Or.inl (by decide)), hk2141 108 _ rfl, stM_g he2040]
            omega)
          have hr2252 : (0 : Int) ≤ N2198 95 (M 84 19) ∧ N2198 95 (M 84 19) ≤ (6 : Int) := hIN2198.1 95 (M 84 19)
          have hc2253 : N2198 95 (M 84 19) = N2107 95 (M 84 19) := hk2200 95 (M 84 19) (Or.inl (by decide))
          have hc2254 : N2107 95 (M 84 19) = N2039 95 (M 84 19) := hk2141 95 (M 84 19) rfl
          have hc2255 : N2039 95 (M 84 19) = N2029 95 (M 84 19) := hk2041 95 (M 84 19) (Or.inl (by decide))
          have hc2256 : N2029 95 (M 84 19) = N2018 95 (M 84 19) := hk2037 95 (M 84 19) rfl
          have hc2257 : N2018 95 (M 84 19) = N2010 95 (M 84 19) := hk2020 95 (M 84 19) (Or.inl (by decide))
          have hc2258 : N2010 95 (M 84 19) = N1487 95 (M 84 19) := hk2016 95 (M 84 19) rfl
          have hc2259 : N1487 95 (M 84 19) = M 95 (M 84 19) := hk1491 95 (M 84 19) rfl
          have hr2260 : (0 : Int) ≤ N2198 100 (M 84 19) ∧ N2198 100 (M 84 19) ≤ (5 : Int) := hIN2198.1 100 (M 84 19)
          have hc2261 : N2198 100 (M 84 19) = N2107 100 (M 84 19) := hk2200 100 (M 84 19) (Or.inl (by decide))
          have hc2262 : N2107 100 (M 84 19) = N2039 100 (M 84 19) := hk2141 100 (M 84 19) rfl
          have hc2263 : N2039 100 (M 84 19) = N2029 100 (M 84 19) := hk2041 100 (M 84 19) (Or.inl (by decide))
          have hc2264 : N2029 100 (M 84 19) = N2018 100 (M 84 19) := hk2037 100 (M 84 19) rfl
          have hc2265 : N2018 100 (M 84 19) = N2010 100 (M 84 19) := hk2020 100 (M 84 19) (Or.inl (by decide))
          have hc2266 : N2010 100 (M 84 19) = N1487 100 (M 84 19) := hk2016 100 (M 84 19) rfl
          have hc2267 : N1487 100 (M 84 19) = M 100 (M 84 19) := hk1491 100 (M 84 19) rfl
          have hr2268 : (0 : Int) ≤ N2198 103 (M 84 19) ∧ N2198 103 (M 84 19) ≤ (12 : Int) := hIN2198.1 103 (M 84 19)
          have hc2269 : N2198 103 (M 84 19) = N2107 103 (M 84 19) := hk2200 103 (M 84 19) (Or.inl (by decide))
          have hc2270 : N2107 103 (M 84 19) = N2039 103 (M 84 19) := hk2141 103 (M 84 19) rfl
          have hc2271 : N2039 103 (M 84 19) = N2029 103 (M 84 19) := hk2041 103 (M 84 19) (Or.inl (by decide))
          have hc2272 : N2029 103 (M 84 19) = N2018 103 (M 84 19) := hk2037 103 (M 84 19) rfl
          have hc2273 : N2018 103 (M 84 19) = N2010 103 (M 84 19) := hk2020 103 (M 84 19) (Or.inl (by decide))
          have hc2274 : N2010 103 (M 84 19) = N1487 103 (M 84 19) := hk2016 103 (M 84 19) rfl
          have hc2275 : N1487 103 (M 84 19) = M 103 (M 84 19) := hk1491 103 (M 84 19) rfl
          have hP := PS_fr hP (stM_s he2199) rfl
          have hC : NMc N2198 mn gn := NMc_fr hC (stM_s he2199) rfl (by rw [stM_k he2199 84 13 (Or.inl (by decide))]; exact id) (by rw [stM_k he2199 84 15 (Or.inl (by decide))]; exact id)
          have hTe : TLe N2198 := TLe_of (w := (M 95 (M 84 19), M 100 (M 84 19), M 103 (M 84 19), M 106 (M 84 19) + 1)) ⟨mn, gn, hP, hC⟩ (fun h9 => wC_eq (s := M 84 19) (by omega) (by omega) (by omega) (by omega) h103)
          first | have hTe : TLe N2198 := hTe | have hTe : TLe N2198 := TLe_R (PS_F hP (by omega)) | have hTe : TLe N2198 := TLe_R (TL_def p12.1 hx2144 (SA_fr hk2141 rfl) (by omega) p13)
          have hr2276 : (0 : Int) ≤ N2198 84 11 ∧ N2198 84 11 ≤ (400 : Int) := hIN2198.1 84 11
          have hc2277 : N2198 84 11 = N2107 84 11 := hk2200 84 11 (Or.inl (by decide))
          have hr2278 : (0 : Int) ≤ N2198 84 13 ∧ N2198 84 13 ≤ (5 : Int) := hIN2198.1 84 13
          have hc2279 : N2198 84 13 = N2107 84 13 := hk2200 84 13 (Or.inl (by decide))
          have hr2280 : (0 : Int) ≤ N2198 84 12 ∧ N2198 84 12 ≤ (7 : Int) := hIN2198.1 84 12
          have hc2281 : N2198 84 12 = N2107 84 12 := hk2200 84 12 (Or.inl (by decide))
          have hc2282 : N2198 84 48 = N2107 84 48 := hk2200 84 48 (Or.inl (by decide))
          have hc2283 : N2198 84 42 = N2107 84 42 := hk2200 84 42 (Or.inl (by decide))
          have hr2284 : (0 : Int) ≤ N2198 84 20 ∧ N2198 84 20 ≤ (11 : Int) := hIN2198.1 84 20
          have hc2285 : N2198 84 20 = N2107 84 20 := hk2200 84 20 (Or.inl (by decide))
          have hc2286 : N2107 84 20 = N2039 84 20 := hk2141 84 20 rfl
          have hc2287 : N2039 84 20 = N2029 84 20 := hk2041 84 20 (Or.inl (by decide))
          have hc2288 : N2029 84 20 = N2018 84 20 := hk2037 84 20 rfl
          have hc2289 : N2018 84 20 = N2010 84 20 := hk2020 84 20 (Or.inl (by decide))
          have hc2290 : N2010 84 20 = N1487 84 20 := hk2016 84 20 rfl
          have hc2291 : N1487 84 20 = M 84 20 := hk1491 84 20 rfl
          have hsm : qSm [(84, some 11), (84, some 12), (84, some 13), (84, some 14), (84, some 15), (84, some 16), (84, some 20), (84, some 42), (84, some 48), (84, some 52), (92, none), (93, none), (94, none), (95, none), (96, none), (97, none), (98, none), (99, none), (100, none), (101, none), (102, none), (103, none), (104, none), (105, none), (106, none), (107, none), (108, none), (109, none), (110, none), (111, none), (112, none), (113, none), (114, none), (115, none), (116, none), (117, none), (118, none), (119, none), (120, none)] M N2198 := by
            intro b j hbj
            rw [hk2200 b j (qSm_ne hbj rfl), hk2141 b j (qSm_sub hbj rfl), hk2041 b j (qSm_ne hbj rfl), hk2037 b j (qSm_sub hbj rfl), hk2020 b j (qSm_ne hbj rfl), hk2016 b j (qSm_sub hbj rfl), hk1491 b j (qSm_sub hbj rfl)]
          exact ⟨rfl, rfl, hIN2198, hsm, by exact hTe, by omega, by omega, by omega, by first | exact hNM | exact fun h1 => absurd h1 (by omega), by first | exact hGH | exact fun h1 => absurd h1 (by omega), by first | exact hNA | exact fun h1 => absurd h1 (by omega), by first | exact hGG | exact fun h1 _ => absurd h1 (by omega)⟩
      · have hr2292 : (0 : Int) ≤ N2039 84 19 ∧ N2039 84 19 ≤ (1 : Int) := hIN2039.1 84 19
        have hc2293 : N2039 84 19 = N2029 84 19 := hk2041 84 19 (Or.inl (by decide))
        have hc2294 : N2029 84 19 = N2018 84 19 := hk2037 84 19 rfl
        have hc2295 : N2018 84 19 = N2010 84 19 := hk2020 84 19 (Or.inl (by decide))
        have hc2296 : N2010 84 19 = N1487 84 19 := hk2016 84 19 rfl
        have hc2297 : N1487 84 19 = M 84 19 := hk1491 84 19 rfl
        refine ⟨by omega, ?_⟩
        have hr2298 : (0 : Int) ≤ N2039 106 (N2039 84 19) ∧ N2039 106 (N2039 84 19) ≤ (12 : Int) := hIN2039.1 106 (N2039 84 19)
        have hc2299 : N2039 106 (N2039 84 19) = N2029 106 (N2039 84 19) := hk2041 106 (N2039 84 19) (Or.inl (by decide))
        have hc2300 : N2029 106 (N2039 84 19) = N2018 106 (N2039 84 19) := hk2037 106 (N2039 84 19) rfl
        have hc2301 : N2018 106 (N2039 84 19) = N2010 106 (N2039 84 19) := hk2020 106 (N2039 84 19) (Or.inl (by decide))
        have hc2302 : N2010 106 (N2039 84 19) = N1487 106 (N2039 84 19) := hk2016 106 (N2039 84 19) rfl
        have hc2303 : N1487 106 (N2039 84 19) = M 106 (N2039 84 19) := hk1491 106 (N2039 84 19) rfl
        refine ⟨by omega, ?_⟩
        refine ⟨trivial, ?_⟩
        have hr2307 : (0 : Int) ≤ N2039 84 19 ∧ N2039 84 19 ≤ (1 : Int) := hIN2039.1 84 19
        have hc2308 : N2039 84 19 = N2029 84 19 := hk2041 84 19 (Or.inl (by decide))
        have hc2309 : N2029 84 19 = N2018 84 19 := hk2037 84 19 rfl
        have hc2310 : N2018 84 19 = N2010 84 19 := hk2020 84 19 (Or.inl (by decide))
        have hc2311 : N2010 84 19 = N1487 84 19 := hk2016 84 19 rfl
        have hc2312 : N1487 84 19 = M 84 19 := hk1491 84 19 rfl
        have hr2313 : (0 : Int) ≤ N2039 84 18 ∧ N2039 84 18 ≤ (1 : Int) := hIN2039.1 84 18
        have hc2314 : N2039 84 18 = N2029 84 18 := hk2041 84 18 (Or.inl (by decide))
        have hc2315 : N2029 84 18 = N2018 84 18 := hk2037 84 18 rfl
        have hc2316 : N2018 84 18 = N2010 84 18 := hk2020 84 18 (Or.inl (by decide))
        have hc2317 : N2010 84 18 = N1487 84 18 := hk2016 84 18 rfl
        have hc2318 : N1487 84 18 = M 84 18 := hk1491 84 18 rfl
        have hc2319 : N2039 84 48 = N2029 84 48 := hk2041 84 48 (Or.inl (by decide))
        have hc2320 : N2029 84 48 = N2018 84 48 := hk2037 84 48 rfl
        have hc2321 : N2018 84 48 = N2010 84 48 := hk2020 84 48 (Or.inl (by decide))
        have hc2322 : N2010 84 48 = N1487 84 48 := hk2016 84 48 rfl
        have hc2323 : N1487 84 48 = M 84 48 := hk1491 84 48 rfl
        have hr2324 : (0 : Int) ≤ N2039 84 11 ∧ N2039 84 11 ≤ (400 : Int) := hIN2039.1 84 11
        have hc2325 : N2039 84 11 = N2029 84 11 := hk2041 84 11 (Or.inl (by decide))
        have hr2326 : (0 : Int) ≤ N2039 84 13 ∧ N2039 84 13 ≤ (5 : Int) := hIN2039.1 84 13
        have hc2327 : N2039 84 13 = N2029 84 13 := hk2041 84 13 (Or.inl (by decide))
        have hr2328 : (0 : Int) ≤ N2039 84 12 ∧ N2039 84 12 ≤ (7 : Int) := hIN2039.1 84 12
        have hc2329 : N2039 84 12 = N2029 84 12 := hk2041 84 12 (Or.inl (by decide))
        have hc2330 : N2029 84 12 = N2018 84 12 := hk2037 84 12 rfl
        have hc2331 : N2018 84 12 = N2010 84 12 := hk2020 84 12 (Or.inl (by decide))
        have hc2332 : N2010 84 12 = N1487 84 12 := hk2016 84 12 rfl
        have hc2333 : N1487 84 12 = M 84 12 := hk1491 84 12 rfl
        have hc2334 : N2039 84 42 = N2029 84 42 := hk2041 84 42 (Or.inl (by decide))
        have hc2335 : N2029 84 42 = N2018 84 42 := hk2037 84 42 rfl
        have hc2336 : N2018 84 42 = N2010 84 42 := hk2020 84 42 (Or.inl (by decide))
        have hc2337 : N2010 84 42 = N1487 84 42 := hk2016 84 42 rfl
        have hc2338 : N1487 84 42 = M 84 42 := hk1491 84 42 rfl
        refine CV_mono (f_X12_tellLaw T (hIN2039) (show N2039 84 19 = 1 - N2039 84 18 by omega) (by assumption) (show ((28 + (N2039 106 (N2039 84 19))) : Int) < 40 by omega) (show 420 * N2039 84 19 ≤ N2039 84 48 by omega) (show N2039 84 48 - 420 * N2039 84 19 ≤ N2039 84 11 + 2 by omega) (show N2039 84 13 = 0 → N2039 84 12 = 0 ∧ N2039 84 48 - 420 * N2039 84 19 ≤ N2039 84 11 ∧ 4 * (N2039 84 42 - 130 * N2039 84 19) + 2 ≤ N2039 84 11 by omega) (show 130 * N2039 84 19 ≤ N2039 84 42 by omega) (show N2039 84 42 ≤ 130 * N2039 84 19 + 100 by omega) (by assumption)) (fun N2305 hp2306 => ?_)
        obtain ⟨hIN2305, hk2339, hj2340, hj2341, hx2342, hp2306⟩ := hp2306
        have hr2343 : (0 : Int) ≤ N2305 84 11 ∧ N2305 84 11 ≤ (400 : Int) := hIN2305.1 84 11
        have hr2344 : (0 : Int) ≤ N2305 84 12 ∧ N2305 84 12 ≤ (7 : Int) := hIN2305.1 84 12
        have hr2345 : (0 : Int) ≤ N2305 84 13 ∧ N2305 84 13 ≤ (5 : Int) := hIN2305.1 84 13
        have hr2346 : (0 : Int) ≤ N2305 84 15 ∧ N2305 84 15 ≤ (5 : Int) := hIN2305.1 84 15
        have hc2347 : N2305 84 15 = N2039 84 15 := hk2339 84 15 rfl
        have hc2348 : N2039 84 15 = N2029 84 15 := hk2041 84 15 (Or.inl (by decide))
        have hr2349 : (0 : Int) ≤ N2305 84 18 ∧ N2305 84 18 ≤ (1 : Int) := hIN2305.1 84 18
        have hc2350 : N2305 84 18 = N2039 84 18 := hk2339 84 18 rfl
        have hc2351 : N2039 84 18 = N2029 84 18 := hk2041 84 18 (Or.inl (by decide))
        have hc2352 : N2029 84 18 = N2018 84 18 := hk2037 84 18 rfl
        have hc2353 : N2018 84 18 = N2010 84 18 := hk2020 84 18 (Or.inl (by decide))
        have hc2354 : N2010 84 18 = N1487 84 18 := hk2016 84 18 rfl
        have hc2355 : N1487 84 18 = M 84 18 := hk1491 84 18 rfl
        have hr2356 : (0 : Int) ≤ N2305 84 19 ∧ N2305 84 19 ≤ (1 : Int) := hIN2305.1 84 19
        have hc2357 : N2305 84 19 = N2039 84 19 := hk2339 84 19 rfl
        have hc2358 : N2039 84 19 = N2029 84 19 := hk2041 84 19 (Or.inl (by decide))
        have hc2359 : N2029 84 19 = N2018 84 19 := hk2037 84 19 rfl
        have hc2360 : N2018 84 19 = N2010 84 19 := hk2020 84 19 (Or.inl (by decide))
        have hc2361 : N2010 84 19 = N1487 84 19 := hk2016 84 19 rfl
        have hc2362 : N1487 84 19 = M 84 19 := hk1491 84 19 rfl
        have hr2363 : (0 : Int) ≤ N2305 84 20 ∧ N2305 84 20 ≤ (11 : Int) := hIN2305.1 84 20
        have hc2364 : N2305 84 20 = N2039 84 20 := hk2339 84 20 rfl
        have hc2365 : N2039 84 20 = N2029 84 20 := hk2041 84 20 (Or.inl (by decide))
        have hc2366 : N2029 84 20 = N2018 84 20 := hk2037 84 20 rfl
        have hc2367 : N2018 84 20 = N2010 84 20 := hk2020 84 20 (Or.inl (by decide))
        have hc2368 : N2010 84 20 = N1487 84 20 := hk2016 84 20 rfl
        have hc2369 : N1487 84 20 = M 84 20 := hk1491 84 20 rfl
        have sc4 : N2305 106 (N2305 84 19) = M 106 (M 84 19) := by rw [show N2305 84 19 = M 84 19 by omega]; exact (hk2339 106 _ rfl).trans ((stM_k he2040 106 _ (Or.inl (by decide))).trans ((hk2037 106 _ rfl).trans ((stM_k he2019 106 _ (Or.inl (by decide))).trans ((hk2016 106 _ rfl).trans (hk1491 106 _ rfl)))))
        have hP : PS N2305 (0, 0, 0, 0, 0, (M 95 (M 84 19), M 100 (M 84 19), M 103 (M 84 19), M 106 (M 84 19) + 1)) (0, 0, 0, mn, gn) := hx2342
        have hC : NMc N2305 mn gn := NMc_fr hC hk2339 rfl (by omega) (by rw [hk2339 84 15 rfl]; exact id)
        have hr2370 : (0 : Int) ≤ N2305 84 13 ∧ N2305 84 13 ≤ (5 : Int) := hIN2305.1 84 13
        refine ⟨fun hb2371 => ?_, fun hb2371 => ?_⟩
        · first | have hTe : TLe N2305 := hTe | have hTe : TLe N2305 := TLe_R (PS_F hP (by omega)) | have hTe : TLe N2305 := TLe_R (TL_def p12.1 hx2342 (SA_fr hk2339 rfl) (by omega) p13)
          have hr2372 : (0 : Int) ≤ N2305 84 11 ∧ N2305 84 11 ≤ (400 : Int) := hIN2305.1 84 11
          have hr2373 : (0 : Int) ≤ N2305 84 13 ∧ N2305 84 13 ≤ (5 : Int) := hIN2305.1 84 13
          have hr2374 : (0 : Int) ≤ N2305 84 12 ∧ N2305 84 12 ≤ (7 : Int) := hIN2305.1 84 12
          have hr2375 : (0 : Int) ≤ N2305 84 20 ∧ N2305 84 20 ≤ (11 : Int) := hIN2305.1 84 20
          have hc2376 : N2305 84 20 = N2039 84 20 := hk2339 84 20 rfl
          have hc2377 : N2039 84 20 = N2029 84 20 := hk2041 84 20 (Or.inl (by decide))
          have hc2378 : N2029 84 20 = N2018 84 20 := hk2037 84 20 rfl
          have hc2379 : N2018 84 20 = N2010 84 20 := hk2020 84 20 (Or.inl (by decide))
          have hc2380 : N2010 84 20 = N1487 84 20 := hk2016 84 20 rfl
          have hc2381 : N1487 84 20 = M 84 20 := hk1491 84 20 rfl
          have hsm : qSm [(84, some 11), (84, some 12), (84, some 13), (84, some 14), (84, some 15), (84, some 16), (84, some 20), (84, some 42), (84, some 48), (84, some 52), (92, none), (93, none), (94, none), (95, none), (96, none), (97, none), (98, none), (99, none), (100, none), (101, none), (102, none), (103, none), (104, none), (105, none), (106, none), (107, none), (108, none), (109, none), (110, none), (111, none), (112, none), (113, none), (114, none), (115, none), (116, none), (117, none), (118, none), (119, none), (120, none)] M N2305 := by
            intro b j hbj
            rw [hk2339 b j (qSm_sub hbj rfl), hk2041 b j (qSm_ne hbj rfl), hk2037 b j (qSm_sub hbj rfl), hk2020 b j (qSm_ne hbj rfl), hk2016 b j (qSm_sub hbj rfl), hk1491 b j (qSm_sub hbj rfl)]
          exact ⟨rfl, rfl, hIN2305, hsm, by exact hTe, by omega, by omega, by omega, by first | exact hNM | exact fun h1 => absurd h1 (by omega), by first | exact hGH | exact fun h1 => absurd h1 (by omega), by first | exact hNA | exact fun h1 => absurd h1 (by omega), by first | exact hGG | exact fun h1 _ => absurd h1 (by omega)⟩
        · have hr2382 : (0 : Int) ≤ N2305 84 19 ∧ N2305 84 19 ≤ (1 : Int) := hIN2305.1 84 19
          have hc2383 : N2305 84 19 = N2039 84 19 := hk2339 84 19 rfl
          have hc2384 : N2039 84 19 = N2029 84 19 := hk2041 84 19 (Or.inl (by decide))
          have hc2385 : N2029 84 19 = N2018 84 19 := hk2037 84 19 rfl
          have hc2386 : N2018 84 19 = N2010 84 19 := hk2020 84 19 (Or.inl (by decide))
          have hc2387 : N2010 84 19 = N1487 84 19 := hk2016 84 19 rfl
          have hc2388 : N1487 84 19 = M 84 19 := hk1491 84 19 rfl
          refine ⟨by omega, ?_⟩
          have hr2389 : (0 : Int) ≤ N2305 106 (N2305 84 19) ∧ N2305 106 (N2305 84 19) ≤ (12 : Int) := hIN2305.1 106 (N2305 84 19)
          have hc2390 : N2305 106 (N2305 84 19) = N2039 106 (N2305 84 19) := hk2339 106 (N2305 84 19) rfl
          have hc2391 : N2039 106 (N2305 84 19) = N2029 106 (N2305 84 19) := hk2041 106 (N2305 84 19) (Or.inl (by decide))
          have hc2392 : N2029 106 (N2305 84 19) = N2018 106 (N2305 84 19) := hk2037 106 (N2305 84 19) rfl
          have hc2393 : N2018 106 (N2305 84 19) = N2010 106 (N2305 84 19) := hk2020 106 (N2305 84 19) (Or.inl (by decide))
          have hc2394 : N2010 106 (N2305 84 19) = N1487 106 (N2305 84 19) := hk2016 106 (N2305 84 19) rfl
          have hc2395 : N1487 106 (N2305 84 19) = M 106 (N2305 84 19) := hk1491 106 (N2305 84 19) rfl
          refine ⟨by omega, ?_⟩
          refine ⟨by omega, ?_⟩
          obtain ⟨N2396, he2397⟩ : ∃ X : qM, X = stM N2305 106 (N2305 84 19) ((N2305 106 (N2305 84 19)) + 1) := ⟨_, rfl⟩
          rw [← he2397]
          have hk2398 := stM_k he2397
          have hg2399 := stM_g he2397
          have hr2400 : (0 : Int) ≤ N2305 84 18 ∧ N2305 84 18 ≤ (1 : Int) := hIN2305.1 84 18
          have hc2401 : N2305 84 18 = N2039 84 18 := hk2339 84 18 rfl
          have hc2402 : N2039 84 18 = N2029 84 18 := hk2041 84 18 (Or.inl (by decide))
          have hc2403 : N2029 84 18 = N2018 84 18 := hk2037 84 18 rfl
          have hc2404 : N2018 84 18 = N2010 84 18 := hk2020 84 18 (Or.inl (by decide))
          have hc2405 : N2010 84 18 = N1487 84 18 := hk2016 84 18 rfl
          have hc2406 : N1487 84 18 = M 84 18 := hk1491 84 18 rfl
          have hr2407 : (0 : Int) ≤ N2305 84 19 ∧ N2305 84 19 ≤ (1 : Int) := hIN2305.1 84 19
          have hc2408 : N2305 84 19 = N2039 84 19 := hk2339 84 19 rfl
          have hc2409 : N2039 84 19 = N2029 84 19 := hk2041 84 19 (Or.inl (by decide))
          have hc2410 : N2029 84 19 = N2018 84 19 := hk2037 84 19 rfl
          have hc2411 : N2018 84 19 = N2010 84 19 := hk2020 84 19 (Or.inl (by decide))
          have hc2412 : N2010 84 19 = N1487 84 19 := hk2016 84 19 rfl
          have hc2413 : N1487 84 19 = M 84 19 := hk1491 84 19 rfl
          have hIN2396 : INV S N2396 := INV_side (w := 1) hIN2305 he2397 (show (0 : Int) ≤ _ ∧ _ ≤ (12 : Int) from ⟨by omega, by omega⟩) (by decide) (by omega)
          have hr2414 : (0 : Int) ≤ N2396 84 11 ∧ N2396 84 11 ≤ (400 : Int) := hIN2396.1 84 11
          have hc2415 : N2396 84 11 = N2305 84 11 := hk2398 84 11 (Or.inl (by decide))
          have hr2416 : (0 : Int) ≤ N2396 84 12 ∧ N2396 84 12 ≤ (7 : Int) := hIN2396.1 84 12
          have hc2417 : N2396 84 12 = N2305 84 12 := hk2398 84 12 (Or.inl (by decide))
          have hr2418 : (0 : Int) ≤ N2396 84 13 ∧ N2396 84 13 ≤ (5 : Int) := hIN2396.1 84 13
          have hc2419 : N2396 84 13 = N2305 84 13 := hk2398 84 13 (Or.inl (by decide))
          have hr2420 : (0 : Int) ≤ N2396 84 15 ∧ N2396 84 15 ≤ (5 : Int) := hIN2396.1 84 15
          have hc2421 : N2396 84 15 = N2305 84 15 := hk2398 84 15 (Or.inl (by decide))
          have hc2422 : N2305 84 15 = N2039 84 15 := hk2339 84 15 rfl
          have hc2423 : N2039 84 15 = N2029 84 15 := hk2041 84 15 (Or.inl (by decide))
          have hr2424 : (0 : Int) ≤ N2396 84 18 ∧ N2396 84 18 ≤ (1 : Int) := hIN2396.1 84 18
          have hc2425 : N2396 84 18 = N2305 84 18 := hk2398 84 18 (Or.inl (by decide))
          have hc2426 : N2305 84 18 = N2039 84 18 := hk2339 84 18 rfl
          have hc2427 : N2039 84 18 = N2029 84 18 := hk2041 84 18 (Or.inl (by decide))
          have hc2428 : N2029 84 18 = N2018 84 18 := hk2037 84 18 rfl
          have hc2429 : N2018 84 18 = N2010 84 18 := hk2020 84 18 (Or.inl (by decide))
          have hc2430 : N2010 84 18 = N1487 84 18 := hk2016 84 18 rfl
          have hc2431 : N1487 84 18 = M 84 18 := hk1491 84 18 rfl
          have hr2432 : (0 : Int) ≤ N2396 84 19 ∧ N2396 84 19 ≤ (1 : Int) := hIN2396.1 84 19
          have hc2433 : N2396 84 19 = N2305 84 19 := hk2398 84 19 (Or.inl (by decide))
          have hc2434 : N2305 84 19 = N2039 84 19 := hk2339 84 19 rfl
          have hc2435 : N2039 84 19 = N2029 84 19 := hk2041 84 19 (Or.inl (by decide))
          have hc2436 : N2029 84 19 = N2018 84 19 := hk2037 84 19 rfl
          have hc2437 : N2018 84 19 = N2010 84 19 := hk2020 84 19 (Or.inl (by decide))
          have hc2438 : N2010 84 19 = N1487 84 19 := hk2016 84 19 rfl
          have hc2439 : N1487 84 19 = M 84 19 := hk1491 84 19 rfl
          have hr2440 : (0 : Int) ≤ N2396 84 20 ∧ N2396 84 20 ≤ (11 : Int) := hIN2396.1 84 20
          have hc2441 : N2396 84 20 = N2305 84 20 := hk2398 84 20 (Or.inl (by decide))
          have hc2442 : N2305 84 20 = N2039 84 20 := hk2339 84 20 rfl
          have hc2443 : N2039 84 20 = N2029 84 20 := hk2041 84 20 (Or.inl (by decide))
          have hc2444 : N2029 84 20 = N2018 84 20 := hk2037 84 20 rfl
          have hc2445 : N2018 84 20 = N2010 84 20 := hk2020 84 20 (Or.inl (by decide))
          have hc2446 : N2010 84 20 = N1487 84 20 := hk2016 84 20 rfl
          have hc2447 : N1487 84 20 = M 84 20 := hk1491 84 20 rfl
          have hc2448 : N2396 84 42 = N2305 84 42 := hk2398 84 42 (Or.inl (by decide))
          have hc2449 : N2396 84 48 = N2305 84 48 := hk2398 84 48 (Or.inl (by decide))
          have hGH : GH N2396 := GH_fr hp2306.2.2.2.2.2.2 (stM_s he2397) rfl (fun _ => by omega)
          have hNA : N2396 84 13 = 0 → NA N2396 := fun _ => NA_fr (NA_fr (NA_fr (NA_fr hna hk2037 rfl) (stM_s he2040) rfl) hk2339 rfl) (stM_s he2397) rfl
          have hNM : N2396 84 13 = 0 → N2396 84 20 = N2396 95 (M 84 19) + N2396 100 (M 84 19) := fun h => by rw [stM_k he2397 84 20 (Or.inl (by decide)), hk2339 84 20 rfl, stM_k he2040 84 20 (Or.inl (by decide)), hk2037 84 20 rfl, stM_k he2019 84 20 (Or.inl (by decide)), hk2016 84 20 rfl, hk1491 84 20 rfl, stM_k he2397 95 _ (Or.inl (by decide)), hk2339 95 _ rfl, stM_k he2040 95 _ (Or.inl (by decide)), hk2037 95 _ rfl, stM_k he2019 95 _ (Or.inl (by decide)), hk2016 95 _ rfl, hk1491 95 _ rfl, stM_k he2397 100 _ (Or.inl (by decide)), hk2339 100 _ rfl, stM_k he2040 100 _ (Or.inl (by decide)), hk2037 100 _ rfl, stM_k he2019 100 _ (Or.inl (by decide)), hk2016 100 _ rfl, hk1491 100 _ rfl]; exact p8
          have h103 : N2396 106 (M 84 19) = M 106 (M 84 19) + 1 := by have e := stM_g he2397; rw [show N2305 84 19 = M 84 19 by omega] at e; have e2 := sc4; rw [show N2305 84 19 = M 84 19 by omega] at e2; omega
          have hsm0 : qSm [(84, some 11), (84, some 12), (84, some 13), (84, some 14), (84, some 15), (84, some 16), (84, some 42), (84, some 48), (84, some 52), (106, none), (107, none), (108, none), (111, none), (112, none), (113, none), (114, none), (115, none), (116, none), (117, none), (118, none), (119, none), (120, none)] M N2396 := (by intro b j hbj; rw [hk2398 b j (qSm_ne hbj rfl), hk2339 b j (qSm_sub hbj rfl), hk2041 b j (qSm_ne hbj rfl), hk2037 b j (qSm_sub hbj rfl), hk2020 b j (qSm_ne hbj rfl), hk2016 b j (qSm_sub hbj rfl), hk1491 b j (qSm_sub hbj rfl)])
          have hGG : GG N2396 := GG_want p11 (by omega) (fun _ _ => by omega) (by omega) h103 (fun j hj => by rw [stM_k he2397 107 _ (Or.inl (by decide)), hk2339 107 _ rfl, stM_k he2040 107 _ (Or.inl (by decide)), hk2037 107 _ rfl, stM_k he2019 107 _ (Or.inr (by omega)), hk2016 107 _ rfl, hk1491 107 _ rfl]) (fun j hj => by rw [stM_k he2397 108 _ (Or.inl (by decide)), hk2339 108 _ rfl, stM_k he2040 108 _ (Or.inr (by omega)), hk2037 108 _ rfl, stM_k he2019 108 _ (Or.inl (by decide)), hk2016 108 _ rfl, hk1491 108 _ rfl]) (fun b hb => by
            simp only [List.contains_cons, List.contains_nil, Bool.or_false, Bool.or_eq_true, beq_iff_eq] at hb
            funext j
            exact hsm0 b j (by rcases hb with rfl | rfl | rfl | rfl | rfl | rfl | rfl | rfl | rfl | rfl <;> rfl)) (fun h1 h2 => by
            rw [stM_k he2397 107 _ (Or.inl (by decide)), hk2339 107 _ rfl, stM_k he2040 107 _ (Or.inl (by decide)), hk2037 107 _ rfl, show 12 * M 84 19 + M 106 (M 84 19) = ((12 * (N1487 84 19)) + (N1487 106 (N1487 84 19))) by omega, stM_g he2019, stM_k he2397 108 _ (Or.inl (by decide)), hk2339 108 _ rfl, stM_g he2040]
            omega)
          have hr2450 : (0 : Int) ≤ N2396 95 (M 84 19) ∧ N2396 95 (M 84 19) ≤ (6 : Int) := hIN2396.1 95 (M 84 19)
          have hc2451 : N2396 95 (M 84 19) = N2305 95 (M 84 19) := hk2398 95 (M 84 19) (Or.inl (by decide))
          have hc2452 : N2305 95 (M 84 19) = N2039 95 (M 84 19) := hk2339 95 (M 84 19) rfl
          have hc2453 : N2039 95 (M 84 19) = N2029 95 (M 84 19) := hk2041 95 (M 84 19) (Or.inl (by decide))
          have hc2454 : N2029 95 (M 84 19) = N2018 95 (M 84 19) := hk2037 95 (M 84 19) rfl
          have hc2455 : N2018 95 (M 84 19) = N2010 95 (M 84 19) := hk2020 95 (M 84 19) (Or.inl (by decide))
          have hc2456 : N2010 95 (M 84 19) = N1487 95 (M 84 19) := hk2016 95 (M 84 19) rfl
          have hc2457 : N1487 95 (M 84 19) = M 95 (M 84 19) := hk1491 95 (M 84 19) rfl
          have hr2458 : (0 : Int) ≤ N2396 100 (M 84 19) ∧ N2396 100 (M 84 19) ≤ (5 : Int) := hIN2396.1 100 (M 84 19)
          have hc2459 : N2396 100 (M 84 19) = N2305 100 (M 84 19) := hk2398 100 (M 84 19) (Or.inl (by decide))
          have hc2460 : N2305 100 (M 84 19) = N2039 100 (M 84 19) := hk2339 100 (M 84 19) rfl
          have hc2461 : N2039 100 (M 84 19) = N2029 100 (M 84 19) := hk2041 100 (M 84 19) (Or.inl (by decide))
          have hc2462 : N2029 100 (M 84 19) = N2018 100 (M 84 19) := hk2037 100 (M 84 19) rfl
          have hc2463 : N2018 100 (M 84 19) = N2010 100 (M 84 19) := hk2020 100 (M 84 19) (Or.inl (by decide))
          have hc2464 : N2010 100 (M 84 19) = N1487 100 (M 84 19) := hk2016 100 (M 84 19) rfl
          have hc2465 : N1487 100 (M 84 19) = M 100 (M 84 19) := hk1491 100 (M 84 19) rfl
          have hr2466 : (0 : Int) ≤ N2396 103 (M 84 19) ∧ N2396 103 (M 84 19) ≤ (12 : Int) := hIN2396.1 103 (M 84 19)
          have hc2467 : N2396 103 (M 84 19) = N2305 103 (M 84 19) := hk2398 103 (M 84 19) (Or.inl (by decide))
          have hc2468 : N2305 103 (M 84 19) = N2039 103 (M 84 19) := hk2339 103 (M 84 19) rfl
          have hc2469 : N2039 103 (M 84 19) = N2029 103 (M 84 19) := hk2041 103 (M 84 19) (Or.inl (by decide))
          have hc2470 : N2029 103 (M 84 19) = N2018 103 (M 84 19) := hk2037 103 (M 84 19) rfl
          have hc2471 : N2018 103 (M 84 19) = N2010 103 (M 84 19) := hk2020 103 (M 84 19) (Or.inl (by decide))
          have hc2472 : N2010 103 (M 84 19) = N1487 103 (M 84 19) := hk2016 103 (M 84 19) rfl
          have hc2473 : N1487 103 (M 84 19) = M 103 (M 84 19) := hk1491 103 (M 84 19) rfl
          have hP := PS_fr hP (stM_s he2397) rfl
          have hC : NMc N2396 mn gn := NMc_fr hC (stM_s he2397) rfl (by rw [stM_k he2397 84 13 (Or.inl (by decide))]; exact id) (by rw [stM_k he2397 84 15 (Or.inl (by decide))]; exact id)
          have hTe : TLe N2396 := TLe_of (w := (M 95 (M 84 19), M 100 (M 84 19), M 103 (M 84 19), M 106 (M 84 19) + 1)) ⟨mn, gn, hP, hC⟩ (fun h9 => wC_eq (s := M 84 19) (by omega) (by omega) (by omega) (by omega) h103)
          first | have hTe : TLe N2396 := hTe | have hTe : TLe N2396 := TLe_R (PS_F hP (by omega)) | have hTe : TLe N2396 := TLe_R (TL_def p12.1 hx2342 (SA_fr hk2339 rfl) (by omega) p13)
          have hr2474 : (0 : Int) ≤ N2396 84 11 ∧ N2396 84 11 ≤ (400 : Int) := hIN2396.1 84 11
          have hc2475 : N2396 84 11 = N2305 84 11 := hk2398 84 11 (Or.inl (by decide))
          have hr2476 : (0 : Int) ≤ N2396 84 13 ∧ N2396 84 13 ≤ (5 : Int) := hIN2396.1 84 13
          have hc2477 : N2396 84 13 = N2305 84 13 := hk2398 84 13 (Or.inl (by decide))
          have hr2478 : (0 : Int) ≤ N2396 84 12 ∧ N2396 84 12 ≤ (7 : Int) := hIN2396.1 84 12
          have hc2479 : N2396 84 12 = N2305 84 12 := hk2398 84 12 (Or.inl (by decide))
          have hc2480 : N2396 84 48 = N2305 84 48 := hk2398 84 48 (Or.inl (by decide))
          have hc2481 : N2396 84 42 = N2305 84 42 := hk2398 84 42 (Or.inl (by decide))
          have hr2482 : (0 : Int) ≤ N2396 84 20 ∧ N2396 84 20 ≤ (11 : Int) := hIN2396.1 84 20
          have hc2483 : N2396 84 20 = N2305 84 20 := hk2398 84 20 (Or.inl (by decide))
          have hc2484 : N2305 84 20 = N2039 84 20 := hk2339 84 20 rfl
          have hc2485 : N2039 84 20 = N2029 84 20 := hk2041 84 20 (Or.inl (by decide))
          have hc2486 : N2029 84 20 = N2018 84 20 := hk2037 84 20 rfl
          have hc2487 : N2018 84 20 = N2010 84 20 := hk2020 84 20 (Or.inl (by decide))
          have hc2488 : N2010 84 20 = N1487 84 20 := hk2016 84 20 rfl
          have hc2489 : N1487 84 20 = M 84 20 := hk1491 84 20 rfl
          have hsm : qSm [(84, some 11), (84, some 12), (84, some 13), (84, some 14), (84, some 15), (84, some 16), (84, some 20), (84, some 42), (84, some 48), (84, some 52), (92, none), (93, none), (94, none), (95, none), (96, none), (97, none), (98, none), (99, none), (100, none), (101, none), (102, none), (103, none), (104, none), (105, none), (106, none), (107, none), (108, none), (109, none), (110, none), (111, none), (112, none), (113, none), (114, none), (115, none), (116, none), (117, none), (118, none), (119, none), (120, none)] M N2396 := by
            intro b j hbj
            rw [hk2398 b j (qSm_ne hbj rfl), hk2339 b j (qSm_sub hbj rfl), hk2041 b j (qSm_ne hbj rfl), hk2037 b j (qSm_sub hbj rfl), hk2020 b j (qSm_ne hbj rfl), hk2016 b j (qSm_sub hbj rfl), hk1491 b j (qSm_sub hbj rfl)]
          exact ⟨rfl, rfl, hIN2396, hsm, by exact hTe, by omega, by omega, by omega, by first | exact hNM | exact fun h1 => absurd h1 (by omega), by first | exact hGH | exact fun h1 => absurd h1 (by omega), by first | exact hNA | exact fun h1 => absurd h1 (by omega), by first | exact hGG | exact fun h1 _ => absurd h1 (by omega)⟩
  · exfalso; omega
  · exfalso; omega
  · exfalso; omega
theorem f_X12_tell (T : qTabOk) {M : qM} {S : Int} {mn gn : List Int} (hIM : INV S M) (p1 : M 84 19 = 1 - M 84 18) (p2 : M 84 13 = 0) (p3 : M 84 12 = 0) (p4 : 420 * M 84 19 ≤ M 84 48) (p5 : M 84 48 - 420 * M 84 19 ≤ M 84 11) (p6 : 130 * M 84 19 ≤ M 84 42) (p7 : 4 * (M 84 42 - 130 * M 84 19) ≤ M 84 11) (p8 : M 84 20 = M 95 (M 84 19) + M 100 (M 84 19)) (p9 : GH M) (p10 : NA M) (p11 : GG M) (p12 : TLp M mn gn) (p13 : M 87 (M 84 11) ≠ 0) : CV fzR 150 [qR 84] SH M (fun M' => (INV S M') ∧ (qSm [(84, some 11), (84, some 12), (84, some 13), (84, some 14), (84, some 15), (84, some 16), (84, some 20), (84, some 42), (84, some 48), (84, some 52), (92, none), (93, none), (94, none), (95, none), (96, none), (97, none), (98, none), (99, none), (100, none), (101, none), (102, none), (103, none), (104, none), (105, none), (106, none), (107, none), (108, none), (109, none), (110, none), (111, none), (112, none), (113, none), (114, none), (115, none), (116, none), (117, none), (118, none), (119, none), (120, none)] M M') ∧ (TLe M') ∧ (M 84 11 ≤ M' 84 11) ∧ (0 < M' 84 13 ∨ M 84 11 + 1 ≤ M' 84 11) ∧ (M' 84 13 = 0 → M' 84 12 = 0 ∧ 420 * M 84 19 ≤ M' 84 48 ∧ M' 84 48 - 420 * M 84 19 ≤ M' 84 11 ∧ 130 * M 84 19 ≤ M' 84 42 ∧ 4 * (M' 84 42 - 130 * M 84 19) ≤ M' 84 11) ∧ (M' 84 13 = 0 → M' 84 20 = M' 95 (M 84 19) + M' 100 (M 84 19)) ∧ (GH M') ∧ (M' 84 13 = 0 → NA M') ∧ (GG M')) := by
  by_cases h1 : M 87 (M 84 11) = 24
  · exact f_X12_tell_B T hIM p1 p2 p3 p4 p5 p6 p7 p8 p9 p10 p11 p12 p13 h1
  · by_cases h2 : M 87 (M 84 11) = 25
    · exact f_X12_tell_C T hIM p1 p2 p3 p4 p5 p6 p7 p8 p9 p10 p11 p12 p13 h2
    · exact f_X12_tell_A T hIM p1 p2 p3 p4 p5 p6 p7 p8 p9 p10 p11 p12 p13 ⟨h1, h2⟩
