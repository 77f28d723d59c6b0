/-! THE LAW: its cases, 3 -/
section XC3
variable {G : xG} {l : Launch} {d : Nat} {Z : List Frame → Array Value → State → Nat → Nat → State → Prop} {k n i : Nat} {h : xH} {b : Bool} {S : St}
theorem wc_orders (hd : 100 ≤ d) (hL : G.2.2.2.2.2 9 ≤ 3072) (hi : i + 5 < G.2.2.2.2.2 9) (hR : RC b h S) (hM : RM h S) (hm : h.2 < 600000) (K : wK G l d Z k n i h) : xWP G l mL_law d Z (200 + k + kB b) (7000 + n + nB b) 1392 (xL0 i) [] h := by
  refine x_aload_n (i := 1) dL_law_1392 rfl rfl rfl ?_
  refine w_arg (j := 1) dL_law_1393 dL_law_1394 dL_law_1395 dL_law_1396 dL_law_1397 iC_1 (by omega) hL ?_
  refine x_callV (ci := 11) (b := 0) (As := [_]) (d2 := d - 1) (mc2 := 0) (ms2 := 0) (k2 := k + kB b) (n2 := n + nB b) dL_law_1398 rfl kL_132 okX11_orders (hR.1.o rfl) (fun q hq => by cases hq; rfl) (by omega) rfl rfl (Nat.le_of_ble_eq_true rfl) (by omega) (by omega) (p_orders (by omega) hR (fun r S2 h2 e1 hR2 hF => ?_))
  have hM2 := hM.cp hR2.1 hF
  refine x_aload_n (i := 2) dL_law_1401 rfl rfl rfl ?_
  refine w_arg (j := 1) dL_law_1402 dL_law_1403 dL_law_1404 dL_law_1405 dL_law_1406 iC_1 (by omega) hL ?_
  refine x_callV0 (ci := 12) (b := 110) (As := [_]) (d2 := d - 1) dL_law_1407 rfl kL_135 okX12_orders (hR2.1.o rfl) (fun q hq => by cases hq; rfl) (by omega) rfl rfl (Nat.le_of_ble_eq_true rfl) (n_orders (by omega) hM2 (fun r2 S3 h3 e2 hM3 hG => ?_))
  cases e1.symm.trans e2
  refine x_ic_eq_t (tgt := 2341) dL_law_1410 rfl rfl ?_
  exact K _ _ _ (hR2.md hG) hM3 (wk_le hF hG)
theorem wc_same (hd : 100 ≤ d) (hL : G.2.2.2.2.2 9 ≤ 3072) (hi : i + 5 < G.2.2.2.2.2 9) (hR : RC b h S) (hM : RM h S) (hm : h.2 < 600000) (K : wK G l d Z k n i h) : xWP G l mL_law d Z (200 + k + kB b) (7000 + n + nB b) 1415 (xL0 i) [] h := by
  refine x_aload_n (i := 1) dL_law_1415 rfl rfl rfl ?_
  refine w_arg (j := 1) dL_law_1416 dL_law_1417 dL_law_1418 dL_law_1419 dL_law_1420 iC_1 (by omega) hL ?_
  refine w_arg (j := 2) dL_law_1421 dL_law_1422 dL_law_1423 dL_law_1424 dL_law_1425 iC_2 (by omega) hL ?_
  refine x_callV (ci := 11) (b := 0) (As := [_, _]) (d2 := d - 1) (mc2 := 0) (ms2 := 0) (k2 := k + kB b) (n2 := n + nB b) dL_law_1426 rfl kL_136 okX11_same (hR.1.o rfl) (fun q hq => by cases hq; rfl) (by omega) rfl rfl (Nat.le_of_ble_eq_true rfl) (by omega) (by omega) (p_same (by omega) hR (fun r S2 h2 e1 hR2 hF => ?_))
  have hM2 := hM.cp hR2.1 hF
  refine x_aload_n (i := 2) dL_law_1429 rfl rfl rfl ?_
  refine w_arg (j := 1) dL_law_1430 dL_law_1431 dL_law_1432 dL_law_1433 dL_law_1434 iC_1 (by omega) hL ?_
  refine w_arg (j := 2) dL_law_1435 dL_law_1436 dL_law_1437 dL_law_1438 dL_law_1439 iC_2 (by omega) hL ?_
  refine x_callV0 (ci := 12) (b := 110) (As := [_, _]) (d2 := d - 1) dL_law_1440 rfl kL_139 okX12_same (hR2.1.o rfl) (fun q hq => by cases hq; rfl) (by omega) rfl rfl (Nat.le_of_ble_eq_true rfl) (n_same (by omega) hM2 (fun r2 S3 h3 e2 hM3 hG => ?_))
  cases e1.symm.trans e2
  refine x_ic_eq_t (tgt := 2341) dL_law_1443 rfl rfl ?_
  exact K _ _ _ (hR2.md hG) hM3 (wk_le hF hG)
theorem wc_many (hd : 100 ≤ d) (hL : G.2.2.2.2.2 9 ≤ 3072) (hi : i + 5 < G.2.2.2.2.2 9) (hR : RC b h S) (hM : RM h S) (hm : h.2 < 600000) (K : wK G l d Z k n i h) : xWP G l mL_law d Z (200 + k + kB b) (7000 + n + nB b) 1448 (xL0 i) [] h := by
  refine x_aload_n (i := 1) dL_law_1448 rfl rfl rfl ?_
  refine w_arg (j := 1) dL_law_1449 dL_law_1450 dL_law_1451 dL_law_1452 dL_law_1453 iC_1 (by omega) hL ?_
  refine x_callV (ci := 11) (b := 0) (As := [_]) (d2 := d - 1) (mc2 := 1) (ms2 := 6720) (k2 := k + kB b) (n2 := n + nB b) dL_law_1454 rfl kL_140 okX11_many (hR.1.o rfl) (fun q hq => by cases hq; rfl) (by omega) rfl rfl (Nat.le_of_ble_eq_true rfl) (by omega) (by omega) (p_many (by omega) hR (by omega) (fun r S2 h2 e1 hR2 hF => ?_))
  have hM2 := hM.cp hR2.1 hF
  refine x_aload_n (i := 2) dL_law_1457 rfl rfl rfl ?_
  refine w_arg (j := 1) dL_law_1458 dL_law_1459 dL_law_1460 dL_law_1461 dL_law_1462 iC_1 (by omega) hL ?_
  refine x_callV0 (ci := 12) (b := 110) (As := [_]) (d2 := d - 1) dL_law_1463 rfl kL_143 okX12_many (hR2.1.o rfl) (fun q hq => by cases hq; rfl) (by omega) rfl rfl (Nat.le_of_ble_eq_true rfl) (n_many (by omega) hM2 (fun r2 S3 h3 e2 hM3 hG => ?_))
  cases e1.symm.trans e2
  refine x_ic_eq_t (tgt := 2341) dL_law_1466 rfl rfl ?_
  exact K _ _ _ (hR2.md hG) hM3 (wk_le hF hG)
theorem wc_listedPart (hd : 100 ≤ d) (hL : G.2.2.2.2.2 9 ≤ 3072) (hi : i + 5 < G.2.2.2.2.2 9) (hR : RC b h S) (hM : RM h S) (hm : h.2 < 600000) (K : wK G l d Z k n i h) : xWP G l mL_law d Z (200 + k + kB b) (7000 + n + nB b) 1471 (xL0 i) [] h := by
  refine x_aload_n (i := 1) dL_law_1471 rfl rfl rfl ?_
  refine w_arg (j := 1) dL_law_1472 dL_law_1473 dL_law_1474 dL_law_1475 dL_law_1476 iC_1 (by omega) hL ?_
  refine w_arg (j := 2) dL_law_1477 dL_law_1478 dL_law_1479 dL_law_1480 dL_law_1481 iC_2 (by omega) hL ?_
  refine w_arg (j := 3) dL_law_1482 dL_law_1483 dL_law_1484 dL_law_1485 dL_law_1486 iC_3 (by omega) hL ?_
  refine x_callV (ci := 11) (b := 0) (As := [_, _, _]) (d2 := d - 1) (mc2 := 1) (ms2 := 6720) (k2 := k + kB b) (n2 := n + nB b) dL_law_1487 rfl kL_144 okX11_listedPart (hR.1.o rfl) (fun q hq => by cases hq; rfl) (by omega) rfl rfl (Nat.le_of_ble_eq_true rfl) (by omega) (by omega) (p_listedPart (by omega) hR (by omega) (fun r S2 h2 e1 hR2 hF => ?_))
  have hM2 := hM.cp hR2.1 hF
  refine x_aload_n (i := 2) dL_law_1490 rfl rfl rfl ?_
  refine w_arg (j := 1) dL_law_1491 dL_law_1492 dL_law_1493 dL_law_1494 dL_law_1495 iC_1 (by omega) hL ?_
  refine w_arg (j := 2) dL_law_1496 dL_law_1497 dL_law_1498 dL_law_1499 dL_law_1500 iC_2 (by omega) hL ?_
  refine w_arg (j := 3) dL_law_1501 dL_law_1502 dL_law_1503 dL_law_1504 dL_law_1505 iC_3 (by omega) hL ?_
  refine x_callV0 (ci := 12) (b := 110) (As := [_, _, _]) (d2 := d - 1) dL_law_1506 rfl kL_147 okX12_listedPart (hR2.1.o rfl) (fun q hq => by cases hq; rfl) (by omega) rfl rfl (Nat.le_of_ble_eq_true rfl) (n_listedPart (by omega) hM2 (fun r2 S3 h3 e2 hM3 hG => ?_))
  cases e1.symm.trans e2
  refine x_ic_eq_t (tgt := 2341) dL_law_1509 rfl rfl ?_
  exact K _ _ _ (hR2.md hG) hM3 (wk_le hF hG)
theorem wc_place (hd : 100 ≤ d) (hL : G.2.2.2.2.2 9 ≤ 3072) (hi : i + 5 < G.2.2.2.2.2 9) (hR : RC b h S) (hM : RM h S) (hm : h.2 < 600000) (K : wK G l d Z k n i h) : xWP G l mL_law d Z (200 + k + kB b) (7000 + n + nB b) 1514 (xL0 i) [] h := by
  refine x_aload_n (i := 1) dL_law_1514 rfl rfl rfl ?_
  refine w_arg (j := 1) dL_law_1515 dL_law_1516 dL_law_1517 dL_law_1518 dL_law_1519 iC_1 (by omega) hL ?_
  refine x_callV (ci := 11) (b := 0) (As := [_]) (d2 := d - 1) (mc2 := 1) (ms2 := 6720) (k2 := k + kB b) (n2 := n + nB b) dL_law_1520 rfl kL_148 okX11_place (hR.1.o rfl) (fun q hq => by cases hq; rfl) (by omega) rfl rfl (Nat.le_of_ble_eq_true rfl) (by omega) (by omega) (p_place (by omega) hR (by omega) (fun r S2 h2 e1 hR2 hF => ?_))
  have hM2 := hM.cp hR2.1 hF
  refine x_aload_n (i := 2) dL_law_1523 rfl rfl rfl ?_
  refine w_arg (j := 1) dL_law_1524 dL_law_1525 dL_law_1526 dL_law_1527 dL_law_1528 iC_1 (by omega) hL ?_
  refine x_callV0 (ci := 12) (b := 110) (As := [_]) (d2 := d - 1) dL_law_1529 rfl kL_151 okX12_place (hR2.1.o rfl) (fun q hq => by cases hq; rfl) (by omega) rfl rfl (Nat.le_of_ble_eq_true rfl) (n_place (by omega) hM2 (fun r2 S3 h3 e2 hM3 hG => ?_))
  cases e1.symm.trans e2
  refine x_ic_eq_t (tgt := 2341) dL_law_1532 rfl rfl ?_
  exact K _ _ _ (hR2.md hG) hM3 (wk_le hF hG)
theorem wc_divisors (hd : 100 ≤ d) (hL : G.2.2.2.2.2 9 ≤ 3072) (hi : i + 5 < G.2.2.2.2.2 9) (hR : RC b h S) (hM : RM h S) (hm : h.2 < 600000) (K : wK G l d Z k n i h) : xWP G l mL_law d Z (200 + k + kB b) (7000 + n + nB b) 1537 (xL0 i) [] h := by
  refine x_aload_n (i := 1) dL_law_1537 rfl rfl rfl ?_
  refine w_arg (j := 1) dL_law_1538 dL_law_1539 dL_law_1540 dL_law_1541 dL_law_1542 iC_1 (by omega) hL ?_
  refine w_arg (j := 2) dL_law_1543 dL_law_1544 dL_law_1545 dL_law_1546 dL_law_1547 iC_2 (by omega) hL ?_
  refine w_arg (j := 3) dL_law_1548 dL_law_1549 dL_law_1550 dL_law_1551 dL_law_1552 iC_3 (by omega) hL ?_
  refine x_if_eq (tgt := 1560) dL_law_1553 rfl rfl (fun z => ?_) (fun z => ?_)
  · refine x_iconst dL_law_1560 rfl iC_0 ?_
    refine x_callV (ci := 11) (b := 0) (As := [_, _, _]) (d2 := d - 1) (mc2 := 1) (ms2 := 6720) (k2 := k + kB b) (n2 := n + nB b) dL_law_1561 rfl kL_152 okX11_divisors (hR.1.o rfl) (fun q hq => by cases hq; rfl) (by omega) rfl rfl (Nat.le_of_ble_eq_true rfl) (by omega) (by omega) (p_divisors (right := 0) (by omega) hR (by omega) (by decide) (fun r S2 h2 e1 hR2 hF => ?_))
    have hM2 := hM.cp hR2.1 hF
    refine x_aload_n (i := 2) dL_law_1564 rfl rfl rfl ?_
    refine w_arg (j := 1) dL_law_1565 dL_law_1566 dL_law_1567 dL_law_1568 dL_law_1569 iC_1 (by omega) hL ?_
    refine w_arg (j := 2) dL_law_1570 dL_law_1571 dL_law_1572 dL_law_1573 dL_law_1574 iC_2 (by omega) hL ?_
    refine w_arg (j := 3) dL_law_1575 dL_law_1576 dL_law_1577 dL_law_1578 dL_law_1579 iC_3 (by omega) hL ?_
    refine x_if_eq_t (tgt := 1587) dL_law_1580 rfl z ?_
    refine x_iconst dL_law_1587 rfl iC_0 ?_
    refine x_callV0 (ci := 12) (b := 110) (As := [_, _, _]) (d2 := d - 1) dL_law_1588 rfl kL_156 okX12_divisors (hR2.1.o rfl) (fun q hq => by cases hq; rfl) (by omega) rfl rfl (Nat.le_of_ble_eq_true rfl) (n_divisors (right := 0) (by decide) (by omega) hM2 (fun r2 S3 h3 e2 hM3 hG => ?_))
    cases e1.symm.trans e2
    refine x_ic_eq_t (tgt := 2341) dL_law_1591 rfl rfl ?_
    exact K _ _ _ (hR2.md hG) hM3 (wk_le hF hG)
  · refine x_iconst dL_law_1556 rfl iC_1 ?_
    refine x_goto (tgt := 1561) dL_law_1557 rfl ?_
    refine x_callV (ci := 11) (b := 0) (As := [_, _, _]) (d2 := d - 1) (mc2 := 1) (ms2 := 6720) (k2 := k + kB b) (n2 := n + nB b) dL_law_1561 rfl kL_152 okX11_divisors (hR.1.o rfl) (fun q hq => by cases hq; rfl) (by omega) rfl rfl (Nat.le_of_ble_eq_true rfl) (by omega) (by omega) (p_divisors (right := 1) (by omega) hR (by omega) (by decide) (fun r S2 h2 e1 hR2 hF => ?_))
    have hM2 := hM.cp hR2.1 hF
    refine x_aload_n (i := 2) dL_law_1564 rfl rfl rfl ?_
    refine w_arg (j := 1) dL_law_1565 dL_law_1566 dL_law_1567 dL_law_1568 dL_law_1569 iC_1 (by omega) hL ?_
    refine w_arg (j := 2) dL_law_1570 dL_law_1571 dL_law_1572 dL_law_1573 dL_law_1574 iC_2 (by omega) hL ?_
    refine w_arg (j := 3) dL_law_1575 dL_law_1576 dL_law_1577 dL_law_1578 dL_law_1579 iC_3 (by omega) hL ?_
    refine x_if_eq_f (tgt := 1587) dL_law_1580 rfl rfl z ?_
    refine x_iconst dL_law_1583 rfl iC_1 ?_
    refine x_goto (tgt := 1588) dL_law_1584 rfl ?_
    refine x_callV0 (ci := 12) (b := 110) (As := [_, _, _]) (d2 := d - 1) dL_law_1588 rfl kL_156 okX12_divisors (hR2.1.o rfl) (fun q hq => by cases hq; rfl) (by omega) rfl rfl (Nat.le_of_ble_eq_true rfl) (n_divisors (right := 1) (by decide) (by omega) hM2 (fun r2 S3 h3 e2 hM3 hG => ?_))
    cases e1.symm.trans e2
    refine x_ic_eq_t (tgt := 2341) dL_law_1591 rfl rfl ?_
    exact K _ _ _ (hR2.md hG) hM3 (wk_le hF hG)
theorem wc_divisor (hd : 100 ≤ d) (hL : G.2.2.2.2.2 9 ≤ 3072) (hi : i + 5 < G.2.2.2.2.2 9) (hR : RC b h S) (hM : RM h S) (hm : h.2 < 600000) (K : wK G l d Z k n i h) : xWP G l mL_law d Z (200 + k + kB b) (7000 + n + nB b) 1596 (xL0 i) [] h := by
  refine x_aload_n (i := 1) dL_law_1596 rfl rfl rfl ?_
  refine w_arg (j := 1) dL_law_1597 dL_law_1598 dL_law_1599 dL_law_1600 dL_law_1601 iC_1 (by omega) hL ?_
  refine w_arg (j := 2) dL_law_1602 dL_law_1603 dL_law_1604 dL_law_1605 dL_law_1606 iC_2 (by omega) hL ?_
  refine w_arg (j := 3) dL_law_1607 dL_law_1608 dL_law_1609 dL_law_1610 dL_law_1611 iC_3 (by omega) hL ?_
  refine x_if_eq (tgt := 1619) dL_law_1612 rfl rfl (fun z => ?_) (fun z => ?_)
  · refine x_iconst dL_law_1619 rfl iC_0 ?_
    refine w_arg (j := 4) dL_law_1620 dL_law_1621 dL_law_1622 dL_law_1623 dL_law_1624 iC_4 (by omega) hL ?_
    refine x_callV (ci := 11) (b := 0) (As := [_, _, _, _]) (d2 := d - 1) (mc2 := 1) (ms2 := 6720) (k2 := k + kB b) (n2 := n + nB b) dL_law_1625 rfl kL_157 okX11_divisor (hR.1.o rfl) (fun q hq => by cases hq; rfl) (by omega) rfl rfl (Nat.le_of_ble_eq_true rfl) (by omega) (by omega) (p_divisor (right := 0) (by omega) hR (by omega) (by decide) (fun r S2 h2 e1 hR2 hF => ?_))
    have hM2 := hM.cp hR2.1 hF
    refine x_aload_n (i := 2) dL_law_1628 rfl rfl rfl ?_
    refine w_arg (j := 1) dL_law_1629 dL_law_1630 dL_law_1631 dL_law_1632 dL_law_1633 iC_1 (by omega) hL ?_
    refine w_arg (j := 2) dL_law_1634 dL_law_1635 dL_law_1636 dL_law_1637 dL_law_1638 iC_2 (by omega) hL ?_
    refine w_arg (j := 3) dL_law_1639 dL_law_1640 dL_law_1641 dL_law_1642 dL_law_1643 iC_3 (by omega) hL ?_
    refine x_if_eq_t (tgt := 1651) dL_law_1644 rfl z ?_
    refine x_iconst dL_law_1651 rfl iC_0 ?_
    refine w_arg (j := 4) dL_law_1652 dL_law_1653 dL_law_1654 dL_law_1655 dL_law_1656 iC_4 (by omega) hL ?_
    refine x_callV0 (ci := 12) (b := 110) (As := [_, _, _, _]) (d2 := d - 1) dL_law_1657 rfl kL_161 okX12_divisor (hR2.1.o rfl) (fun q hq => by cases hq; rfl) (by omega) rfl rfl (Nat.le_of_ble_eq_true rfl) (n_divisor (right := 0) (by decide) (by omega) hM2 (fun r2 S3 h3 e2 hM3 hG => ?_))
    cases e1.symm.trans e2
    refine x_ic_eq_t (tgt := 2341) dL_law_1660 rfl rfl ?_
    exact K _ _ _ (hR2.md hG) hM3 (wk_le hF hG)
  · refine x_iconst dL_law_1615 rfl iC_1 ?_
    refine x_goto (tgt := 1620) dL_law_1616 rfl ?_
    refine w_arg (j := 4) dL_law_1620 dL_law_1621 dL_law_1622 dL_law_1623 dL_law_1624 iC_4 (by omega) hL ?_
    refine x_callV (ci := 11) (b := 0) (As := [_, _, _, _]) (d2 := d - 1) (mc2 := 1) (ms2 := 6720) (k2 := k + kB b) (n2 := n + nB b) dL_law_1625 rfl kL_157 okX11_divisor (hR.1.o rfl) (fun q hq => by cases hq; rfl) (by omega) rfl rfl (Nat.le_of_ble_eq_true rfl) (by omega) (by omega) (p_divisor (right := 1) (by omega) hR (by omega) (by decide) (fun r S2 h2 e1 hR2 hF => ?_))
    have hM2 := hM.cp hR2.1 hF
    refine x_aload_n (i := 2) dL_law_1628 rfl rfl rfl ?_
    refine w_arg (j := 1) dL_law_1629 dL_law_1630 dL_law_1631 dL_law_1632 dL_law_1633 iC_1 (by omega) hL ?_
    refine w_arg (j := 2) dL_law_1634 dL_law_1635 dL_law_1636 dL_law_1637 dL_law_1638 iC_2 (by omega) hL ?_
    refine w_arg (j := 3) dL_law_1639 dL_law_1640 dL_law_1641 dL_law_1642 dL_law_1643 iC_3 (by omega) hL ?_
    refine x_if_eq_f (tgt := 1651) dL_law_1644 rfl rfl z ?_
    refine x_iconst dL_law_1647 rfl iC_1 ?_
    refine x_goto (tgt := 1652) dL_law_1648 rfl ?_
    refine w_arg (j := 4) dL_law_1652 dL_law_1653 dL_law_1654 dL_law_1655 dL_law_1656 iC_4 (by omega) hL ?_
    refine x_callV0 (ci := 12) (b := 110) (As := [_, _, _, _]) (d2 := d - 1) dL_law_1657 rfl kL_161 okX12_divisor (hR2.1.o rfl) (fun q hq => by cases hq; rfl) (by omega) rfl rfl (Nat.le_of_ble_eq_true rfl) (n_divisor (right := 1) (by decide) (by omega) hM2 (fun r2 S3 h3 e2 hM3 hG => ?_))
    cases e1.symm.trans e2
    refine x_ic_eq_t (tgt := 2341) dL_law_1660 rfl rfl ?_
    exact K _ _ _ (hR2.md hG) hM3 (wk_le hF hG)
theorem wc_inner (hd : 100 ≤ d) (hL : G.2.2.2.2.2 9 ≤ 3072) (hi : i + 5 < G.2.2.2.2.2 9) (hR : RC b h S) (hM : RM h S) (hm : h.2 < 600000) (K : wK G l d Z k n i h) : xWP G l mL_law d Z (200 + k + kB b) (7000 + n + nB b) 1665 (xL0 i) [] h := by
  refine x_aload_n (i := 1) dL_law_1665 rfl rfl rfl ?_
  refine w_arg (j := 1) dL_law_1666 dL_law_1667 dL_law_1668 dL_law_1669 dL_law_1670 iC_1 (by omega) hL ?_
  refine w_arg (j := 2) dL_law_1671 dL_law_1672 dL_law_1673 dL_law_1674 dL_law_1675 iC_2 (by omega) hL ?_
  refine x_callV (ci := 11) (b := 0) (As := [_, _]) (d2 := d - 1) (mc2 := 0) (ms2 := 0) (k2 := k + kB b) (n2 := n + nB b) dL_law_1676 rfl kL_162 okX11_inner (hR.1.o rfl) (fun q hq => by cases hq; rfl) (by omega) rfl rfl (Nat.le_of_ble_eq_true rfl) (by omega) (by omega) (p_inner (by omega) hR (fun r S2 h2 e1 hR2 hF => ?_))
  have hM2 := hM.cp hR2.1 hF
  refine x_aload_n (i := 2) dL_law_1679 rfl rfl rfl ?_
  refine w_arg (j := 1) dL_law_1680 dL_law_1681 dL_law_1682 dL_law_1683 dL_law_1684 iC_1 (by omega) hL ?_
  refine w_arg (j := 2) dL_law_1685 dL_law_1686 dL_law_1687 dL_law_1688 dL_law_1689 iC_2 (by omega) hL ?_
  refine x_callV0 (ci := 12) (b := 110) (As := [_, _]) (d2 := d - 1) dL_law_1690 rfl kL_165 okX12_inner (hR2.1.o rfl) (fun q hq => by cases hq; rfl) (by omega) rfl rfl (Nat.le_of_ble_eq_true rfl) (n_inner (by omega) hM2 (fun r2 S3 h3 e2 hM3 hG => ?_))
  cases e1.symm.trans e2
  refine x_ic_eq_t (tgt := 2341) dL_law_1693 rfl rfl ?_
  exact K _ _ _ (hR2.md hG) hM3 (wk_le hF hG)
theorem wc_angles (hd : 100 ≤ d) (hL : G.2.2.2.2.2 9 ≤ 3072) (hi : i + 5 < G.2.2.2.2.2 9) (hR : RC b h S) (hM : RM h S) (hm : h.2 < 600000) (K : wK G l d Z k n i h) : xWP G l mL_law d Z (200 + k + kB b) (7000 + n + nB b) 1698 (xL0 i) [] h := by
  refine x_aload_n (i := 1) dL_law_1698 rfl rfl rfl ?_
  refine w_arg (j := 1) dL_law_1699 dL_law_1700 dL_law_1701 dL_law_1702 dL_law_1703 iC_1 (by omega) hL ?_
  refine w_arg (j := 2) dL_law_1704 dL_law_1705 dL_law_1706 dL_law_1707 dL_law_1708 iC_2 (by omega) hL ?_
  refine w_arg (j := 3) dL_law_1709 dL_law_1710 dL_law_1711 dL_law_1712 dL_law_1713 iC_3 (by omega) hL ?_
  refine x_callV (ci := 11) (b := 0) (As := [_, _, _]) (d2 := d - 1) (mc2 := 1) (ms2 := 6720) (k2 := k + kB b) (n2 := n + nB b) dL_law_1714 rfl kL_166 okX11_angles (hR.1.o rfl) (fun q hq => by cases hq; rfl) (by omega) rfl rfl (Nat.le_of_ble_eq_true rfl) (by omega) (by omega) (p_angles (by omega) hR (by omega) (fun r S2 h2 e1 hR2 hF => ?_))
  have hM2 := hM.cp hR2.1 hF
  refine x_aload_n (i := 2) dL_law_1717 rfl rfl rfl ?_
  refine w_arg (j := 1) dL_law_1718 dL_law_1719 dL_law_1720 dL_law_1721 dL_law_1722 iC_1 (by omega) hL ?_
  refine w_arg (j := 2) dL_law_1723 dL_law_1724 dL_law_1725 dL_law_1726 dL_law_1727 iC_2 (by omega) hL ?_
  refine w_arg (j := 3) dL_law_1728 dL_law_1729 dL_law_1730 dL_law_1731 dL_law_1732 iC_3 (by omega) hL ?_
  refine x_callV0 (ci := 12) (b := 110) (As := [_, _, _]) (d2 := d - 1) dL_law_1733 rfl kL_169 okX12_angles (hR2.1.o rfl) (fun q hq => by cases hq; rfl) (by omega) rfl rfl (Nat.le_of_ble_eq_true rfl) (n_angles (by omega) hM2 (fun r2 S3 h3 e2 hM3 hG => ?_))
  cases e1.symm.trans e2
  refine x_ic_eq_t (tgt := 2341) dL_law_1736 rfl rfl ?_
  exact K _ _ _ (hR2.md hG) hM3 (wk_le hF hG)
theorem wc_alike (hd : 100 ≤ d) (hL : G.2.2.2.2.2 9 ≤ 3072) (hi : i + 5 < G.2.2.2.2.2 9) (hR : RC b h S) (hM : RM h S) (hm : h.2 < 600000) (K : wK G l d Z k n i h) : xWP G l mL_law d Z (200 + k + kB b) (7000 + n + nB b) 1741 (xL0 i) [] h := by
  refine x_aload_n (i := 1) dL_law_1741 rfl rfl rfl ?_
  refine w_arg (j := 1) dL_law_1742 dL_law_1743 dL_law_1744 dL_law_1745 dL_law_1746 iC_1 (by omega) hL ?_
  refine w_arg (j := 2) dL_law_1747 dL_law_1748 dL_law_1749 dL_law_1750 dL_law_1751 iC_2 (by omega) hL ?_
  refine w_arg (j := 3) dL_law_1752 dL_law_1753 dL_law_1754 dL_law_1755 dL_law_1756 iC_3 (by omega) hL ?_
  refine x_callV (ci := 11) (b := 0) (As := [_, _, _]) (d2 := d - 1) (mc2 := 0) (ms2 := 0) (k2 := k + kB b) (n2 := n + nB b) dL_law_1757 rfl kL_170 okX11_alike (hR.1.o rfl) (fun q hq => by cases hq; rfl) (by omega) rfl rfl (Nat.le_of_ble_eq_true rfl) (by omega) (by omega) (p_alike (by omega) hR (fun r S2 h2 e1 hR2 hF => ?_))
  have hM2 := hM.cp hR2.1 hF
  refine x_aload_n (i := 2) dL_law_1760 rfl rfl rfl ?_
  refine w_arg (j := 1) dL_law_1761 dL_law_1762 dL_law_1763 dL_law_1764 dL_law_1765 iC_1 (by omega) hL ?_
  refine w_arg (j := 2) dL_law_1766 dL_law_1767 dL_law_1768 dL_law_1769 dL_law_1770 iC_2 (by omega) hL ?_
  refine w_arg (j := 3) dL_law_1771 dL_law_1772 dL_law_1773 dL_law_1774 dL_law_1775 iC_3 (by omega) hL ?_
  refine x_callV0 (ci := 12) (b := 110) (As := [_, _, _]) (d2 := d - 1) dL_law_1776 rfl kL_173 okX12_alike (hR2.1.o rfl) (fun q hq => by cases hq; rfl) (by omega) rfl rfl (Nat.le_of_ble_eq_true rfl) (n_alike (by omega) hM2 (fun r2 S3 h3 e2 hM3 hG => ?_))
  cases e1.symm.trans e2
  refine x_ic_eq_t (tgt := 2341) dL_law_1779 rfl rfl ?_
  exact K _ _ _ (hR2.md hG) hM3 (wk_le hF hG)
theorem wc_alikeMany (hd : 100 ≤ d) (hL : G.2.2.2.2.2 9 ≤ 3072) (hi : i + 5 < G.2.2.2.2.2 9) (hR : RC b h S) (hM : RM h S) (hm : h.2 < 600000) (K : wK G l d Z k n i h) : xWP G l mL_law d Z (200 + k + kB b) (7000 + n + nB b) 1784 (xL0 i) [] h := by
  refine x_aload_n (i := 1) dL_law_1784 rfl rfl rfl ?_
  refine w_arg (j := 1) dL_law_1785 dL_law_1786 dL_law_1787 dL_law_1788 dL_law_1789 iC_1 (by omega) hL ?_
  refine w_arg (j := 2) dL_law_1790 dL_law_1791 dL_law_1792 dL_law_1793 dL_law_1794 iC_2 (by omega) hL ?_
  refine w_arg (j := 3) dL_law_1795 dL_law_1796 dL_law_1797 dL_law_1798 dL_law_1799 iC_3 (by omega) hL ?_
  refine x_callV (ci := 11) (b := 0) (As := [_, _, _]) (d2 := d - 1) (mc2 := 1) (ms2 := 6720) (k2 := k + kB b) (n2 := n + nB b) dL_law_1800 rfl kL_174 okX11_alikeMany (hR.1.o rfl) (fun q hq => by cases hq; rfl) (by omega) rfl rfl (Nat.le_of_ble_eq_true rfl) (by omega) (by omega) (p_alikeMany (by omega) hR (by omega) (fun r S2 h2 e1 hR2 hF => ?_))
  have hM2 := hM.cp hR2.1 hF
  refine x_aload_n (i := 2) dL_law_1803 rfl rfl rfl ?_
  refine w_arg (j := 1) dL_law_1804 dL_law_1805 dL_law_1806 dL_law_1807 dL_law_1808 iC_1 (by omega) hL ?_
  refine w_arg (j := 2) dL_law_1809 dL_law_1810 dL_law_1811 dL_law_1812 dL_law_1813 iC_2 (by omega) hL ?_
  refine w_arg (j := 3) dL_law_1814 dL_law_1815 dL_law_1816 dL_law_1817 dL_law_1818 iC_3 (by omega) hL ?_
  refine x_callV0 (ci := 12) (b := 110) (As := [_, _, _]) (d2 := d - 1) dL_law_1819 rfl kL_177 okX12_alikeMany (hR2.1.o rfl) (fun q hq => by cases hq; rfl) (by omega) rfl rfl (Nat.le_of_ble_eq_true rfl) (n_alikeMany (by omega) hM2 (fun r2 S3 h3 e2 hM3 hG => ?_))
  cases e1.symm.trans e2
  refine x_ic_eq_t (tgt := 2341) dL_law_1822 rfl rfl ?_
  exact K _ _ _ (hR2.md hG) hM3 (wk_le hF hG)
theorem wc_commuting (hd : 100 ≤ d) (hL : G.2.2.2.2.2 9 ≤ 3072) (hi : i + 5 < G.2.2.2.2.2 9) (hR : RC b h S) (hM : RM h S) (hm : h.2 < 600000) (K : wK G l d Z k n i h) : xWP G l mL_law d Z (200 + k + kB b) (7000 + n + nB b) 1827 (xL0 i) [] h := by
  refine x_aload_n (i := 1) dL_law_1827 rfl rfl rfl ?_
  refine w_arg (j := 1) dL_law_1828 dL_law_1829 dL_law_1830 dL_law_1831 dL_law_1832 iC_1 (by omega) hL ?_
  refine w_arg (j := 2) dL_law_1833 dL_law_1834 dL_law_1835 dL_law_1836 dL_law_1837 iC_2 (by omega) hL ?_
  refine x_callV (ci := 11) (b := 0) (As := [_, _]) (d2 := d - 1) (mc2 := 1) (ms2 := 6720) (k2 := k + kB b) (n2 := n + nB b) dL_law_1838 rfl kL_178 okX11_commuting (hR.1.o rfl) (fun q hq => by cases hq; rfl) (by omega) rfl rfl (Nat.le_of_ble_eq_true rfl) (by omega) (by omega) (p_commuting (by omega) hR (by omega) (fun r S2 h2 e1 hR2 hF => ?_))
  have hM2 := hM.cp hR2.1 hF
  refine x_aload_n (i := 2) dL_law_1841 rfl rfl rfl ?_
  refine w_arg (j := 1) dL_law_1842 dL_law_1843 dL_law_1844 dL_law_1845 dL_law_1846 iC_1 (by omega) hL ?_
  refine w_arg (j := 2) dL_law_1847 dL_law_1848 dL_law_1849 dL_law_1850 dL_law_1851 iC_2 (by omega) hL ?_
  refine x_callV0 (ci := 12) (b := 110) (As := [_, _]) (d2 := d - 1) dL_law_1852 rfl kL_181 okX12_commuting (hR2.1.o rfl) (fun q hq => by cases hq; rfl) (by omega) rfl rfl (Nat.le_of_ble_eq_true rfl) (n_commuting (by omega) hM2 (fun r2 S3 h3 e2 hM3 hG => ?_))
  cases e1.symm.trans e2
  refine x_ic_eq_t (tgt := 2341) dL_law_1855 rfl rfl ?_
  exact K _ _ _ (hR2.md hG) hM3 (wk_le hF hG)
theorem wc_sides (hd : 100 ≤ d) (hL : G.2.2.2.2.2 9 ≤ 3072) (hi : i + 5 < G.2.2.2.2.2 9) (hR : RC b h S) (hM : RM h S) (hm : h.2 < 600000) (K : wK G l d Z k n i h) : xWP G l mL_law d Z (200 + k + kB b) (7000 + n + nB b) 1860 (xL0 i) [] h := by
  refine x_aload_n (i := 1) dL_law_1860 rfl rfl rfl ?_
  refine w_arg (j := 1) dL_law_1861 dL_law_1862 dL_law_1863 dL_law_1864 dL_law_1865 iC_1 (by omega) hL ?_
  refine w_arg (j := 2) dL_law_1866 dL_law_1867 dL_law_1868 dL_law_1869 dL_law_1870 iC_2 (by omega) hL ?_
  refine w_arg (j := 3) dL_law_1871 dL_law_1872 dL_law_1873 dL_law_1874 dL_law_1875 iC_3 (by omega) hL ?_
  refine x_if_eq (tgt := 1883) dL_law_1876 rfl rfl (fun z => ?_) (fun z => ?_)
  · refine x_iconst dL_law_1883 rfl iC_0 ?_
    refine x_callV (ci := 11) (b := 0) (As := [_, _, _]) (d2 := d - 1) (mc2 := 1) (ms2 := 6720) (k2 := k + kB b) (n2 := n + nB b) dL_law_1884 rfl kL_182 okX11_sides (hR.1.o rfl) (fun q hq => by cases hq; rfl) (by omega) rfl rfl (Nat.le_of_ble_eq_true rfl) (by omega) (by omega) (p_sides (right := 0) (by omega) hR (by omega) (by decide) (fun r S2 h2 e1 hR2 hF => ?_))
    have hM2 := hM.cp hR2.1 hF
    refine x_aload_n (i := 2) dL_law_1887 rfl rfl rfl ?_
    refine w_arg (j := 1) dL_law_1888 dL_law_1889 dL_law_1890 dL_law_1891 dL_law_1892 iC_1 (by omega) hL ?_
    refine w_arg (j := 2) dL_law_1893 dL_law_1894 dL_law_1895 dL_law_1896 dL_law_1897 iC_2 (by omega) hL ?_
    refine w_arg (j := 3) dL_law_1898 dL_law_1899 dL_law_1900 dL_law_1901 dL_law_1902 iC_3 (by omega) hL ?_
    refine x_if_eq_t (tgt := 1910) dL_law_1903 rfl z ?_
    refine x_iconst dL_law_1910 rfl iC_0 ?_
    refine x_callV0 (ci := 12) (b := 110) (As := [_, _, _]) (d2 := d - 1) dL_law_1911 rfl kL_185 okX12_sides (hR2.1.o rfl) (fun q hq => by cases hq; rfl) (by omega) rfl rfl (Nat.le_of_ble_eq_true rfl) (n_sides (right := 0) (by decide) (by omega) hM2 (fun r2 S3 h3 e2 hM3 hG => ?_))
    cases e1.symm.trans e2
    refine x_ic_eq_t (tgt := 2341) dL_law_1914 rfl rfl ?_
    exact K _ _ _ (hR2.md hG) hM3 (wk_le hF hG)
  · refine x_iconst dL_law_1879 rfl iC_1 ?_
    refine x_goto (tgt := 1884) dL_law_1880 rfl ?_
    refine x_callV (ci := 11) (b := 0) (As := [_, _, _]) (d2 := d - 1) (mc2 := 1) (ms2 := 6720) (k2 := k + kB b) (n2 := n + nB b) dL_law_1884 rfl kL_182 okX11_sides (hR.1.o rfl) (fun q hq => by cases hq; rfl) (by omega) rfl rfl (Nat.le_of_ble_eq_true rfl) (by omega) (by omega) (p_sides (right := 1) (by omega) hR (by omega) (by decide) (fun r S2 h2 e1 hR2 hF => ?_))
    have hM2 := hM.cp hR2.1 hF
    refine x_aload_n (i := 2) dL_law_1887 rfl rfl rfl ?_
    refine w_arg (j := 1) dL_law_1888 dL_law_1889 dL_law_1890 dL_law_1891 dL_law_1892 iC_1 (by omega) hL ?_
    refine w_arg (j := 2) dL_law_1893 dL_law_1894 dL_law_1895 dL_law_1896 dL_law_1897 iC_2 (by omega) hL ?_
    refine w_arg (j := 3) dL_law_1898 dL_law_1899 dL_law_1900 dL_law_1901 dL_law_1902 iC_3 (by omega) hL ?_
    refine x_if_eq_f (tgt := 1910) dL_law_1903 rfl rfl z ?_
    refine x_iconst dL_law_1906 rfl iC_1 ?_
    refine x_goto (tgt := 1911) dL_law_1907 rfl ?_
    refine x_callV0 (ci := 12) (b := 110) (As := [_, _, _]) (d2 := d - 1) dL_law_1911 rfl kL_185 okX12_sides (hR2.1.o rfl) (fun q hq => by cases hq; rfl) (by omega) rfl rfl (Nat.le_of_ble_eq_true rfl) (n_sides (right := 1) (by decide) (by omega) hM2 (fun r2 S3 h3 e2 hM3 hG => ?_))
    cases e1.symm.trans e2
    refine x_ic_eq_t (tgt := 2341) dL_law_1914 rfl rfl ?_
    exact K _ _ _ (hR2.md hG) hM3 (wk_le hF hG)
theorem wc_cycle (hd : 100 ≤ d) (hL : G.2.2.2.2.2 9 ≤ 3072) (hi : i + 5 < G.2.2.2.2.2 9) (hR : RC b h S) (hM : RM h S) (hm : h.2 < 600000) (K : wK G l d Z k n i h) : xWP G l mL_law d Z (200 + k + kB b) (7000 + n + nB b) 1919 (xL0 i) [] h := by
  refine x_aload_n (i := 1) dL_law_1919 rfl rfl rfl ?_
  refine w_arg (j := 1) dL_law_1920 dL_law_1921 dL_law_1922 dL_law_1923 dL_law_1924 iC_1 (by omega) hL ?_
  refine x_callV (ci := 11) (b := 0) (As := [_]) (d2 := d - 1) (mc2 := 0) (ms2 := 0) (k2 := k + kB b) (n2 := n + nB b) dL_law_1925 rfl kL_186 okX11_cycle (hR.1.o rfl) (fun q hq => by cases hq; rfl) (by omega) rfl rfl (Nat.le_of_ble_eq_true rfl) (by omega) (by omega) (p_cycle (by omega) hR (fun r S2 h2 e1 hR2 hF => ?_))
  have hM2 := hM.cp hR2.1 hF
  refine x_aload_n (i := 2) dL_law_1928 rfl rfl rfl ?_
  refine w_arg (j := 1) dL_law_1929 dL_law_1930 dL_law_1931 dL_law_1932 dL_law_1933 iC_1 (by omega) hL ?_
  refine x_callV0 (ci := 12) (b := 110) (As := [_]) (d2 := d - 1) dL_law_1934 rfl kL_189 okX12_cycle (hR2.1.o rfl) (fun q hq => by cases hq; rfl) (by omega) rfl rfl (Nat.le_of_ble_eq_true rfl) (n_cycle (by omega) hM2 (fun r2 S3 h3 e2 hM3 hG => ?_))
  cases e1.symm.trans e2
  refine x_ic_eq_t (tgt := 2341) dL_law_1937 rfl rfl ?_
  exact K _ _ _ (hR2.md hG) hM3 (wk_le hF hG)
end XC3

