theorem dL_law_1482 : decode cL_law 1482 = .ok (.aload_n 1, 1) := by decide +kernel
theorem dL_law_1483 : decode cL_law 1483 = .ok (.aload_n 0, 1) := by decide +kernel
theorem dL_law_1484 : decode cL_law 1484 = .ok (.iload 4, 2) := by decide +kernel
theorem dL_law_1486 : decode cL_law 1486 = .ok (.iconst 1, 1) := by decide +kernel
theorem dL_law_1487 : decode cL_law 1487 = .ok (.iadd, 1) := by decide +kernel
theorem dL_law_1488 : decode cL_law 1488 = .ok (.iaload, 1) := by decide +kernel
theorem dL_law_1489 : decode cL_law 1489 = .ok (.aload_n 0, 1) := by decide +kernel
theorem dL_law_1490 : decode cL_law 1490 = .ok (.iload 4, 2) := by decide +kernel
theorem dL_law_1492 : decode cL_law 1492 = .ok (.iconst 2, 1) := by decide +kernel
theorem dL_law_1493 : decode cL_law 1493 = .ok (.iadd, 1) := by decide +kernel
theorem dL_law_1494 : decode cL_law 1494 = .ok (.iaload, 1) := by decide +kernel
theorem dL_law_1495 : decode cL_law 1495 = .ok (.aload_n 0, 1) := by decide +kernel
theorem dL_law_1496 : decode cL_law 1496 = .ok (.iload 4, 2) := by decide +kernel
theorem dL_law_1498 : decode cL_law 1498 = .ok (.iconst 3, 1) := by decide +kernel
theorem dL_law_1499 : decode cL_law 1499 = .ok (.iadd, 1) := by decide +kernel
theorem dL_law_1500 : decode cL_law 1500 = .ok (.iaload, 1) := by decide +kernel
theorem dL_law_1501 : decode cL_law 1501 = .ok (.aload_n 3, 1) := by decide +kernel
theorem dL_law_1502 : decode cL_law 1502 = .ok (.invokestatic 183, 3) := by decide +kernel
theorem dL_law_1505 : decode cL_law 1505 = .ok (.istore 5, 2) := by decide +kernel
theorem dL_law_1507 : decode cL_law 1507 = .ok (.aload_n 2, 1) := by decide +kernel
theorem dL_law_1508 : decode cL_law 1508 = .ok (.aload_n 0, 1) := by decide +kernel
theorem dL_law_1509 : decode cL_law 1509 = .ok (.iload 4, 2) := by decide +kernel
theorem dL_law_1511 : decode cL_law 1511 = .ok (.iconst 1, 1) := by decide +kernel
theorem dL_law_1512 : decode cL_law 1512 = .ok (.iadd, 1) := by decide +kernel
theorem dL_law_1513 : decode cL_law 1513 = .ok (.iaload, 1) := by decide +kernel
theorem dL_law_1514 : decode cL_law 1514 = .ok (.aload_n 0, 1) := by decide +kernel
theorem dL_law_1515 : decode cL_law 1515 = .ok (.iload 4, 2) := by decide +kernel
theorem dL_law_1517 : decode cL_law 1517 = .ok (.iconst 2, 1) := by decide +kernel
theorem dL_law_1518 : decode cL_law 1518 = .ok (.iadd, 1) := by decide +kernel
theorem dL_law_1519 : decode cL_law 1519 = .ok (.iaload, 1) := by decide +kernel
theorem dL_law_1520 : decode cL_law 1520 = .ok (.aload_n 0, 1) := by decide +kernel
theorem dL_law_1521 : decode cL_law 1521 = .ok (.iload 4, 2) := by decide +kernel
theorem dL_law_1523 : decode cL_law 1523 = .ok (.iconst 3, 1) := by decide +kernel
theorem dL_law_1524 : decode cL_law 1524 = .ok (.iadd, 1) := by decide +kernel
theorem dL_law_1525 : decode cL_law 1525 = .ok (.iaload, 1) := by decide +kernel
theorem dL_law_1526 : decode cL_law 1526 = .ok (.invokevirtual 185, 3) := by decide +kernel
theorem dL_law_1529 : decode cL_law 1529 = .ok (.istore 6, 2) := by decide +kernel
theorem dL_law_1531 : decode cL_law 1531 = .ok (.aload_n 2, 1) := by decide +kernel
theorem dL_law_1532 : decode cL_law 1532 = .ok (.invokevirtual 117, 3) := by decide +kernel
theorem dL_law_1535 : decode cL_law 1535 = .ok (.iload 5, 2) := by decide +kernel
theorem dL_law_1537 : decode cL_law 1537 = .ok (.if_icmp .eq 5, 3) := by decide +kernel
theorem dL_law_1540 : decode cL_law 1540 = .ok (.iconst 0, 1) := by decide +kernel
theorem dL_law_1541 : decode cL_law 1541 = .ok (.ireturn, 1) := by decide +kernel
theorem dL_law_1542 : decode cL_law 1542 = .ok (.iload 5, 2) := by decide +kernel
theorem dL_law_1544 : decode cL_law 1544 = .ok (.ifCond .ne 15, 3) := by decide +kernel
theorem dL_law_1547 : decode cL_law 1547 = .ok (.aload_n 3, 1) := by decide +kernel
theorem dL_law_1548 : decode cL_law 1548 = .ok (.iconst 0, 1) := by decide +kernel
theorem dL_law_1549 : decode cL_law 1549 = .ok (.laload, 1) := by decide +kernel
theorem dL_law_1550 : decode cL_law 1550 = .ok (.iload 6, 2) := by decide +kernel
theorem dL_law_1552 : decode cL_law 1552 = .ok (.i2l, 1) := by decide +kernel
theorem dL_law_1553 : decode cL_law 1553 = .ok (.lcmp, 1) := by decide +kernel
theorem dL_law_1554 : decode cL_law 1554 = .ok (.ifCond .eq 5, 3) := by decide +kernel
theorem dL_law_1557 : decode cL_law 1557 = .ok (.iconst 0, 1) := by decide +kernel
theorem dL_law_1558 : decode cL_law 1558 = .ok (.ireturn, 1) := by decide +kernel
theorem dL_law_1559 : decode cL_law 1559 = .ok (.goto 719, 3) := by decide +kernel
theorem kH_183 : CH RL 183 yL_needed cL_needed 6 (some .int) [(0, 12, 15, 18), (0, 12, 19, 13)] 5 := ⟨wsH_gt wd993 wd994 wd0 wd995, by decide +kernel⟩
theorem kL_185 : CV RL 185 RX10 yX10_needed cX10_needed 8 (some .int) 3 := ⟨wsV_gt wd1708 wd1709 wd1710 wd11 wd1711, by decide +kernel⟩
theorem dL_law_1562 : decode cL_law 1562 = .ok (.aload_n 1, 1) := by decide +kernel
theorem dL_law_1563 : decode cL_law 1563 = .ok (.aload_n 0, 1) := by decide +kernel
theorem dL_law_1564 : decode cL_law 1564 = .ok (.iload 4, 2) := by decide +kernel
theorem dL_law_1566 : decode cL_law 1566 = .ok (.iconst 1, 1) := by decide +kernel
theorem dL_law_1567 : decode cL_law 1567 = .ok (.iadd, 1) := by decide +kernel
theorem dL_law_1568 : decode cL_law 1568 = .ok (.iaload, 1) := by decide +kernel
theorem dL_law_1569 : decode cL_law 1569 = .ok (.aload_n 0, 1) := by decide +kernel
theorem dL_law_1570 : decode cL_law 1570 = .ok (.iload 4, 2) := by decide +kernel
theorem dL_law_1572 : decode cL_law 1572 = .ok (.iconst 2, 1) := by decide +kernel
theorem dL_law_1573 : decode cL_law 1573 = .ok (.iadd, 1) := by decide +kernel
theorem dL_law_1574 : decode cL_law 1574 = .ok (.iaload, 1) := by decide +kernel
theorem dL_law_1575 : decode cL_law 1575 = .ok (.aload_n 3, 1) := by decide +kernel
theorem dL_law_1576 : decode cL_law 1576 = .ok (.invokestatic 186, 3) := by decide +kernel
theorem dL_law_1579 : decode cL_law 1579 = .ok (.istore 5, 2) := by decide +kernel
theorem dL_law_1581 : decode cL_law 1581 = .ok (.aload_n 2, 1) := by decide +kernel
theorem dL_law_1582 : decode cL_law 1582 = .ok (.aload_n 0, 1) := by decide +kernel
theorem dL_law_1583 : decode cL_law 1583 = .ok (.iload 4, 2) := by decide +kernel
theorem dL_law_1585 : decode cL_law 1585 = .ok (.iconst 1, 1) := by decide +kernel
theorem dL_law_1586 : decode cL_law 1586 = .ok (.iadd, 1) := by decide +kernel
theorem dL_law_1587 : decode cL_law 1587 = .ok (.iaload, 1) := by decide +kernel
theorem dL_law_1588 : decode cL_law 1588 = .ok (.aload_n 0, 1) := by decide +kernel
theorem dL_law_1589 : decode cL_law 1589 = .ok (.iload 4, 2) := by decide +kernel
theorem dL_law_1591 : decode cL_law 1591 = .ok (.iconst 2, 1) := by decide +kernel
theorem dL_law_1592 : decode cL_law 1592 = .ok (.iadd, 1) := by decide +kernel
theorem dL_law_1593 : decode cL_law 1593 = .ok (.iaload, 1) := by decide +kernel
theorem dL_law_1594 : decode cL_law 1594 = .ok (.invokevirtual 188, 3) := by decide +kernel
theorem dL_law_1597 : decode cL_law 1597 = .ok (.istore 6, 2) := by decide +kernel
theorem dL_law_1599 : decode cL_law 1599 = .ok (.aload_n 2, 1) := by decide +kernel
theorem dL_law_1600 : decode cL_law 1600 = .ok (.invokevirtual 117, 3) := by decide +kernel
theorem dL_law_1603 : decode cL_law 1603 = .ok (.iload 5, 2) := by decide +kernel
theorem dL_law_1605 : decode cL_law 1605 = .ok (.if_icmp .eq 5, 3) := by decide +kernel
theorem dL_law_1608 : decode cL_law 1608 = .ok (.iconst 0, 1) := by decide +kernel
theorem dL_law_1609 : decode cL_law 1609 = .ok (.ireturn, 1) := by decide +kernel
theorem dL_law_1610 : decode cL_law 1610 = .ok (.iload 5, 2) := by decide +kernel
theorem dL_law_1612 : decode cL_law 1612 = .ok (.ifCond .ne 15, 3) := by decide +kernel
theorem dL_law_1615 : decode cL_law 1615 = .ok (.aload_n 3, 1) := by decide +kernel
theorem dL_law_1616 : decode cL_law 1616 = .ok (.iconst 0, 1) := by decide +kernel
theorem dL_law_1617 : decode cL_law 1617 = .ok (.laload, 1) := by decide +kernel
theorem dL_law_1618 : decode cL_law 1618 = .ok (.iload 6, 2) := by decide +kernel
theorem dL_law_1620 : decode cL_law 1620 = .ok (.i2l, 1) := by decide +kernel
theorem dL_law_1621 : decode cL_law 1621 = .ok (.lcmp, 1) := by decide +kernel
theorem dL_law_1622 : decode cL_law 1622 = .ok (.ifCond .eq 5, 3) := by decide +kernel
theorem dL_law_1625 : decode cL_law 1625 = .ok (.iconst 0, 1) := by decide +kernel
theorem dL_law_1626 : decode cL_law 1626 = .ok (.ireturn, 1) := by decide +kernel
theorem dL_law_1627 : decode cL_law 1627 = .ok (.goto 651, 3) := by decide +kernel
theorem kH_186 : CH RL 186 yL_common cL_common 5 (some .int) [(0, 10, 13, 18)] 4 := ⟨wsH_gt wd1000 wd1001 wd0 wd1002, by decide +kernel⟩
theorem kL_188 : CV RL 188 RX10 yX10_common cX10_common 3 (some .int) 2 := ⟨wsV_gt wd1712 wd1713 wd1714 wd11 wd1715, by decide +kernel⟩
theorem dL_law_1630 : decode cL_law 1630 = .ok (.aload_n 1, 1) := by decide +kernel
theorem dL_law_1631 : decode cL_law 1631 = .ok (.invokevirtual 189, 3) := by decide +kernel
theorem dL_law_1634 : decode cL_law 1634 = .ok (.aload_n 2, 1) := by decide +kernel
theorem dL_law_1635 : decode cL_law 1635 = .ok (.invokevirtual 192, 3) := by decide +kernel
theorem dL_law_1638 : decode cL_law 1638 = .ok (.if_icmp .eq 640, 3) := by decide +kernel
theorem dL_law_1641 : decode cL_law 1641 = .ok (.iconst 0, 1) := by decide +kernel
theorem dL_law_1642 : decode cL_law 1642 = .ok (.ireturn, 1) := by decide +kernel
theorem kL_189 : CV RL 189 RX9 yX9_nearest cX9_nearest 1 (some .int) 0 := ⟨wsV_gt wd484 wd485 wd486 wd1 wd487, by decide +kernel⟩
theorem kL_192 : CV RL 192 RX10 yX10_nearest cX10_nearest 5 (some .int) 0 := ⟨wsV_gt wd1720 wd1721 wd1722 wd11 wd1723, by decide +kernel⟩
section LC
variable {p : Program} {l : Launch} {e : Env} {s : State} {m : MethodId} {below : List Frame} {meth : Method} {c : Code} {G : Gt} {Q : State → Prop} {b L i : Nat} {xs : Nat → Int32} {S : St} {H : Heap} {locs : List Loc} {ls : Array Slot} {cells slots : Nat}
set_option maxHeartbeats 4000000 in
set_option maxRecDepth 20000 in
theorem lc_needed (C : Cx p s m #[.ref b] meth c cL_law 7 RL G) (hst : l.stackTraces = false) (hX : va_X b L xs s s.heap) (hbl : b < s.heap.size) (hbA : ¬ Ab G b) (hi : 6 * i + 5 < L) (hL : L ≤ 3072) (hd : Dy G S s H locs) (hR : Rel S) (hl : lv_has ls 7 [(4, .int (nI (6 * i))), (0, .ref b), (1, .ref (gR G 0)), (2, .ref (gR G 142)), (3, .ref (gR G 186))]) (hB : cells + 20 ≤ 601024 ∧ slots + 120 ≤ 7293034) (hnext : ∀ (S : St) (H : Heap) (locs : List Loc) (ls : Array Slot) (k n : Nat), k ≤ cells + 20 → n ≤ slots + 120 → Dy G S s H locs → Rel S → lv_has ls 7 [(4, .int (nI (6 * i))), (0, .ref b), (1, .ref (gR G 0)), (2, .ref (gR G 142)), (3, .ref (gR G 186))] → W p l e room_1 s m #[.ref b] below meth c H locs k n Q (F0 m 2278 ls [])) : W p l e room_1 s m #[.ref b] below meth c H locs cells slots Q (F0 m 1482 ls []) := by
  have hx := C.1.1
  have hb := C.1.2.1
  obtain ⟨k, S1, bb, S2, e1, e2, hR2, e3, e4⟩ := useC (A_needed (xs (6 * i + 1)) (xs (6 * i + 2)) (xs (6 * i + 3))) (some 1) (some 2) false (Or.inl rfl) (Or.inl rfl) (by decide) (fun _ _ _ h => n6_fX10_needed rfl _ h) hR
  refine lv_aload_n hx hb dL_law_1482 rfl (lv_at hl 2 rfl) ?_
  refine R_scr (k := 1) C hd hX hbl hbA (lv_at hl 1 rfl) (lv_at hl 0 rfl) hi hL (by decide) rfl dL_law_1483 dL_law_1484 dL_law_1486 dL_law_1487 dL_law_1488 ?_
  refine R_scr (k := 2) C hd hX hbl hbA (lv_at hl 1 rfl) (lv_at hl 0 rfl) hi hL (by decide) rfl dL_law_1489 dL_law_1490 dL_law_1492 dL_law_1493 dL_law_1494 ?_
  refine R_scr (k := 3) C hd hX hbl hbA (lv_at hl 1 rfl) (lv_at hl 0 rfl) hi hL (by decide) rfl dL_law_1495 dL_law_1496 dL_law_1498 dL_law_1499 dL_law_1500 ?_
  refine lv_aload_n hx hb dL_law_1501 rfl (lv_at hl 4 rfl) ?_
  refine R_cHi (rest := []) (As := [.ref (gR G 0), .int (xs (6 * i + 1)), .int (xs (6 * i + 2)), .int (xs (6 * i + 3)), .ref (gR G 186)]) C hd (ccL_needed l G hst e1) kH_183 hl.1 ⟨by decide, by decide⟩ rfl rfl (Nat.le_of_ble_eq_true rfl) dL_law_1502 (lfit hB (by decide) (by decide)) (fun H locs hd => ?_)
  refine lv_istore hx hb dL_law_1505 hl (by decide) rfl (fun ls hl => ?_)
  refine lv_aload_n hx hb dL_law_1507 rfl (lv_at hl 4 rfl) ?_
  refine R_scr (k := 1) C hd hX hbl hbA (lv_at hl 2 rfl) (lv_at hl 1 rfl) hi hL (by decide) rfl dL_law_1508 dL_law_1509 dL_law_1511 dL_law_1512 dL_law_1513 ?_
  refine R_scr (k := 2) C hd hX hbl hbA (lv_at hl 2 rfl) (lv_at hl 1 rfl) hi hL (by decide) rfl dL_law_1514 dL_law_1515 dL_law_1517 dL_law_1518 dL_law_1519 ?_
  refine R_scr (k := 3) C hd hX hbl hbA (lv_at hl 2 rfl) (lv_at hl 1 rfl) hi hL (by decide) rfl dL_law_1520 dL_law_1521 dL_law_1523 dL_law_1524 dL_law_1525 ?_
  refine R_cVi (rest := []) (As := [.int (xs (6 * i + 1)), .int (xs (6 * i + 2)), .int (xs (6 * i + 3))]) C hd (ccX10_needed l G e2) kL_185 rfl (by decide) (rfl : kd 142 = 10) hl.1 ⟨by decide, by decide⟩ rfl rfl (Nat.le_of_ble_eq_true rfl) dL_law_1526 (lfit2 hB (by decide) (by decide)) (fun H locs hd => ?_)
  refine lv_istore hx hb dL_law_1529 hl (by decide) rfl (fun ls hl => ?_)
  refine lv_aload_n hx hb dL_law_1531 rfl (lv_at hl 5 rfl) ?_
  refine R_cVi (rest := []) (As := []) C hd (ccX10_thrown l G rfl) kL_117 rfl (by decide) (rfl : kd 142 = 10) hl.1 ⟨by decide, by decide⟩ rfl rfl (Nat.le_of_ble_eq_true rfl) dL_law_1532 (lfit2 hB (by decide) (by decide)) (fun H locs hd => ?_)
  refine lv_iload hx hb dL_law_1535 (lv_at hl 1 rfl) ?_
  refine lv_icmp_eq (tgt := 1542) hx hb dL_law_1537 (by decide) (fun _ => ?_) (fun q => absurd e3 q)
  refine lv_iload hx hb dL_law_1542 (lv_at hl 1 rfl) ?_
  refine lv_if_ne (tgt := 1559) hx hb dL_law_1544 (by decide) (fun _ => ?_) (fun ck => ?_)
  · refine lv_goto (tgt := 2278) hx hb dL_law_1559 (by decide) ?_
    exact hnext S2 H locs ls _ _ (by omega) (by omega) hd hR2 (lv_sbs hl (fun q hq => List.mem_cons_of_mem _ (List.mem_cons_of_mem _ hq)))
  · have e5 := e4 ck
    refine lv_aload_n hx hb dL_law_1547 rfl (lv_at hl 6 rfl) ?_
    refine lv_iconst hx hb dL_law_1548 rfl ?_
    refine R_lald C hd dL_law_1549 ?_
    refine lv_iload hx hb dL_law_1550 (lv_at hl 0 rfl) ?_
    refine lv_i2l hx hb dL_law_1552 rfl ?_
    refine W.lcmp hx hb dL_law_1553 ?_
    rw [show (S2 186 0).toInt64 = bb.toInt64 by rw [e5]; rfl, lcmp_eq]
    refine lv_if_eq (tgt := 1559) hx hb dL_law_1554 (by decide) (fun _ => ?_) (fun q => absurd rfl q)
    refine lv_goto (tgt := 2278) hx hb dL_law_1559 (by decide) ?_
    exact hnext S2 H locs ls _ _ (by omega) (by omega) hd hR2 (lv_sbs hl (fun q hq => List.mem_cons_of_mem _ (List.mem_cons_of_mem _ hq)))
set_option maxHeartbeats 4000000 in
set_option maxRecDepth 20000 in
theorem lc_common (C : Cx p s m #[.ref b] meth c cL_law 7 RL G) (hst : l.stackTraces = false) (hX : va_X b L xs s s.heap) (hbl : b < s.heap.size) (hbA : ¬ Ab G b) (hi : 6 * i + 5 < L) (hL : L ≤ 3072) (hd : Dy G S s H locs) (hR : Rel S) (hl : lv_has ls 7 [(4, .int (nI (6 * i))), (0, .ref b), (1, .ref (gR G 0)), (2, .ref (gR G 142)), (3, .ref (gR G 186))]) (hB : cells + 20 ≤ 601024 ∧ slots + 120 ≤ 7293034) (hnext : ∀ (S : St) (H : Heap) (locs : List Loc) (ls : Array Slot) (k n : Nat), k ≤ cells + 20 → n ≤ slots + 120 → Dy G S s H locs → Rel S → lv_has ls 7 [(4, .int (nI (6 * i))), (0, .ref b), (1, .ref (gR G 0)), (2, .ref (gR G 142)), (3, .ref (gR G 186))] → W p l e room_1 s m #[.ref b] below meth c H locs k n Q (F0 m 2278 ls [])) : W p l e room_1 s m #[.ref b] below meth c H locs cells slots Q (F0 m 1562 ls []) := by
  have hx := C.1.1
  have hb := C.1.2.1
  obtain ⟨k, S1, bb, S2, e1, e2, hR2, e3, e4⟩ := useC (A_common (nX := 1) (xs (6 * i + 1)) (xs (6 * i + 2))) (some 1) none false (Or.inl rfl) (Or.inr ⟨rfl, no2 (fun _ => A_common (xs (6 * i + 1)) (xs (6 * i + 2)))⟩) (by decide) (fun _ _ _ h => n6_fX10_common rfl _ h) hR
  refine lv_aload_n hx hb dL_law_1562 rfl (lv_at hl 2 rfl) ?_
  refine R_scr (k := 1) C hd hX hbl hbA (lv_at hl 1 rfl) (lv_at hl 0 rfl) hi hL (by decide) rfl dL_law_1563 dL_law_1564 dL_law_1566 dL_law_1567 dL_law_1568 ?_
  refine R_scr (k := 2) C hd hX hbl hbA (lv_at hl 1 rfl) (lv_at hl 0 rfl) hi hL (by decide) rfl dL_law_1569 dL_law_1570 dL_law_1572 dL_law_1573 dL_law_1574 ?_
  refine lv_aload_n hx hb dL_law_1575 rfl (lv_at hl 4 rfl) ?_
  refine R_cHi (rest := []) (As := [.ref (gR G 0), .int (xs (6 * i + 1)), .int (xs (6 * i + 2)), .ref (gR G 186)]) C hd (ccL_common l G hst e1) kH_186 hl.1 ⟨by decide, by decide⟩ rfl rfl (Nat.le_of_ble_eq_true rfl) dL_law_1576 (lfit hB (by decide) (by decide)) (fun H locs hd => ?_)
  refine lv_istore hx hb dL_law_1579 hl (by decide) rfl (fun ls hl => ?_)
  refine lv_aload_n hx hb dL_law_1581 rfl (lv_at hl 4 rfl) ?_
  refine R_scr (k := 1) C hd hX hbl hbA (lv_at hl 2 rfl) (lv_at hl 1 rfl) hi hL (by decide) rfl dL_law_1582 dL_law_1583 dL_law_1585 dL_law_1586 dL_law_1587 ?_
  refine R_scr (k := 2) C hd hX hbl hbA (lv_at hl 2 rfl) (lv_at hl 1 rfl) hi hL (by decide) rfl dL_law_1588 dL_law_1589 dL_law_1591 dL_law_1592 dL_law_1593 ?_
  refine R_cVi (rest := []) (As := [.int (xs (6 * i + 1)), .int (xs (6 * i + 2))]) C hd (ccX10_common l G e2) kL_188 rfl (by decide) (rfl : kd 142 = 10) hl.1 ⟨by decide, by decide⟩ rfl rfl (Nat.le_of_ble_eq_true rfl) dL_law_1594 (lfit2 hB (by decide) (by decide)) (fun H locs hd => ?_)
  refine lv_istore hx hb dL_law_1597 hl (by decide) rfl (fun ls hl => ?_)
  refine lv_aload_n hx hb dL_law_1599 rfl (lv_at hl 5 rfl) ?_
  refine R_cVi (rest := []) (As := []) C hd (ccX10_thrown l G rfl) kL_117 rfl (by decide) (rfl : kd 142 = 10) hl.1 ⟨by decide, by decide⟩ rfl rfl (Nat.le_of_ble_eq_true rfl) dL_law_1600 (lfit2 hB (by decide) (by decide)) (fun H locs hd => ?_)
  refine lv_iload hx hb dL_law_1603 (lv_at hl 1 rfl) ?_
  refine lv_icmp_eq (tgt := 1610) hx hb dL_law_1605 (by decide) (fun _ => ?_) (fun q => absurd e3 q)
  refine lv_iload hx hb dL_law_1610 (lv_at hl 1 rfl) ?_
  refine lv_if_ne (tgt := 1627) hx hb dL_law_1612 (by decide) (fun _ => ?_) (fun ck => ?_)
  · refine lv_goto (tgt := 2278) hx hb dL_law_1627 (by decide) ?_
    exact hnext S2 H locs ls _ _ (by omega) (by omega) hd hR2 (lv_sbs hl (fun q hq => List.mem_cons_of_mem _ (List.mem_cons_of_mem _ hq)))
  · have e5 := e4 ck
    refine lv_aload_n hx hb dL_law_1615 rfl (lv_at hl 6 rfl) ?_
    refine lv_iconst hx hb dL_law_1616 rfl ?_
    refine R_lald C hd dL_law_1617 ?_
    refine lv_iload hx hb dL_law_1618 (lv_at hl 0 rfl) ?_
    refine lv_i2l hx hb dL_law_1620 rfl ?_
    refine W.lcmp hx hb dL_law_1621 ?_
    rw [show (S2 186 0).toInt64 = bb.toInt64 by rw [e5]; rfl, lcmp_eq]
    refine lv_if_eq (tgt := 1627) hx hb dL_law_1622 (by decide) (fun _ => ?_) (fun q => absurd rfl q)
    refine lv_goto (tgt := 2278) hx hb dL_law_1627 (by decide) ?_
    exact hnext S2 H locs ls _ _ (by omega) (by omega) hd hR2 (lv_sbs hl (fun q hq => List.mem_cons_of_mem _ (List.mem_cons_of_mem _ hq)))
set_option maxHeartbeats 4000000 in
set_option maxRecDepth 20000 in
theorem lc_nearest (C : Cx p s m #[.ref b] meth c cL_law 7 RL G) (hst : l.stackTraces = false) (hX : va_X b L xs s s.heap) (hbl : b < s.heap.size) (hbA : ¬ Ab G b) (hi : 6 * i + 5 < L) (hL : L ≤ 3072) (hd : Dy G S s H locs) (hR : Rel S) (hl : lv_has ls 7 [(4, .int (nI (6 * i))), (0, .ref b), (1, .ref (gR G 0)), (2, .ref (gR G 142)), (3, .ref (gR G 186))]) (hB : cells + 20 ≤ 601024 ∧ slots + 120 ≤ 7293034) (hnext : ∀ (S : St) (H : Heap) (locs : List Loc) (ls : Array Slot) (k n : Nat), k ≤ cells + 20 → n ≤ slots + 120 → Dy G S s H locs → Rel S → lv_has ls 7 [(4, .int (nI (6 * i))), (0, .ref b), (1, .ref (gR G 0)), (2, .ref (gR G 142)), (3, .ref (gR G 186))] → W p l e room_1 s m #[.ref b] below meth c H locs k n Q (F0 m 2278 ls [])) : W p l e room_1 s m #[.ref b] below meth c H locs cells slots Q (F0 m 1630 ls []) := by
  have hx := C.1.1
  have hb := C.1.2.1
  obtain ⟨r, S1, S2, e1, e2, hR2⟩ := A_nearest  S hR
  refine lv_aload_n hx hb dL_law_1630 rfl (lv_at hl 2 rfl) ?_
  refine R_cVi (rest := []) (As := []) C hd (ccX9_nearest l G e1) kL_189 rfl (by decide) (rfl : kd 0 = 9) hl.1 ⟨by decide, by decide⟩ rfl rfl (Nat.le_of_ble_eq_true rfl) dL_law_1631 ⟨Nat.le_trans (Nat.le_add_right cells 20) hB.1, Nat.le_trans (Nat.le_add_right slots 120) hB.2⟩ (fun H locs hd => ?_)
  refine lv_aload_n hx hb dL_law_1634 rfl (lv_at hl 3 rfl) ?_
  refine R_cVi (rest := [.int r]) (As := []) C hd (ccX10_nearest l G e2) kL_192 rfl (by decide) (rfl : kd 142 = 10) hl.1 ⟨by decide, by decide⟩ rfl rfl (Nat.le_of_ble_eq_true rfl) dL_law_1635 ⟨Nat.le_trans (Nat.le_add_right cells 20) hB.1, Nat.le_trans (Nat.le_add_right slots 120) hB.2⟩ (fun H locs hd => ?_)
  refine lv_icmp_eq (tgt := 2278) hx hb dL_law_1638 (by decide) (fun _ => ?_) (fun q => absurd rfl q)
  exact hnext S2 H locs ls _ _ (by omega) (by omega) hd hR2 hl
end LC
