/-! the law's rows, 2 -/
theorem dL_law_1487 : decode cL_law 1487 = .ok (.iaload, 1) := dec_w [0x2e] (pc9 (k := 1472) (j := 15) lwD_23 rfl) (by decide +kernel) rfl
theorem dL_law_1488 : decode cL_law 1488 = .ok (.aload_n 0, 1) := dec_w [0x2a] (pc9 (k := 1472) (j := 16) lwD_23 rfl) (by decide +kernel) rfl
theorem dL_law_1489 : decode cL_law 1489 = .ok (.iload 5, 2) := dec_w [0x15, 0x05] (pc9 (k := 1472) (j := 17) lwD_23 rfl) (by decide +kernel) rfl
theorem dL_law_1491 : decode cL_law 1491 = .ok (.iconst 3, 1) := dec_w [0x06] (pc9 (k := 1472) (j := 19) lwD_23 rfl) (by decide +kernel) rfl
theorem dL_law_1492 : decode cL_law 1492 = .ok (.iadd, 1) := dec_w [0x60] (pc9 (k := 1472) (j := 20) lwD_23 rfl) (by decide +kernel) rfl
theorem dL_law_1493 : decode cL_law 1493 = .ok (.iaload, 1) := dec_w [0x2e] (pc9 (k := 1472) (j := 21) lwD_23 rfl) (by decide +kernel) rfl
theorem dL_law_1494 : decode cL_law 1494 = .ok (.invokevirtual 294, 3) := dec_w [0xb6, 0x01, 0x26] (pc9 (k := 1472) (j := 22) lwD_23 rfl) (by decide +kernel) rfl
theorem dL_law_1497 : decode cL_law 1497 = .ok (.istore 7, 2) := dec_w [0x36, 0x07] (pc9 (k := 1472) (j := 25) lwD_23 rfl) (by decide +kernel) rfl
theorem dL_law_1499 : decode cL_law 1499 = .ok (.goto 1225, 3) := dec_w [0xa7, 0x04, 0xc9] (pc9 (k := 1472) (j := 27) lwD_23 rfl) (by decide +kernel) rfl
theorem dL_law_1502 : decode cL_law 1502 = .ok (.aload_n 1, 1) := dec_w [0x2b] (pc9 (k := 1472) (j := 30) lwD_23 rfl) (by decide +kernel) rfl
theorem dL_law_1503 : decode cL_law 1503 = .ok (.aload_n 0, 1) := dec_w [0x2a] (pc9 (k := 1472) (j := 31) lwD_23 rfl) (by decide +kernel) rfl
theorem dL_law_1504 : decode cL_law 1504 = .ok (.iload 5, 2) := dec_w [0x15, 0x05] (pc9 (k := 1472) (j := 32) lwD_23 rfl) (by decide +kernel) rfl
theorem dL_law_1506 : decode cL_law 1506 = .ok (.iconst 1, 1) := dec_w [0x04] (pc9 (k := 1472) (j := 34) lwD_23 rfl) (by decide +kernel) rfl
theorem dL_law_1507 : decode cL_law 1507 = .ok (.iadd, 1) := dec_w [0x60] (pc9 (k := 1472) (j := 35) lwD_23 rfl) (by decide +kernel) rfl
theorem dL_law_1508 : decode cL_law 1508 = .ok (.iaload, 1) := dec_w [0x2e] (pc9 (k := 1472) (j := 36) lwD_23 rfl) (by decide +kernel) rfl
theorem dL_law_1509 : decode cL_law 1509 = .ok (.aload_n 3, 1) := dec_w [0x2d] (pc9 (k := 1472) (j := 37) lwD_23 rfl) (by decide +kernel) rfl
theorem dL_law_1510 : decode cL_law 1510 = .ok (.invokestatic 295, 3) := dec_w [0xb8, 0x01, 0x27] (pc9 (k := 1472) (j := 38) lwD_23 rfl) (by decide +kernel) rfl
theorem dL_law_1513 : decode cL_law 1513 = .ok (.istore 6, 2) := dec_w [0x36, 0x06] (pc9 (k := 1472) (j := 41) lwD_23 rfl) (by decide +kernel) rfl
theorem dL_law_1515 : decode cL_law 1515 = .ok (.aload_n 2, 1) := dec_w [0x2c] (pc9 (k := 1472) (j := 43) lwD_23 rfl) (by decide +kernel) rfl
theorem dL_law_1516 : decode cL_law 1516 = .ok (.aload_n 0, 1) := dec_w [0x2a] (pc9 (k := 1472) (j := 44) lwD_23 rfl) (by decide +kernel) rfl
theorem dL_law_1517 : decode cL_law 1517 = .ok (.iload 5, 2) := dec_w [0x15, 0x05] (pc9 (k := 1472) (j := 45) lwD_23 rfl) (by decide +kernel) rfl
theorem dL_law_1519 : decode cL_law 1519 = .ok (.iconst 1, 1) := dec_w [0x04] (pc9 (k := 1472) (j := 47) lwD_23 rfl) (by decide +kernel) rfl
theorem dL_law_1520 : decode cL_law 1520 = .ok (.iadd, 1) := dec_w [0x60] (pc9 (k := 1472) (j := 48) lwD_23 rfl) (by decide +kernel) rfl
theorem dL_law_1521 : decode cL_law 1521 = .ok (.iaload, 1) := dec_w [0x2e] (pc9 (k := 1472) (j := 49) lwD_23 rfl) (by decide +kernel) rfl
theorem dL_law_1522 : decode cL_law 1522 = .ok (.invokevirtual 297, 3) := dec_w [0xb6, 0x01, 0x29] (pc9 (k := 1472) (j := 50) lwD_23 rfl) (by decide +kernel) rfl
theorem dL_law_1525 : decode cL_law 1525 = .ok (.istore 7, 2) := dec_w [0x36, 0x07] (pc9 (k := 1472) (j := 53) lwD_23 rfl) (by decide +kernel) rfl
theorem dL_law_1527 : decode cL_law 1527 = .ok (.goto 1197, 3) := dec_w [0xa7, 0x04, 0xad] (pc9 (k := 1472) (j := 55) lwD_23 rfl) (by decide +kernel) rfl
theorem dL_law_1530 : decode cL_law 1530 = .ok (.aload_n 1, 1) := dec_w [0x2b] (pc9 (k := 1472) (j := 58) lwD_23 rfl) (by decide +kernel) rfl
theorem dL_law_1531 : decode cL_law 1531 = .ok (.aload_n 0, 1) := dec_w [0x2a] (pc9 (k := 1472) (j := 59) lwD_23 rfl) (by decide +kernel) rfl
theorem dL_law_1532 : decode cL_law 1532 = .ok (.iload 5, 2) := dec_w [0x15, 0x05] (pc9 (k := 1472) (j := 60) lwD_23 rfl) (by decide +kernel) rfl
theorem dL_law_1534 : decode cL_law 1534 = .ok (.iconst 1, 1) := dec_w [0x04] (pc9 (k := 1472) (j := 62) lwD_23 rfl) (by decide +kernel) rfl
theorem dL_law_1535 : decode cL_law 1535 = .ok (.iadd, 1) := dec_w [0x60] (pc9 (k := 1472) (j := 63) lwD_23 rfl) (by decide +kernel) rfl
theorem dL_law_1536 : decode cL_law 1536 = .ok (.iaload, 1) := dec_w [0x2e] (pc9 (k := 1536) (j := 0) lwD_24 rfl) (by decide +kernel) rfl
theorem dL_law_1537 : decode cL_law 1537 = .ok (.aload_n 3, 1) := dec_w [0x2d] (pc9 (k := 1536) (j := 1) lwD_24 rfl) (by decide +kernel) rfl
theorem dL_law_1538 : decode cL_law 1538 = .ok (.invokestatic 298, 3) := dec_w [0xb8, 0x01, 0x2a] (pc9 (k := 1536) (j := 2) lwD_24 rfl) (by decide +kernel) rfl
theorem dL_law_1541 : decode cL_law 1541 = .ok (.istore 6, 2) := dec_w [0x36, 0x06] (pc9 (k := 1536) (j := 5) lwD_24 rfl) (by decide +kernel) rfl
theorem dL_law_1543 : decode cL_law 1543 = .ok (.aload_n 2, 1) := dec_w [0x2c] (pc9 (k := 1536) (j := 7) lwD_24 rfl) (by decide +kernel) rfl
theorem dL_law_1544 : decode cL_law 1544 = .ok (.aload_n 0, 1) := dec_w [0x2a] (pc9 (k := 1536) (j := 8) lwD_24 rfl) (by decide +kernel) rfl
theorem dL_law_1545 : decode cL_law 1545 = .ok (.iload 5, 2) := dec_w [0x15, 0x05] (pc9 (k := 1536) (j := 9) lwD_24 rfl) (by decide +kernel) rfl
theorem dL_law_1547 : decode cL_law 1547 = .ok (.iconst 1, 1) := dec_w [0x04] (pc9 (k := 1536) (j := 11) lwD_24 rfl) (by decide +kernel) rfl
theorem dL_law_1548 : decode cL_law 1548 = .ok (.iadd, 1) := dec_w [0x60] (pc9 (k := 1536) (j := 12) lwD_24 rfl) (by decide +kernel) rfl
theorem dL_law_1549 : decode cL_law 1549 = .ok (.iaload, 1) := dec_w [0x2e] (pc9 (k := 1536) (j := 13) lwD_24 rfl) (by decide +kernel) rfl
theorem dL_law_1550 : decode cL_law 1550 = .ok (.invokevirtual 300, 3) := dec_w [0xb6, 0x01, 0x2c] (pc9 (k := 1536) (j := 14) lwD_24 rfl) (by decide +kernel) rfl
theorem dL_law_1553 : decode cL_law 1553 = .ok (.istore 7, 2) := dec_w [0x36, 0x07] (pc9 (k := 1536) (j := 17) lwD_24 rfl) (by decide +kernel) rfl
theorem dL_law_1555 : decode cL_law 1555 = .ok (.goto 1169, 3) := dec_w [0xa7, 0x04, 0x91] (pc9 (k := 1536) (j := 19) lwD_24 rfl) (by decide +kernel) rfl
theorem dL_law_1558 : decode cL_law 1558 = .ok (.aload_n 1, 1) := dec_w [0x2b] (pc9 (k := 1536) (j := 22) lwD_24 rfl) (by decide +kernel) rfl
theorem dL_law_1559 : decode cL_law 1559 = .ok (.aload_n 0, 1) := dec_w [0x2a] (pc9 (k := 1536) (j := 23) lwD_24 rfl) (by decide +kernel) rfl
theorem dL_law_1560 : decode cL_law 1560 = .ok (.iload 5, 2) := dec_w [0x15, 0x05] (pc9 (k := 1536) (j := 24) lwD_24 rfl) (by decide +kernel) rfl
theorem dL_law_1562 : decode cL_law 1562 = .ok (.iconst 1, 1) := dec_w [0x04] (pc9 (k := 1536) (j := 26) lwD_24 rfl) (by decide +kernel) rfl
theorem dL_law_1563 : decode cL_law 1563 = .ok (.iadd, 1) := dec_w [0x60] (pc9 (k := 1536) (j := 27) lwD_24 rfl) (by decide +kernel) rfl
theorem dL_law_1564 : decode cL_law 1564 = .ok (.iaload, 1) := dec_w [0x2e] (pc9 (k := 1536) (j := 28) lwD_24 rfl) (by decide +kernel) rfl
theorem dL_law_1565 : decode cL_law 1565 = .ok (.aload_n 3, 1) := dec_w [0x2d] (pc9 (k := 1536) (j := 29) lwD_24 rfl) (by decide +kernel) rfl
theorem dL_law_1566 : decode cL_law 1566 = .ok (.invokestatic 301, 3) := dec_w [0xb8, 0x01, 0x2d] (pc9 (k := 1536) (j := 30) lwD_24 rfl) (by decide +kernel) rfl
theorem dL_law_1569 : decode cL_law 1569 = .ok (.istore 6, 2) := dec_w [0x36, 0x06] (pc9 (k := 1536) (j := 33) lwD_24 rfl) (by decide +kernel) rfl
theorem dL_law_1571 : decode cL_law 1571 = .ok (.aload_n 2, 1) := dec_w [0x2c] (pc9 (k := 1536) (j := 35) lwD_24 rfl) (by decide +kernel) rfl
theorem dL_law_1572 : decode cL_law 1572 = .ok (.aload_n 0, 1) := dec_w [0x2a] (pc9 (k := 1536) (j := 36) lwD_24 rfl) (by decide +kernel) rfl
theorem dL_law_1573 : decode cL_law 1573 = .ok (.iload 5, 2) := dec_w [0x15, 0x05] (pc9 (k := 1536) (j := 37) lwD_24 rfl) (by decide +kernel) rfl
theorem dL_law_1575 : decode cL_law 1575 = .ok (.iconst 1, 1) := dec_w [0x04] (pc9 (k := 1536) (j := 39) lwD_24 rfl) (by decide +kernel) rfl
theorem dL_law_1576 : decode cL_law 1576 = .ok (.iadd, 1) := dec_w [0x60] (pc9 (k := 1536) (j := 40) lwD_24 rfl) (by decide +kernel) rfl
theorem dL_law_1577 : decode cL_law 1577 = .ok (.iaload, 1) := dec_w [0x2e] (pc9 (k := 1536) (j := 41) lwD_24 rfl) (by decide +kernel) rfl
theorem dL_law_1578 : decode cL_law 1578 = .ok (.invokevirtual 303, 3) := dec_w [0xb6, 0x01, 0x2f] (pc9 (k := 1536) (j := 42) lwD_24 rfl) (by decide +kernel) rfl
theorem dL_law_1581 : decode cL_law 1581 = .ok (.istore 7, 2) := dec_w [0x36, 0x07] (pc9 (k := 1536) (j := 45) lwD_24 rfl) (by decide +kernel) rfl
theorem dL_law_1583 : decode cL_law 1583 = .ok (.goto 1141, 3) := dec_w [0xa7, 0x04, 0x75] (pc9 (k := 1536) (j := 47) lwD_24 rfl) (by decide +kernel) rfl
theorem dL_law_1586 : decode cL_law 1586 = .ok (.aload_n 1, 1) := dec_w [0x2b] (pc9 (k := 1536) (j := 50) lwD_24 rfl) (by decide +kernel) rfl
theorem dL_law_1587 : decode cL_law 1587 = .ok (.aload_n 0, 1) := dec_w [0x2a] (pc9 (k := 1536) (j := 51) lwD_24 rfl) (by decide +kernel) rfl
theorem dL_law_1588 : decode cL_law 1588 = .ok (.iload 5, 2) := dec_w [0x15, 0x05] (pc9 (k := 1536) (j := 52) lwD_24 rfl) (by decide +kernel) rfl
theorem dL_law_1590 : decode cL_law 1590 = .ok (.iconst 1, 1) := dec_w [0x04] (pc9 (k := 1536) (j := 54) lwD_24 rfl) (by decide +kernel) rfl
theorem dL_law_1591 : decode cL_law 1591 = .ok (.iadd, 1) := dec_w [0x60] (pc9 (k := 1536) (j := 55) lwD_24 rfl) (by decide +kernel) rfl
theorem dL_law_1592 : decode cL_law 1592 = .ok (.iaload, 1) := dec_w [0x2e] (pc9 (k := 1536) (j := 56) lwD_24 rfl) (by decide +kernel) rfl
theorem dL_law_1593 : decode cL_law 1593 = .ok (.aload_n 3, 1) := dec_w [0x2d] (pc9 (k := 1536) (j := 57) lwD_24 rfl) (by decide +kernel) rfl
theorem dL_law_1594 : decode cL_law 1594 = .ok (.invokestatic 304, 3) := dec_w [0xb8, 0x01, 0x30] (pc9 (k := 1536) (j := 58) lwD_24 rfl) (by decide +kernel) rfl
theorem dL_law_1597 : decode cL_law 1597 = .ok (.istore 6, 2) := dec_w [0x36, 0x06] (pc9 (k := 1536) (j := 61) lwD_24 rfl) (by decide +kernel) rfl
theorem dL_law_1599 : decode cL_law 1599 = .ok (.aload_n 2, 1) := dec_w [0x2c] (pc9 (k := 1536) (j := 63) lwD_24 rfl) (by decide +kernel) rfl
theorem dL_law_1600 : decode cL_law 1600 = .ok (.aload_n 0, 1) := dec_w [0x2a] (pc9 (k := 1600) (j := 0) lwD_25 rfl) (by decide +kernel) rfl
theorem dL_law_1601 : decode cL_law 1601 = .ok (.iload 5, 2) := dec_w [0x15, 0x05] (pc9 (k := 1600) (j := 1) lwD_25 rfl) (by decide +kernel) rfl
theorem dL_law_1603 : decode cL_law 1603 = .ok (.iconst 1, 1) := dec_w [0x04] (pc9 (k := 1600) (j := 3) lwD_25 rfl) (by decide +kernel) rfl
theorem dL_law_1604 : decode cL_law 1604 = .ok (.iadd, 1) := dec_w [0x60] (pc9 (k := 1600) (j := 4) lwD_25 rfl) (by decide +kernel) rfl
theorem dL_law_1605 : decode cL_law 1605 = .ok (.iaload, 1) := dec_w [0x2e] (pc9 (k := 1600) (j := 5) lwD_25 rfl) (by decide +kernel) rfl
theorem dL_law_1606 : decode cL_law 1606 = .ok (.invokevirtual 306, 3) := dec_w [0xb6, 0x01, 0x32] (pc9 (k := 1600) (j := 6) lwD_25 rfl) (by decide +kernel) rfl
theorem dL_law_1609 : decode cL_law 1609 = .ok (.istore 7, 2) := dec_w [0x36, 0x07] (pc9 (k := 1600) (j := 9) lwD_25 rfl) (by decide +kernel) rfl
theorem dL_law_1611 : decode cL_law 1611 = .ok (.goto 1113, 3) := dec_w [0xa7, 0x04, 0x59] (pc9 (k := 1600) (j := 11) lwD_25 rfl) (by decide +kernel) rfl
theorem dL_law_1614 : decode cL_law 1614 = .ok (.aload_n 1, 1) := dec_w [0x2b] (pc9 (k := 1600) (j := 14) lwD_25 rfl) (by decide +kernel) rfl
theorem dL_law_1615 : decode cL_law 1615 = .ok (.aload_n 0, 1) := dec_w [0x2a] (pc9 (k := 1600) (j := 15) lwD_25 rfl) (by decide +kernel) rfl
theorem dL_law_1616 : decode cL_law 1616 = .ok (.iload 5, 2) := dec_w [0x15, 0x05] (pc9 (k := 1600) (j := 16) lwD_25 rfl) (by decide +kernel) rfl
theorem dL_law_1618 : decode cL_law 1618 = .ok (.iconst 1, 1) := dec_w [0x04] (pc9 (k := 1600) (j := 18) lwD_25 rfl) (by decide +kernel) rfl
theorem dL_law_1619 : decode cL_law 1619 = .ok (.iadd, 1) := dec_w [0x60] (pc9 (k := 1600) (j := 19) lwD_25 rfl) (by decide +kernel) rfl
theorem dL_law_1620 : decode cL_law 1620 = .ok (.iaload, 1) := dec_w [0x2e] (pc9 (k := 1600) (j := 20) lwD_25 rfl) (by decide +kernel) rfl
theorem dL_law_1621 : decode cL_law 1621 = .ok (.aload_n 0, 1) := dec_w [0x2a] (pc9 (k := 1600) (j := 21) lwD_25 rfl) (by decide +kernel) rfl
theorem dL_law_1622 : decode cL_law 1622 = .ok (.iload 5, 2) := dec_w [0x15, 0x05] (pc9 (k := 1600) (j := 22) lwD_25 rfl) (by decide +kernel) rfl
theorem dL_law_1624 : decode cL_law 1624 = .ok (.iconst 2, 1) := dec_w [0x05] (pc9 (k := 1600) (j := 24) lwD_25 rfl) (by decide +kernel) rfl
theorem dL_law_1625 : decode cL_law 1625 = .ok (.iadd, 1) := dec_w [0x60] (pc9 (k := 1600) (j := 25) lwD_25 rfl) (by decide +kernel) rfl
theorem dL_law_1626 : decode cL_law 1626 = .ok (.iaload, 1) := dec_w [0x2e] (pc9 (k := 1600) (j := 26) lwD_25 rfl) (by decide +kernel) rfl
theorem dL_law_1627 : decode cL_law 1627 = .ok (.i2l, 1) := dec_w [0x85] (pc9 (k := 1600) (j := 27) lwD_25 rfl) (by decide +kernel) rfl
theorem dL_law_1628 : decode cL_law 1628 = .ok (.bipush 32, 2) := dec_w [0x10, 0x20] (pc9 (k := 1600) (j := 28) lwD_25 rfl) (by decide +kernel) rfl
theorem dL_law_1630 : decode cL_law 1630 = .ok (.lshl, 1) := dec_w [0x79] (pc9 (k := 1600) (j := 30) lwD_25 rfl) (by decide +kernel) rfl
theorem dL_law_1631 : decode cL_law 1631 = .ok (.aload_n 0, 1) := dec_w [0x2a] (pc9 (k := 1600) (j := 31) lwD_25 rfl) (by decide +kernel) rfl
theorem dL_law_1632 : decode cL_law 1632 = .ok (.iload 5, 2) := dec_w [0x15, 0x05] (pc9 (k := 1600) (j := 32) lwD_25 rfl) (by decide +kernel) rfl
theorem dL_law_1634 : decode cL_law 1634 = .ok (.iconst 3, 1) := dec_w [0x06] (pc9 (k := 1600) (j := 34) lwD_25 rfl) (by decide +kernel) rfl
theorem dL_law_1635 : decode cL_law 1635 = .ok (.iadd, 1) := dec_w [0x60] (pc9 (k := 1600) (j := 35) lwD_25 rfl) (by decide +kernel) rfl
theorem dL_law_1636 : decode cL_law 1636 = .ok (.iaload, 1) := dec_w [0x2e] (pc9 (k := 1600) (j := 36) lwD_25 rfl) (by decide +kernel) rfl
theorem dL_law_1637 : decode cL_law 1637 = .ok (.i2l, 1) := dec_w [0x85] (pc9 (k := 1600) (j := 37) lwD_25 rfl) (by decide +kernel) rfl
theorem dL_law_1638 : decode cL_law 1638 = .ok (.ldc2_w 186, 3) := dec_w [0x14, 0x00, 0xba] (pc9 (k := 1600) (j := 38) lwD_25 rfl) (by decide +kernel) rfl
theorem dL_law_1641 : decode cL_law 1641 = .ok (.land, 1) := dec_w [0x7f] (pc9 (k := 1600) (j := 41) lwD_25 rfl) (by decide +kernel) rfl
theorem dL_law_1642 : decode cL_law 1642 = .ok (.lor, 1) := dec_w [0x81] (pc9 (k := 1600) (j := 42) lwD_25 rfl) (by decide +kernel) rfl
theorem dL_law_1643 : decode cL_law 1643 = .ok (.aload_n 3, 1) := dec_w [0x2d] (pc9 (k := 1600) (j := 43) lwD_25 rfl) (by decide +kernel) rfl
theorem dL_law_1644 : decode cL_law 1644 = .ok (.invokestatic 307, 3) := dec_w [0xb8, 0x01, 0x33] (pc9 (k := 1600) (j := 44) lwD_25 rfl) (by decide +kernel) rfl
theorem dL_law_1647 : decode cL_law 1647 = .ok (.istore 6, 2) := dec_w [0x36, 0x06] (pc9 (k := 1600) (j := 47) lwD_25 rfl) (by decide +kernel) rfl
theorem dL_law_1649 : decode cL_law 1649 = .ok (.aload_n 2, 1) := dec_w [0x2c] (pc9 (k := 1600) (j := 49) lwD_25 rfl) (by decide +kernel) rfl
theorem dL_law_1650 : decode cL_law 1650 = .ok (.aload_n 0, 1) := dec_w [0x2a] (pc9 (k := 1600) (j := 50) lwD_25 rfl) (by decide +kernel) rfl
theorem dL_law_1651 : decode cL_law 1651 = .ok (.iload 5, 2) := dec_w [0x15, 0x05] (pc9 (k := 1600) (j := 51) lwD_25 rfl) (by decide +kernel) rfl
theorem dL_law_1653 : decode cL_law 1653 = .ok (.iconst 1, 1) := dec_w [0x04] (pc9 (k := 1600) (j := 53) lwD_25 rfl) (by decide +kernel) rfl
theorem dL_law_1654 : decode cL_law 1654 = .ok (.iadd, 1) := dec_w [0x60] (pc9 (k := 1600) (j := 54) lwD_25 rfl) (by decide +kernel) rfl
theorem dL_law_1655 : decode cL_law 1655 = .ok (.iaload, 1) := dec_w [0x2e] (pc9 (k := 1600) (j := 55) lwD_25 rfl) (by decide +kernel) rfl
theorem dL_law_1656 : decode cL_law 1656 = .ok (.aload_n 0, 1) := dec_w [0x2a] (pc9 (k := 1600) (j := 56) lwD_25 rfl) (by decide +kernel) rfl
theorem dL_law_1657 : decode cL_law 1657 = .ok (.iload 5, 2) := dec_w [0x15, 0x05] (pc9 (k := 1600) (j := 57) lwD_25 rfl) (by decide +kernel) rfl
theorem dL_law_1659 : decode cL_law 1659 = .ok (.iconst 2, 1) := dec_w [0x05] (pc9 (k := 1600) (j := 59) lwD_25 rfl) (by decide +kernel) rfl
theorem dL_law_1660 : decode cL_law 1660 = .ok (.iadd, 1) := dec_w [0x60] (pc9 (k := 1600) (j := 60) lwD_25 rfl) (by decide +kernel) rfl
theorem dL_law_1661 : decode cL_law 1661 = .ok (.iaload, 1) := dec_w [0x2e] (pc9 (k := 1600) (j := 61) lwD_25 rfl) (by decide +kernel) rfl
theorem dL_law_1662 : decode cL_law 1662 = .ok (.i2l, 1) := dec_w [0x85] (pc9 (k := 1600) (j := 62) lwD_25 rfl) (by decide +kernel) rfl
theorem dL_law_1663 : decode cL_law 1663 = .ok (.bipush 32, 2) := dec_w [0x10, 0x20] (pc9 (k := 1600) (j := 63) lwD_25 rfl) (by decide +kernel) rfl
theorem dL_law_1665 : decode cL_law 1665 = .ok (.lshl, 1) := dec_w [0x79] (pc9 (k := 1664) (j := 1) lwD_26 rfl) (by decide +kernel) rfl
theorem dL_law_1666 : decode cL_law 1666 = .ok (.aload_n 0, 1) := dec_w [0x2a] (pc9 (k := 1664) (j := 2) lwD_26 rfl) (by decide +kernel) rfl
theorem dL_law_1667 : decode cL_law 1667 = .ok (.iload 5, 2) := dec_w [0x15, 0x05] (pc9 (k := 1664) (j := 3) lwD_26 rfl) (by decide +kernel) rfl
theorem dL_law_1669 : decode cL_law 1669 = .ok (.iconst 3, 1) := dec_w [0x06] (pc9 (k := 1664) (j := 5) lwD_26 rfl) (by decide +kernel) rfl
theorem dL_law_1670 : decode cL_law 1670 = .ok (.iadd, 1) := dec_w [0x60] (pc9 (k := 1664) (j := 6) lwD_26 rfl) (by decide +kernel) rfl
theorem dL_law_1671 : decode cL_law 1671 = .ok (.iaload, 1) := dec_w [0x2e] (pc9 (k := 1664) (j := 7) lwD_26 rfl) (by decide +kernel) rfl
theorem dL_law_1672 : decode cL_law 1672 = .ok (.i2l, 1) := dec_w [0x85] (pc9 (k := 1664) (j := 8) lwD_26 rfl) (by decide +kernel) rfl
theorem dL_law_1673 : decode cL_law 1673 = .ok (.ldc2_w 186, 3) := dec_w [0x14, 0x00, 0xba] (pc9 (k := 1664) (j := 9) lwD_26 rfl) (by decide +kernel) rfl
theorem dL_law_1676 : decode cL_law 1676 = .ok (.land, 1) := dec_w [0x7f] (pc9 (k := 1664) (j := 12) lwD_26 rfl) (by decide +kernel) rfl
theorem dL_law_1677 : decode cL_law 1677 = .ok (.lor, 1) := dec_w [0x81] (pc9 (k := 1664) (j := 13) lwD_26 rfl) (by decide +kernel) rfl
theorem dL_law_1678 : decode cL_law 1678 = .ok (.invokevirtual 309, 3) := dec_w [0xb6, 0x01, 0x35] (pc9 (k := 1664) (j := 14) lwD_26 rfl) (by decide +kernel) rfl
theorem dL_law_1681 : decode cL_law 1681 = .ok (.lstore 7, 2) := dec_w [0x37, 0x07] (pc9 (k := 1664) (j := 17) lwD_26 rfl) (by decide +kernel) rfl
theorem dL_law_1683 : decode cL_law 1683 = .ok (.goto 1041, 3) := dec_w [0xa7, 0x04, 0x11] (pc9 (k := 1664) (j := 19) lwD_26 rfl) (by decide +kernel) rfl
theorem dL_law_1686 : decode cL_law 1686 = .ok (.aload_n 1, 1) := dec_w [0x2b] (pc9 (k := 1664) (j := 22) lwD_26 rfl) (by decide +kernel) rfl
theorem dL_law_1687 : decode cL_law 1687 = .ok (.aload_n 0, 1) := dec_w [0x2a] (pc9 (k := 1664) (j := 23) lwD_26 rfl) (by decide +kernel) rfl
theorem dL_law_1688 : decode cL_law 1688 = .ok (.iload 5, 2) := dec_w [0x15, 0x05] (pc9 (k := 1664) (j := 24) lwD_26 rfl) (by decide +kernel) rfl
theorem dL_law_1690 : decode cL_law 1690 = .ok (.iconst 1, 1) := dec_w [0x04] (pc9 (k := 1664) (j := 26) lwD_26 rfl) (by decide +kernel) rfl
theorem dL_law_1691 : decode cL_law 1691 = .ok (.iadd, 1) := dec_w [0x60] (pc9 (k := 1664) (j := 27) lwD_26 rfl) (by decide +kernel) rfl
theorem dL_law_1692 : decode cL_law 1692 = .ok (.iaload, 1) := dec_w [0x2e] (pc9 (k := 1664) (j := 28) lwD_26 rfl) (by decide +kernel) rfl
theorem dL_law_1693 : decode cL_law 1693 = .ok (.aload_n 0, 1) := dec_w [0x2a] (pc9 (k := 1664) (j := 29) lwD_26 rfl) (by decide +kernel) rfl
theorem dL_law_1694 : decode cL_law 1694 = .ok (.iload 5, 2) := dec_w [0x15, 0x05] (pc9 (k := 1664) (j := 30) lwD_26 rfl) (by decide +kernel) rfl
theorem dL_law_1696 : decode cL_law 1696 = .ok (.iconst 2, 1) := dec_w [0x05] (pc9 (k := 1664) (j := 32) lwD_26 rfl) (by decide +kernel) rfl
theorem dL_law_1697 : decode cL_law 1697 = .ok (.iadd, 1) := dec_w [0x60] (pc9 (k := 1664) (j := 33) lwD_26 rfl) (by decide +kernel) rfl
theorem dL_law_1698 : decode cL_law 1698 = .ok (.iaload, 1) := dec_w [0x2e] (pc9 (k := 1664) (j := 34) lwD_26 rfl) (by decide +kernel) rfl
theorem dL_law_1699 : decode cL_law 1699 = .ok (.i2l, 1) := dec_w [0x85] (pc9 (k := 1664) (j := 35) lwD_26 rfl) (by decide +kernel) rfl
theorem dL_law_1700 : decode cL_law 1700 = .ok (.bipush 32, 2) := dec_w [0x10, 0x20] (pc9 (k := 1664) (j := 36) lwD_26 rfl) (by decide +kernel) rfl
theorem dL_law_1702 : decode cL_law 1702 = .ok (.lshl, 1) := dec_w [0x79] (pc9 (k := 1664) (j := 38) lwD_26 rfl) (by decide +kernel) rfl
theorem dL_law_1703 : decode cL_law 1703 = .ok (.aload_n 0, 1) := dec_w [0x2a] (pc9 (k := 1664) (j := 39) lwD_26 rfl) (by decide +kernel) rfl
theorem dL_law_1704 : decode cL_law 1704 = .ok (.iload 5, 2) := dec_w [0x15, 0x05] (pc9 (k := 1664) (j := 40) lwD_26 rfl) (by decide +kernel) rfl
theorem dL_law_1706 : decode cL_law 1706 = .ok (.iconst 3, 1) := dec_w [0x06] (pc9 (k := 1664) (j := 42) lwD_26 rfl) (by decide +kernel) rfl
theorem dL_law_1707 : decode cL_law 1707 = .ok (.iadd, 1) := dec_w [0x60] (pc9 (k := 1664) (j := 43) lwD_26 rfl) (by decide +kernel) rfl
theorem dL_law_1708 : decode cL_law 1708 = .ok (.iaload, 1) := dec_w [0x2e] (pc9 (k := 1664) (j := 44) lwD_26 rfl) (by decide +kernel) rfl
theorem dL_law_1709 : decode cL_law 1709 = .ok (.i2l, 1) := dec_w [0x85] (pc9 (k := 1664) (j := 45) lwD_26 rfl) (by decide +kernel) rfl
theorem dL_law_1710 : decode cL_law 1710 = .ok (.ldc2_w 186, 3) := dec_w [0x14, 0x00, 0xba] (pc9 (k := 1664) (j := 46) lwD_26 rfl) (by decide +kernel) rfl
theorem dL_law_1713 : decode cL_law 1713 = .ok (.land, 1) := dec_w [0x7f] (pc9 (k := 1664) (j := 49) lwD_26 rfl) (by decide +kernel) rfl
theorem dL_law_1714 : decode cL_law 1714 = .ok (.lor, 1) := dec_w [0x81] (pc9 (k := 1664) (j := 50) lwD_26 rfl) (by decide +kernel) rfl
theorem dL_law_1715 : decode cL_law 1715 = .ok (.aload_n 3, 1) := dec_w [0x2d] (pc9 (k := 1664) (j := 51) lwD_26 rfl) (by decide +kernel) rfl
theorem dL_law_1716 : decode cL_law 1716 = .ok (.invokestatic 310, 3) := dec_w [0xb8, 0x01, 0x36] (pc9 (k := 1664) (j := 52) lwD_26 rfl) (by decide +kernel) rfl
theorem dL_law_1719 : decode cL_law 1719 = .ok (.istore 6, 2) := dec_w [0x36, 0x06] (pc9 (k := 1664) (j := 55) lwD_26 rfl) (by decide +kernel) rfl
theorem dL_law_1721 : decode cL_law 1721 = .ok (.aload_n 2, 1) := dec_w [0x2c] (pc9 (k := 1664) (j := 57) lwD_26 rfl) (by decide +kernel) rfl
theorem dL_law_1722 : decode cL_law 1722 = .ok (.aload_n 0, 1) := dec_w [0x2a] (pc9 (k := 1664) (j := 58) lwD_26 rfl) (by decide +kernel) rfl
theorem dL_law_1723 : decode cL_law 1723 = .ok (.iload 5, 2) := dec_w [0x15, 0x05] (pc9 (k := 1664) (j := 59) lwD_26 rfl) (by decide +kernel) rfl
theorem dL_law_1725 : decode cL_law 1725 = .ok (.iconst 1, 1) := dec_w [0x04] (pc9 (k := 1664) (j := 61) lwD_26 rfl) (by decide +kernel) rfl
theorem dL_law_1726 : decode cL_law 1726 = .ok (.iadd, 1) := dec_w [0x60] (pc9 (k := 1664) (j := 62) lwD_26 rfl) (by decide +kernel) rfl
theorem dL_law_1727 : decode cL_law 1727 = .ok (.iaload, 1) := dec_w [0x2e] (pc9 (k := 1664) (j := 63) lwD_26 rfl) (by decide +kernel) rfl
theorem dL_law_1728 : decode cL_law 1728 = .ok (.aload_n 0, 1) := dec_w [0x2a] (pc9 (k := 1728) (j := 0) lwD_27 rfl) (by decide +kernel) rfl
theorem dL_law_1729 : decode cL_law 1729 = .ok (.iload 5, 2) := dec_w [0x15, 0x05] (pc9 (k := 1728) (j := 1) lwD_27 rfl) (by decide +kernel) rfl
theorem dL_law_1731 : decode cL_law 1731 = .ok (.iconst 2, 1) := dec_w [0x05] (pc9 (k := 1728) (j := 3) lwD_27 rfl) (by decide +kernel) rfl
theorem dL_law_1732 : decode cL_law 1732 = .ok (.iadd, 1) := dec_w [0x60] (pc9 (k := 1728) (j := 4) lwD_27 rfl) (by decide +kernel) rfl
theorem dL_law_1733 : decode cL_law 1733 = .ok (.iaload, 1) := dec_w [0x2e] (pc9 (k := 1728) (j := 5) lwD_27 rfl) (by decide +kernel) rfl
theorem dL_law_1734 : decode cL_law 1734 = .ok (.i2l, 1) := dec_w [0x85] (pc9 (k := 1728) (j := 6) lwD_27 rfl) (by decide +kernel) rfl
theorem dL_law_1735 : decode cL_law 1735 = .ok (.bipush 32, 2) := dec_w [0x10, 0x20] (pc9 (k := 1728) (j := 7) lwD_27 rfl) (by decide +kernel) rfl
theorem dL_law_1737 : decode cL_law 1737 = .ok (.lshl, 1) := dec_w [0x79] (pc9 (k := 1728) (j := 9) lwD_27 rfl) (by decide +kernel) rfl
theorem dL_law_1738 : decode cL_law 1738 = .ok (.aload_n 0, 1) := dec_w [0x2a] (pc9 (k := 1728) (j := 10) lwD_27 rfl) (by decide +kernel) rfl
theorem dL_law_1739 : decode cL_law 1739 = .ok (.iload 5, 2) := dec_w [0x15, 0x05] (pc9 (k := 1728) (j := 11) lwD_27 rfl) (by decide +kernel) rfl
theorem dL_law_1741 : decode cL_law 1741 = .ok (.iconst 3, 1) := dec_w [0x06] (pc9 (k := 1728) (j := 13) lwD_27 rfl) (by decide +kernel) rfl
theorem dL_law_1742 : decode cL_law 1742 = .ok (.iadd, 1) := dec_w [0x60] (pc9 (k := 1728) (j := 14) lwD_27 rfl) (by decide +kernel) rfl
theorem dL_law_1743 : decode cL_law 1743 = .ok (.iaload, 1) := dec_w [0x2e] (pc9 (k := 1728) (j := 15) lwD_27 rfl) (by decide +kernel) rfl
theorem dL_law_1744 : decode cL_law 1744 = .ok (.i2l, 1) := dec_w [0x85] (pc9 (k := 1728) (j := 16) lwD_27 rfl) (by decide +kernel) rfl
theorem dL_law_1745 : decode cL_law 1745 = .ok (.ldc2_w 186, 3) := dec_w [0x14, 0x00, 0xba] (pc9 (k := 1728) (j := 17) lwD_27 rfl) (by decide +kernel) rfl
theorem dL_law_1748 : decode cL_law 1748 = .ok (.land, 1) := dec_w [0x7f] (pc9 (k := 1728) (j := 20) lwD_27 rfl) (by decide +kernel) rfl
theorem dL_law_1749 : decode cL_law 1749 = .ok (.lor, 1) := dec_w [0x81] (pc9 (k := 1728) (j := 21) lwD_27 rfl) (by decide +kernel) rfl
theorem dL_law_1750 : decode cL_law 1750 = .ok (.invokevirtual 312, 3) := dec_w [0xb6, 0x01, 0x38] (pc9 (k := 1728) (j := 22) lwD_27 rfl) (by decide +kernel) rfl
theorem dL_law_1753 : decode cL_law 1753 = .ok (.istore 7, 2) := dec_w [0x36, 0x07] (pc9 (k := 1728) (j := 25) lwD_27 rfl) (by decide +kernel) rfl
theorem dL_law_1755 : decode cL_law 1755 = .ok (.goto 969, 3) := dec_w [0xa7, 0x03, 0xc9] (pc9 (k := 1728) (j := 27) lwD_27 rfl) (by decide +kernel) rfl
theorem dL_law_1758 : decode cL_law 1758 = .ok (.aload_n 1, 1) := dec_w [0x2b] (pc9 (k := 1728) (j := 30) lwD_27 rfl) (by decide +kernel) rfl
theorem dL_law_1759 : decode cL_law 1759 = .ok (.aload_n 0, 1) := dec_w [0x2a] (pc9 (k := 1728) (j := 31) lwD_27 rfl) (by decide +kernel) rfl
theorem dL_law_1760 : decode cL_law 1760 = .ok (.iload 5, 2) := dec_w [0x15, 0x05] (pc9 (k := 1728) (j := 32) lwD_27 rfl) (by decide +kernel) rfl
theorem dL_law_1762 : decode cL_law 1762 = .ok (.iconst 1, 1) := dec_w [0x04] (pc9 (k := 1728) (j := 34) lwD_27 rfl) (by decide +kernel) rfl
theorem dL_law_1763 : decode cL_law 1763 = .ok (.iadd, 1) := dec_w [0x60] (pc9 (k := 1728) (j := 35) lwD_27 rfl) (by decide +kernel) rfl
theorem dL_law_1764 : decode cL_law 1764 = .ok (.iaload, 1) := dec_w [0x2e] (pc9 (k := 1728) (j := 36) lwD_27 rfl) (by decide +kernel) rfl
theorem dL_law_1765 : decode cL_law 1765 = .ok (.aload_n 0, 1) := dec_w [0x2a] (pc9 (k := 1728) (j := 37) lwD_27 rfl) (by decide +kernel) rfl
theorem dL_law_1766 : decode cL_law 1766 = .ok (.iload 5, 2) := dec_w [0x15, 0x05] (pc9 (k := 1728) (j := 38) lwD_27 rfl) (by decide +kernel) rfl
theorem dL_law_1768 : decode cL_law 1768 = .ok (.iconst 2, 1) := dec_w [0x05] (pc9 (k := 1728) (j := 40) lwD_27 rfl) (by decide +kernel) rfl
theorem dL_law_1769 : decode cL_law 1769 = .ok (.iadd, 1) := dec_w [0x60] (pc9 (k := 1728) (j := 41) lwD_27 rfl) (by decide +kernel) rfl
theorem dL_law_1770 : decode cL_law 1770 = .ok (.iaload, 1) := dec_w [0x2e] (pc9 (k := 1728) (j := 42) lwD_27 rfl) (by decide +kernel) rfl
theorem dL_law_1771 : decode cL_law 1771 = .ok (.aload_n 3, 1) := dec_w [0x2d] (pc9 (k := 1728) (j := 43) lwD_27 rfl) (by decide +kernel) rfl
theorem dL_law_1772 : decode cL_law 1772 = .ok (.invokestatic 313, 3) := dec_w [0xb8, 0x01, 0x39] (pc9 (k := 1728) (j := 44) lwD_27 rfl) (by decide +kernel) rfl
theorem dL_law_1775 : decode cL_law 1775 = .ok (.istore 6, 2) := dec_w [0x36, 0x06] (pc9 (k := 1728) (j := 47) lwD_27 rfl) (by decide +kernel) rfl
theorem dL_law_1777 : decode cL_law 1777 = .ok (.aload_n 2, 1) := dec_w [0x2c] (pc9 (k := 1728) (j := 49) lwD_27 rfl) (by decide +kernel) rfl
theorem dL_law_1778 : decode cL_law 1778 = .ok (.aload_n 0, 1) := dec_w [0x2a] (pc9 (k := 1728) (j := 50) lwD_27 rfl) (by decide +kernel) rfl
theorem dL_law_1779 : decode cL_law 1779 = .ok (.iload 5, 2) := dec_w [0x15, 0x05] (pc9 (k := 1728) (j := 51) lwD_27 rfl) (by decide +kernel) rfl
theorem dL_law_1781 : decode cL_law 1781 = .ok (.iconst 1, 1) := dec_w [0x04] (pc9 (k := 1728) (j := 53) lwD_27 rfl) (by decide +kernel) rfl
theorem dL_law_1782 : decode cL_law 1782 = .ok (.iadd, 1) := dec_w [0x60] (pc9 (k := 1728) (j := 54) lwD_27 rfl) (by decide +kernel) rfl
theorem dL_law_1783 : decode cL_law 1783 = .ok (.iaload, 1) := dec_w [0x2e] (pc9 (k := 1728) (j := 55) lwD_27 rfl) (by decide +kernel) rfl
theorem dL_law_1784 : decode cL_law 1784 = .ok (.aload_n 0, 1) := dec_w [0x2a] (pc9 (k := 1728) (j := 56) lwD_27 rfl) (by decide +kernel) rfl
theorem dL_law_1785 : decode cL_law 1785 = .ok (.iload 5, 2) := dec_w [0x15, 0x05] (pc9 (k := 1728) (j := 57) lwD_27 rfl) (by decide +kernel) rfl
theorem dL_law_1787 : decode cL_law 1787 = .ok (.iconst 2, 1) := dec_w [0x05] (pc9 (k := 1728) (j := 59) lwD_27 rfl) (by decide +kernel) rfl
theorem dL_law_1788 : decode cL_law 1788 = .ok (.iadd, 1) := dec_w [0x60] (pc9 (k := 1728) (j := 60) lwD_27 rfl) (by decide +kernel) rfl
theorem dL_law_1789 : decode cL_law 1789 = .ok (.iaload, 1) := dec_w [0x2e] (pc9 (k := 1728) (j := 61) lwD_27 rfl) (by decide +kernel) rfl
theorem dL_law_1790 : decode cL_law 1790 = .ok (.invokevirtual 315, 3) := dec_w [0xb6, 0x01, 0x3b] (pc9 (k := 1728) (j := 62) lwD_27 rfl) (by decide +kernel) rfl
theorem dL_law_1793 : decode cL_law 1793 = .ok (.istore 7, 2) := dec_w [0x36, 0x07] (pc9 (k := 1792) (j := 1) lwD_28 rfl) (by decide +kernel) rfl
theorem dL_law_1795 : decode cL_law 1795 = .ok (.goto 929, 3) := dec_w [0xa7, 0x03, 0xa1] (pc9 (k := 1792) (j := 3) lwD_28 rfl) (by decide +kernel) rfl
theorem dL_law_1798 : decode cL_law 1798 = .ok (.aload_n 1, 1) := dec_w [0x2b] (pc9 (k := 1792) (j := 6) lwD_28 rfl) (by decide +kernel) rfl
theorem dL_law_1799 : decode cL_law 1799 = .ok (.aload_n 0, 1) := dec_w [0x2a] (pc9 (k := 1792) (j := 7) lwD_28 rfl) (by decide +kernel) rfl
theorem dL_law_1800 : decode cL_law 1800 = .ok (.iload 5, 2) := dec_w [0x15, 0x05] (pc9 (k := 1792) (j := 8) lwD_28 rfl) (by decide +kernel) rfl
theorem dL_law_1802 : decode cL_law 1802 = .ok (.iconst 1, 1) := dec_w [0x04] (pc9 (k := 1792) (j := 10) lwD_28 rfl) (by decide +kernel) rfl
theorem dL_law_1803 : decode cL_law 1803 = .ok (.iadd, 1) := dec_w [0x60] (pc9 (k := 1792) (j := 11) lwD_28 rfl) (by decide +kernel) rfl
theorem dL_law_1804 : decode cL_law 1804 = .ok (.iaload, 1) := dec_w [0x2e] (pc9 (k := 1792) (j := 12) lwD_28 rfl) (by decide +kernel) rfl
theorem dL_law_1805 : decode cL_law 1805 = .ok (.aload_n 0, 1) := dec_w [0x2a] (pc9 (k := 1792) (j := 13) lwD_28 rfl) (by decide +kernel) rfl
theorem dL_law_1806 : decode cL_law 1806 = .ok (.iload 5, 2) := dec_w [0x15, 0x05] (pc9 (k := 1792) (j := 14) lwD_28 rfl) (by decide +kernel) rfl
theorem dL_law_1808 : decode cL_law 1808 = .ok (.iconst 2, 1) := dec_w [0x05] (pc9 (k := 1792) (j := 16) lwD_28 rfl) (by decide +kernel) rfl
theorem dL_law_1809 : decode cL_law 1809 = .ok (.iadd, 1) := dec_w [0x60] (pc9 (k := 1792) (j := 17) lwD_28 rfl) (by decide +kernel) rfl
theorem dL_law_1810 : decode cL_law 1810 = .ok (.iaload, 1) := dec_w [0x2e] (pc9 (k := 1792) (j := 18) lwD_28 rfl) (by decide +kernel) rfl
theorem dL_law_1811 : decode cL_law 1811 = .ok (.aload_n 0, 1) := dec_w [0x2a] (pc9 (k := 1792) (j := 19) lwD_28 rfl) (by decide +kernel) rfl
theorem dL_law_1812 : decode cL_law 1812 = .ok (.iload 5, 2) := dec_w [0x15, 0x05] (pc9 (k := 1792) (j := 20) lwD_28 rfl) (by decide +kernel) rfl
theorem dL_law_1814 : decode cL_law 1814 = .ok (.iconst 3, 1) := dec_w [0x06] (pc9 (k := 1792) (j := 22) lwD_28 rfl) (by decide +kernel) rfl
theorem dL_law_1815 : decode cL_law 1815 = .ok (.iadd, 1) := dec_w [0x60] (pc9 (k := 1792) (j := 23) lwD_28 rfl) (by decide +kernel) rfl
theorem dL_law_1816 : decode cL_law 1816 = .ok (.iaload, 1) := dec_w [0x2e] (pc9 (k := 1792) (j := 24) lwD_28 rfl) (by decide +kernel) rfl
theorem dL_law_1817 : decode cL_law 1817 = .ok (.aload_n 0, 1) := dec_w [0x2a] (pc9 (k := 1792) (j := 25) lwD_28 rfl) (by decide +kernel) rfl
theorem dL_law_1818 : decode cL_law 1818 = .ok (.iload 5, 2) := dec_w [0x15, 0x05] (pc9 (k := 1792) (j := 26) lwD_28 rfl) (by decide +kernel) rfl
theorem dL_law_1820 : decode cL_law 1820 = .ok (.iconst 4, 1) := dec_w [0x07] (pc9 (k := 1792) (j := 28) lwD_28 rfl) (by decide +kernel) rfl
theorem dL_law_1821 : decode cL_law 1821 = .ok (.iadd, 1) := dec_w [0x60] (pc9 (k := 1792) (j := 29) lwD_28 rfl) (by decide +kernel) rfl
theorem dL_law_1822 : decode cL_law 1822 = .ok (.iaload, 1) := dec_w [0x2e] (pc9 (k := 1792) (j := 30) lwD_28 rfl) (by decide +kernel) rfl
theorem dL_law_1823 : decode cL_law 1823 = .ok (.ifCond .eq 7, 3) := dec_w [0x99, 0x00, 0x07] (pc9 (k := 1792) (j := 31) lwD_28 rfl) (by decide +kernel) rfl
theorem dL_law_1826 : decode cL_law 1826 = .ok (.iconst 1, 1) := dec_w [0x04] (pc9 (k := 1792) (j := 34) lwD_28 rfl) (by decide +kernel) rfl
theorem dL_law_1827 : decode cL_law 1827 = .ok (.goto 4, 3) := dec_w [0xa7, 0x00, 0x04] (pc9 (k := 1792) (j := 35) lwD_28 rfl) (by decide +kernel) rfl
theorem dL_law_1830 : decode cL_law 1830 = .ok (.iconst 0, 1) := dec_w [0x03] (pc9 (k := 1792) (j := 38) lwD_28 rfl) (by decide +kernel) rfl
theorem dL_law_1831 : decode cL_law 1831 = .ok (.aload_n 3, 1) := dec_w [0x2d] (pc9 (k := 1792) (j := 39) lwD_28 rfl) (by decide +kernel) rfl
theorem dL_law_1832 : decode cL_law 1832 = .ok (.invokestatic 316, 3) := dec_w [0xb8, 0x01, 0x3c] (pc9 (k := 1792) (j := 40) lwD_28 rfl) (by decide +kernel) rfl
theorem dL_law_1835 : decode cL_law 1835 = .ok (.istore 6, 2) := dec_w [0x36, 0x06] (pc9 (k := 1792) (j := 43) lwD_28 rfl) (by decide +kernel) rfl
theorem dL_law_1837 : decode cL_law 1837 = .ok (.aload_n 2, 1) := dec_w [0x2c] (pc9 (k := 1792) (j := 45) lwD_28 rfl) (by decide +kernel) rfl
theorem dL_law_1838 : decode cL_law 1838 = .ok (.aload_n 0, 1) := dec_w [0x2a] (pc9 (k := 1792) (j := 46) lwD_28 rfl) (by decide +kernel) rfl
theorem dL_law_1839 : decode cL_law 1839 = .ok (.iload 5, 2) := dec_w [0x15, 0x05] (pc9 (k := 1792) (j := 47) lwD_28 rfl) (by decide +kernel) rfl
theorem dL_law_1841 : decode cL_law 1841 = .ok (.iconst 1, 1) := dec_w [0x04] (pc9 (k := 1792) (j := 49) lwD_28 rfl) (by decide +kernel) rfl
theorem dL_law_1842 : decode cL_law 1842 = .ok (.iadd, 1) := dec_w [0x60] (pc9 (k := 1792) (j := 50) lwD_28 rfl) (by decide +kernel) rfl
theorem dL_law_1843 : decode cL_law 1843 = .ok (.iaload, 1) := dec_w [0x2e] (pc9 (k := 1792) (j := 51) lwD_28 rfl) (by decide +kernel) rfl
theorem dL_law_1844 : decode cL_law 1844 = .ok (.aload_n 0, 1) := dec_w [0x2a] (pc9 (k := 1792) (j := 52) lwD_28 rfl) (by decide +kernel) rfl
theorem dL_law_1845 : decode cL_law 1845 = .ok (.iload 5, 2) := dec_w [0x15, 0x05] (pc9 (k := 1792) (j := 53) lwD_28 rfl) (by decide +kernel) rfl
theorem dL_law_1847 : decode cL_law 1847 = .ok (.iconst 2, 1) := dec_w [0x05] (pc9 (k := 1792) (j := 55) lwD_28 rfl) (by decide +kernel) rfl
theorem dL_law_1848 : decode cL_law 1848 = .ok (.iadd, 1) := dec_w [0x60] (pc9 (k := 1792) (j := 56) lwD_28 rfl) (by decide +kernel) rfl
theorem dL_law_1849 : decode cL_law 1849 = .ok (.iaload, 1) := dec_w [0x2e] (pc9 (k := 1792) (j := 57) lwD_28 rfl) (by decide +kernel) rfl
theorem dL_law_1850 : decode cL_law 1850 = .ok (.aload_n 0, 1) := dec_w [0x2a] (pc9 (k := 1792) (j := 58) lwD_28 rfl) (by decide +kernel) rfl
theorem dL_law_1851 : decode cL_law 1851 = .ok (.iload 5, 2) := dec_w [0x15, 0x05] (pc9 (k := 1792) (j := 59) lwD_28 rfl) (by decide +kernel) rfl
theorem dL_law_1853 : decode cL_law 1853 = .ok (.iconst 3, 1) := dec_w [0x06] (pc9 (k := 1792) (j := 61) lwD_28 rfl) (by decide +kernel) rfl
theorem dL_law_1854 : decode cL_law 1854 = .ok (.iadd, 1) := dec_w [0x60] (pc9 (k := 1792) (j := 62) lwD_28 rfl) (by decide +kernel) rfl
theorem dL_law_1855 : decode cL_law 1855 = .ok (.iaload, 1) := dec_w [0x2e] (pc9 (k := 1792) (j := 63) lwD_28 rfl) (by decide +kernel) rfl
theorem dL_law_1856 : decode cL_law 1856 = .ok (.aload_n 0, 1) := dec_w [0x2a] (pc9 (k := 1856) (j := 0) lwD_29 rfl) (by decide +kernel) rfl
theorem dL_law_1857 : decode cL_law 1857 = .ok (.iload 5, 2) := dec_w [0x15, 0x05] (pc9 (k := 1856) (j := 1) lwD_29 rfl) (by decide +kernel) rfl
theorem dL_law_1859 : decode cL_law 1859 = .ok (.iconst 4, 1) := dec_w [0x07] (pc9 (k := 1856) (j := 3) lwD_29 rfl) (by decide +kernel) rfl
theorem dL_law_1860 : decode cL_law 1860 = .ok (.iadd, 1) := dec_w [0x60] (pc9 (k := 1856) (j := 4) lwD_29 rfl) (by decide +kernel) rfl
theorem dL_law_1861 : decode cL_law 1861 = .ok (.iaload, 1) := dec_w [0x2e] (pc9 (k := 1856) (j := 5) lwD_29 rfl) (by decide +kernel) rfl
theorem dL_law_1862 : decode cL_law 1862 = .ok (.ifCond .eq 7, 3) := dec_w [0x99, 0x00, 0x07] (pc9 (k := 1856) (j := 6) lwD_29 rfl) (by decide +kernel) rfl
theorem dL_law_1865 : decode cL_law 1865 = .ok (.iconst 1, 1) := dec_w [0x04] (pc9 (k := 1856) (j := 9) lwD_29 rfl) (by decide +kernel) rfl
theorem dL_law_1866 : decode cL_law 1866 = .ok (.goto 4, 3) := dec_w [0xa7, 0x00, 0x04] (pc9 (k := 1856) (j := 10) lwD_29 rfl) (by decide +kernel) rfl
theorem dL_law_1869 : decode cL_law 1869 = .ok (.iconst 0, 1) := dec_w [0x03] (pc9 (k := 1856) (j := 13) lwD_29 rfl) (by decide +kernel) rfl
theorem dL_law_1870 : decode cL_law 1870 = .ok (.invokevirtual 319, 3) := dec_w [0xb6, 0x01, 0x3f] (pc9 (k := 1856) (j := 14) lwD_29 rfl) (by decide +kernel) rfl
theorem dL_law_1873 : decode cL_law 1873 = .ok (.istore 7, 2) := dec_w [0x36, 0x07] (pc9 (k := 1856) (j := 17) lwD_29 rfl) (by decide +kernel) rfl
theorem dL_law_1875 : decode cL_law 1875 = .ok (.goto 849, 3) := dec_w [0xa7, 0x03, 0x51] (pc9 (k := 1856) (j := 19) lwD_29 rfl) (by decide +kernel) rfl
theorem dL_law_1878 : decode cL_law 1878 = .ok (.aload_n 1, 1) := dec_w [0x2b] (pc9 (k := 1856) (j := 22) lwD_29 rfl) (by decide +kernel) rfl
theorem dL_law_1879 : decode cL_law 1879 = .ok (.aload_n 0, 1) := dec_w [0x2a] (pc9 (k := 1856) (j := 23) lwD_29 rfl) (by decide +kernel) rfl
theorem dL_law_1880 : decode cL_law 1880 = .ok (.iload 5, 2) := dec_w [0x15, 0x05] (pc9 (k := 1856) (j := 24) lwD_29 rfl) (by decide +kernel) rfl
theorem dL_law_1882 : decode cL_law 1882 = .ok (.iconst 1, 1) := dec_w [0x04] (pc9 (k := 1856) (j := 26) lwD_29 rfl) (by decide +kernel) rfl
theorem dL_law_1883 : decode cL_law 1883 = .ok (.iadd, 1) := dec_w [0x60] (pc9 (k := 1856) (j := 27) lwD_29 rfl) (by decide +kernel) rfl
theorem dL_law_1884 : decode cL_law 1884 = .ok (.iaload, 1) := dec_w [0x2e] (pc9 (k := 1856) (j := 28) lwD_29 rfl) (by decide +kernel) rfl
theorem dL_law_1885 : decode cL_law 1885 = .ok (.aload_n 0, 1) := dec_w [0x2a] (pc9 (k := 1856) (j := 29) lwD_29 rfl) (by decide +kernel) rfl
theorem dL_law_1886 : decode cL_law 1886 = .ok (.iload 5, 2) := dec_w [0x15, 0x05] (pc9 (k := 1856) (j := 30) lwD_29 rfl) (by decide +kernel) rfl
theorem dL_law_1888 : decode cL_law 1888 = .ok (.iconst 2, 1) := dec_w [0x05] (pc9 (k := 1856) (j := 32) lwD_29 rfl) (by decide +kernel) rfl
theorem dL_law_1889 : decode cL_law 1889 = .ok (.iadd, 1) := dec_w [0x60] (pc9 (k := 1856) (j := 33) lwD_29 rfl) (by decide +kernel) rfl
theorem dL_law_1890 : decode cL_law 1890 = .ok (.iaload, 1) := dec_w [0x2e] (pc9 (k := 1856) (j := 34) lwD_29 rfl) (by decide +kernel) rfl
theorem dL_law_1891 : decode cL_law 1891 = .ok (.aload_n 0, 1) := dec_w [0x2a] (pc9 (k := 1856) (j := 35) lwD_29 rfl) (by decide +kernel) rfl
theorem dL_law_1892 : decode cL_law 1892 = .ok (.iload 5, 2) := dec_w [0x15, 0x05] (pc9 (k := 1856) (j := 36) lwD_29 rfl) (by decide +kernel) rfl
theorem dL_law_1894 : decode cL_law 1894 = .ok (.iconst 3, 1) := dec_w [0x06] (pc9 (k := 1856) (j := 38) lwD_29 rfl) (by decide +kernel) rfl
theorem dL_law_1895 : decode cL_law 1895 = .ok (.iadd, 1) := dec_w [0x60] (pc9 (k := 1856) (j := 39) lwD_29 rfl) (by decide +kernel) rfl
theorem dL_law_1896 : decode cL_law 1896 = .ok (.iaload, 1) := dec_w [0x2e] (pc9 (k := 1856) (j := 40) lwD_29 rfl) (by decide +kernel) rfl
theorem dL_law_1897 : decode cL_law 1897 = .ok (.i2l, 1) := dec_w [0x85] (pc9 (k := 1856) (j := 41) lwD_29 rfl) (by decide +kernel) rfl
theorem dL_law_1898 : decode cL_law 1898 = .ok (.bipush 32, 2) := dec_w [0x10, 0x20] (pc9 (k := 1856) (j := 42) lwD_29 rfl) (by decide +kernel) rfl
theorem dL_law_1900 : decode cL_law 1900 = .ok (.lshl, 1) := dec_w [0x79] (pc9 (k := 1856) (j := 44) lwD_29 rfl) (by decide +kernel) rfl
theorem dL_law_1901 : decode cL_law 1901 = .ok (.aload_n 0, 1) := dec_w [0x2a] (pc9 (k := 1856) (j := 45) lwD_29 rfl) (by decide +kernel) rfl
theorem dL_law_1902 : decode cL_law 1902 = .ok (.iload 5, 2) := dec_w [0x15, 0x05] (pc9 (k := 1856) (j := 46) lwD_29 rfl) (by decide +kernel) rfl
theorem dL_law_1904 : decode cL_law 1904 = .ok (.iconst 4, 1) := dec_w [0x07] (pc9 (k := 1856) (j := 48) lwD_29 rfl) (by decide +kernel) rfl
theorem dL_law_1905 : decode cL_law 1905 = .ok (.iadd, 1) := dec_w [0x60] (pc9 (k := 1856) (j := 49) lwD_29 rfl) (by decide +kernel) rfl
theorem dL_law_1906 : decode cL_law 1906 = .ok (.iaload, 1) := dec_w [0x2e] (pc9 (k := 1856) (j := 50) lwD_29 rfl) (by decide +kernel) rfl
theorem dL_law_1907 : decode cL_law 1907 = .ok (.i2l, 1) := dec_w [0x85] (pc9 (k := 1856) (j := 51) lwD_29 rfl) (by decide +kernel) rfl
theorem dL_law_1908 : decode cL_law 1908 = .ok (.ldc2_w 186, 3) := dec_w [0x14, 0x00, 0xba] (pc9 (k := 1856) (j := 52) lwD_29 rfl) (by decide +kernel) rfl
theorem dL_law_1911 : decode cL_law 1911 = .ok (.land, 1) := dec_w [0x7f] (pc9 (k := 1856) (j := 55) lwD_29 rfl) (by decide +kernel) rfl
theorem dL_law_1912 : decode cL_law 1912 = .ok (.lor, 1) := dec_w [0x81] (pc9 (k := 1856) (j := 56) lwD_29 rfl) (by decide +kernel) rfl
theorem dL_law_1913 : decode cL_law 1913 = .ok (.aload_n 3, 1) := dec_w [0x2d] (pc9 (k := 1856) (j := 57) lwD_29 rfl) (by decide +kernel) rfl
theorem dL_law_1914 : decode cL_law 1914 = .ok (.invokestatic 320, 3) := dec_w [0xb8, 0x01, 0x40] (pc9 (k := 1856) (j := 58) lwD_29 rfl) (by decide +kernel) rfl
theorem dL_law_1917 : decode cL_law 1917 = .ok (.istore 6, 2) := dec_w [0x36, 0x06] (pc9 (k := 1856) (j := 61) lwD_29 rfl) (by decide +kernel) rfl
theorem dL_law_1919 : decode cL_law 1919 = .ok (.aload_n 2, 1) := dec_w [0x2c] (pc9 (k := 1856) (j := 63) lwD_29 rfl) (by decide +kernel) rfl
theorem dL_law_1920 : decode cL_law 1920 = .ok (.aload_n 0, 1) := dec_w [0x2a] (pc9 (k := 1920) (j := 0) lwD_30 rfl) (by decide +kernel) rfl
theorem dL_law_1921 : decode cL_law 1921 = .ok (.iload 5, 2) := dec_w [0x15, 0x05] (pc9 (k := 1920) (j := 1) lwD_30 rfl) (by decide +kernel) rfl
theorem dL_law_1923 : decode cL_law 1923 = .ok (.iconst 1, 1) := dec_w [0x04] (pc9 (k := 1920) (j := 3) lwD_30 rfl) (by decide +kernel) rfl
theorem dL_law_1924 : decode cL_law 1924 = .ok (.iadd, 1) := dec_w [0x60] (pc9 (k := 1920) (j := 4) lwD_30 rfl) (by decide +kernel) rfl
theorem dL_law_1925 : decode cL_law 1925 = .ok (.iaload, 1) := dec_w [0x2e] (pc9 (k := 1920) (j := 5) lwD_30 rfl) (by decide +kernel) rfl
theorem dL_law_1926 : decode cL_law 1926 = .ok (.aload_n 0, 1) := dec_w [0x2a] (pc9 (k := 1920) (j := 6) lwD_30 rfl) (by decide +kernel) rfl
theorem dL_law_1927 : decode cL_law 1927 = .ok (.iload 5, 2) := dec_w [0x15, 0x05] (pc9 (k := 1920) (j := 7) lwD_30 rfl) (by decide +kernel) rfl
theorem dL_law_1929 : decode cL_law 1929 = .ok (.iconst 2, 1) := dec_w [0x05] (pc9 (k := 1920) (j := 9) lwD_30 rfl) (by decide +kernel) rfl
theorem dL_law_1930 : decode cL_law 1930 = .ok (.iadd, 1) := dec_w [0x60] (pc9 (k := 1920) (j := 10) lwD_30 rfl) (by decide +kernel) rfl
theorem dL_law_1931 : decode cL_law 1931 = .ok (.iaload, 1) := dec_w [0x2e] (pc9 (k := 1920) (j := 11) lwD_30 rfl) (by decide +kernel) rfl
theorem dL_law_1932 : decode cL_law 1932 = .ok (.aload_n 0, 1) := dec_w [0x2a] (pc9 (k := 1920) (j := 12) lwD_30 rfl) (by decide +kernel) rfl
theorem dL_law_1933 : decode cL_law 1933 = .ok (.iload 5, 2) := dec_w [0x15, 0x05] (pc9 (k := 1920) (j := 13) lwD_30 rfl) (by decide +kernel) rfl
theorem dL_law_1935 : decode cL_law 1935 = .ok (.iconst 3, 1) := dec_w [0x06] (pc9 (k := 1920) (j := 15) lwD_30 rfl) (by decide +kernel) rfl
theorem dL_law_1936 : decode cL_law 1936 = .ok (.iadd, 1) := dec_w [0x60] (pc9 (k := 1920) (j := 16) lwD_30 rfl) (by decide +kernel) rfl
theorem dL_law_1937 : decode cL_law 1937 = .ok (.iaload, 1) := dec_w [0x2e] (pc9 (k := 1920) (j := 17) lwD_30 rfl) (by decide +kernel) rfl
theorem dL_law_1938 : decode cL_law 1938 = .ok (.i2l, 1) := dec_w [0x85] (pc9 (k := 1920) (j := 18) lwD_30 rfl) (by decide +kernel) rfl
theorem dL_law_1939 : decode cL_law 1939 = .ok (.bipush 32, 2) := dec_w [0x10, 0x20] (pc9 (k := 1920) (j := 19) lwD_30 rfl) (by decide +kernel) rfl
theorem dL_law_1941 : decode cL_law 1941 = .ok (.lshl, 1) := dec_w [0x79] (pc9 (k := 1920) (j := 21) lwD_30 rfl) (by decide +kernel) rfl
theorem dL_law_1942 : decode cL_law 1942 = .ok (.aload_n 0, 1) := dec_w [0x2a] (pc9 (k := 1920) (j := 22) lwD_30 rfl) (by decide +kernel) rfl
theorem dL_law_1943 : decode cL_law 1943 = .ok (.iload 5, 2) := dec_w [0x15, 0x05] (pc9 (k := 1920) (j := 23) lwD_30 rfl) (by decide +kernel) rfl
theorem dL_law_1945 : decode cL_law 1945 = .ok (.iconst 4, 1) := dec_w [0x07] (pc9 (k := 1920) (j := 25) lwD_30 rfl) (by decide +kernel) rfl
theorem dL_law_1946 : decode cL_law 1946 = .ok (.iadd, 1) := dec_w [0x60] (pc9 (k := 1920) (j := 26) lwD_30 rfl) (by decide +kernel) rfl
theorem dL_law_1947 : decode cL_law 1947 = .ok (.iaload, 1) := dec_w [0x2e] (pc9 (k := 1920) (j := 27) lwD_30 rfl) (by decide +kernel) rfl
theorem dL_law_1948 : decode cL_law 1948 = .ok (.i2l, 1) := dec_w [0x85] (pc9 (k := 1920) (j := 28) lwD_30 rfl) (by decide +kernel) rfl
theorem dL_law_1949 : decode cL_law 1949 = .ok (.ldc2_w 186, 3) := dec_w [0x14, 0x00, 0xba] (pc9 (k := 1920) (j := 29) lwD_30 rfl) (by decide +kernel) rfl
theorem dL_law_1952 : decode cL_law 1952 = .ok (.land, 1) := dec_w [0x7f] (pc9 (k := 1920) (j := 32) lwD_30 rfl) (by decide +kernel) rfl
theorem dL_law_1953 : decode cL_law 1953 = .ok (.lor, 1) := dec_w [0x81] (pc9 (k := 1920) (j := 33) lwD_30 rfl) (by decide +kernel) rfl
theorem dL_law_1954 : decode cL_law 1954 = .ok (.invokevirtual 323, 3) := dec_w [0xb6, 0x01, 0x43] (pc9 (k := 1920) (j := 34) lwD_30 rfl) (by decide +kernel) rfl
theorem dL_law_1957 : decode cL_law 1957 = .ok (.istore 7, 2) := dec_w [0x36, 0x07] (pc9 (k := 1920) (j := 37) lwD_30 rfl) (by decide +kernel) rfl
theorem dL_law_1959 : decode cL_law 1959 = .ok (.goto 765, 3) := dec_w [0xa7, 0x02, 0xfd] (pc9 (k := 1920) (j := 39) lwD_30 rfl) (by decide +kernel) rfl
theorem dL_law_1962 : decode cL_law 1962 = .ok (.aload_n 1, 1) := dec_w [0x2b] (pc9 (k := 1920) (j := 42) lwD_30 rfl) (by decide +kernel) rfl
theorem dL_law_1963 : decode cL_law 1963 = .ok (.aload_n 0, 1) := dec_w [0x2a] (pc9 (k := 1920) (j := 43) lwD_30 rfl) (by decide +kernel) rfl
theorem dL_law_1964 : decode cL_law 1964 = .ok (.iload 5, 2) := dec_w [0x15, 0x05] (pc9 (k := 1920) (j := 44) lwD_30 rfl) (by decide +kernel) rfl
theorem dL_law_1966 : decode cL_law 1966 = .ok (.iconst 1, 1) := dec_w [0x04] (pc9 (k := 1920) (j := 46) lwD_30 rfl) (by decide +kernel) rfl
theorem dL_law_1967 : decode cL_law 1967 = .ok (.iadd, 1) := dec_w [0x60] (pc9 (k := 1920) (j := 47) lwD_30 rfl) (by decide +kernel) rfl
theorem dL_law_1968 : decode cL_law 1968 = .ok (.iaload, 1) := dec_w [0x2e] (pc9 (k := 1920) (j := 48) lwD_30 rfl) (by decide +kernel) rfl
theorem dL_law_1969 : decode cL_law 1969 = .ok (.aload_n 0, 1) := dec_w [0x2a] (pc9 (k := 1920) (j := 49) lwD_30 rfl) (by decide +kernel) rfl
theorem dL_law_1970 : decode cL_law 1970 = .ok (.iload 5, 2) := dec_w [0x15, 0x05] (pc9 (k := 1920) (j := 50) lwD_30 rfl) (by decide +kernel) rfl
theorem dL_law_1972 : decode cL_law 1972 = .ok (.iconst 2, 1) := dec_w [0x05] (pc9 (k := 1920) (j := 52) lwD_30 rfl) (by decide +kernel) rfl
theorem dL_law_1973 : decode cL_law 1973 = .ok (.iadd, 1) := dec_w [0x60] (pc9 (k := 1920) (j := 53) lwD_30 rfl) (by decide +kernel) rfl
theorem dL_law_1974 : decode cL_law 1974 = .ok (.iaload, 1) := dec_w [0x2e] (pc9 (k := 1920) (j := 54) lwD_30 rfl) (by decide +kernel) rfl
theorem dL_law_1975 : decode cL_law 1975 = .ok (.aload_n 3, 1) := dec_w [0x2d] (pc9 (k := 1920) (j := 55) lwD_30 rfl) (by decide +kernel) rfl
theorem dL_law_1976 : decode cL_law 1976 = .ok (.invokestatic 324, 3) := dec_w [0xb8, 0x01, 0x44] (pc9 (k := 1920) (j := 56) lwD_30 rfl) (by decide +kernel) rfl
theorem dL_law_1979 : decode cL_law 1979 = .ok (.istore 6, 2) := dec_w [0x36, 0x06] (pc9 (k := 1920) (j := 59) lwD_30 rfl) (by decide +kernel) rfl
theorem dL_law_1981 : decode cL_law 1981 = .ok (.aload_n 2, 1) := dec_w [0x2c] (pc9 (k := 1920) (j := 61) lwD_30 rfl) (by decide +kernel) rfl
theorem dL_law_1982 : decode cL_law 1982 = .ok (.aload_n 0, 1) := dec_w [0x2a] (pc9 (k := 1920) (j := 62) lwD_30 rfl) (by decide +kernel) rfl
theorem dL_law_1983 : decode cL_law 1983 = .ok (.iload 5, 2) := dec_w [0x15, 0x05] (pc9 (k := 1920) (j := 63) lwD_30 rfl) (by decide +kernel) rfl
theorem dL_law_1985 : decode cL_law 1985 = .ok (.iconst 1, 1) := dec_w [0x04] (pc9 (k := 1984) (j := 1) lwD_31 rfl) (by decide +kernel) rfl
theorem dL_law_1986 : decode cL_law 1986 = .ok (.iadd, 1) := dec_w [0x60] (pc9 (k := 1984) (j := 2) lwD_31 rfl) (by decide +kernel) rfl
theorem dL_law_1987 : decode cL_law 1987 = .ok (.iaload, 1) := dec_w [0x2e] (pc9 (k := 1984) (j := 3) lwD_31 rfl) (by decide +kernel) rfl
theorem dL_law_1988 : decode cL_law 1988 = .ok (.aload_n 0, 1) := dec_w [0x2a] (pc9 (k := 1984) (j := 4) lwD_31 rfl) (by decide +kernel) rfl
theorem dL_law_1989 : decode cL_law 1989 = .ok (.iload 5, 2) := dec_w [0x15, 0x05] (pc9 (k := 1984) (j := 5) lwD_31 rfl) (by decide +kernel) rfl
theorem dL_law_1991 : decode cL_law 1991 = .ok (.iconst 2, 1) := dec_w [0x05] (pc9 (k := 1984) (j := 7) lwD_31 rfl) (by decide +kernel) rfl
theorem dL_law_1992 : decode cL_law 1992 = .ok (.iadd, 1) := dec_w [0x60] (pc9 (k := 1984) (j := 8) lwD_31 rfl) (by decide +kernel) rfl
theorem dL_law_1993 : decode cL_law 1993 = .ok (.iaload, 1) := dec_w [0x2e] (pc9 (k := 1984) (j := 9) lwD_31 rfl) (by decide +kernel) rfl
theorem dL_law_1994 : decode cL_law 1994 = .ok (.invokevirtual 326, 3) := dec_w [0xb6, 0x01, 0x46] (pc9 (k := 1984) (j := 10) lwD_31 rfl) (by decide +kernel) rfl
theorem dL_law_1997 : decode cL_law 1997 = .ok (.istore 7, 2) := dec_w [0x36, 0x07] (pc9 (k := 1984) (j := 13) lwD_31 rfl) (by decide +kernel) rfl
theorem dL_law_1999 : decode cL_law 1999 = .ok (.goto 725, 3) := dec_w [0xa7, 0x02, 0xd5] (pc9 (k := 1984) (j := 15) lwD_31 rfl) (by decide +kernel) rfl
theorem dL_law_2002 : decode cL_law 2002 = .ok (.aload_n 1, 1) := dec_w [0x2b] (pc9 (k := 1984) (j := 18) lwD_31 rfl) (by decide +kernel) rfl
theorem dL_law_2003 : decode cL_law 2003 = .ok (.aload_n 0, 1) := dec_w [0x2a] (pc9 (k := 1984) (j := 19) lwD_31 rfl) (by decide +kernel) rfl
theorem dL_law_2004 : decode cL_law 2004 = .ok (.iload 5, 2) := dec_w [0x15, 0x05] (pc9 (k := 1984) (j := 20) lwD_31 rfl) (by decide +kernel) rfl
theorem dL_law_2006 : decode cL_law 2006 = .ok (.iconst 1, 1) := dec_w [0x04] (pc9 (k := 1984) (j := 22) lwD_31 rfl) (by decide +kernel) rfl
theorem dL_law_2007 : decode cL_law 2007 = .ok (.iadd, 1) := dec_w [0x60] (pc9 (k := 1984) (j := 23) lwD_31 rfl) (by decide +kernel) rfl
theorem dL_law_2008 : decode cL_law 2008 = .ok (.iaload, 1) := dec_w [0x2e] (pc9 (k := 1984) (j := 24) lwD_31 rfl) (by decide +kernel) rfl
theorem dL_law_2009 : decode cL_law 2009 = .ok (.aload_n 0, 1) := dec_w [0x2a] (pc9 (k := 1984) (j := 25) lwD_31 rfl) (by decide +kernel) rfl
theorem dL_law_2010 : decode cL_law 2010 = .ok (.iload 5, 2) := dec_w [0x15, 0x05] (pc9 (k := 1984) (j := 26) lwD_31 rfl) (by decide +kernel) rfl
theorem dL_law_2012 : decode cL_law 2012 = .ok (.iconst 2, 1) := dec_w [0x05] (pc9 (k := 1984) (j := 28) lwD_31 rfl) (by decide +kernel) rfl
theorem dL_law_2013 : decode cL_law 2013 = .ok (.iadd, 1) := dec_w [0x60] (pc9 (k := 1984) (j := 29) lwD_31 rfl) (by decide +kernel) rfl
theorem dL_law_2014 : decode cL_law 2014 = .ok (.iaload, 1) := dec_w [0x2e] (pc9 (k := 1984) (j := 30) lwD_31 rfl) (by decide +kernel) rfl
theorem dL_law_2015 : decode cL_law 2015 = .ok (.aload_n 3, 1) := dec_w [0x2d] (pc9 (k := 1984) (j := 31) lwD_31 rfl) (by decide +kernel) rfl
theorem dL_law_2016 : decode cL_law 2016 = .ok (.invokestatic 327, 3) := dec_w [0xb8, 0x01, 0x47] (pc9 (k := 1984) (j := 32) lwD_31 rfl) (by decide +kernel) rfl
theorem dL_law_2019 : decode cL_law 2019 = .ok (.istore 6, 2) := dec_w [0x36, 0x06] (pc9 (k := 1984) (j := 35) lwD_31 rfl) (by decide +kernel) rfl
theorem dL_law_2021 : decode cL_law 2021 = .ok (.aload_n 2, 1) := dec_w [0x2c] (pc9 (k := 1984) (j := 37) lwD_31 rfl) (by decide +kernel) rfl
theorem dL_law_2022 : decode cL_law 2022 = .ok (.aload_n 0, 1) := dec_w [0x2a] (pc9 (k := 1984) (j := 38) lwD_31 rfl) (by decide +kernel) rfl
theorem dL_law_2023 : decode cL_law 2023 = .ok (.iload 5, 2) := dec_w [0x15, 0x05] (pc9 (k := 1984) (j := 39) lwD_31 rfl) (by decide +kernel) rfl
theorem dL_law_2025 : decode cL_law 2025 = .ok (.iconst 1, 1) := dec_w [0x04] (pc9 (k := 1984) (j := 41) lwD_31 rfl) (by decide +kernel) rfl
theorem dL_law_2026 : decode cL_law 2026 = .ok (.iadd, 1) := dec_w [0x60] (pc9 (k := 1984) (j := 42) lwD_31 rfl) (by decide +kernel) rfl
theorem dL_law_2027 : decode cL_law 2027 = .ok (.iaload, 1) := dec_w [0x2e] (pc9 (k := 1984) (j := 43) lwD_31 rfl) (by decide +kernel) rfl
theorem dL_law_2028 : decode cL_law 2028 = .ok (.aload_n 0, 1) := dec_w [0x2a] (pc9 (k := 1984) (j := 44) lwD_31 rfl) (by decide +kernel) rfl
theorem dL_law_2029 : decode cL_law 2029 = .ok (.iload 5, 2) := dec_w [0x15, 0x05] (pc9 (k := 1984) (j := 45) lwD_31 rfl) (by decide +kernel) rfl
theorem dL_law_2031 : decode cL_law 2031 = .ok (.iconst 2, 1) := dec_w [0x05] (pc9 (k := 1984) (j := 47) lwD_31 rfl) (by decide +kernel) rfl
theorem dL_law_2032 : decode cL_law 2032 = .ok (.iadd, 1) := dec_w [0x60] (pc9 (k := 1984) (j := 48) lwD_31 rfl) (by decide +kernel) rfl
theorem dL_law_2033 : decode cL_law 2033 = .ok (.iaload, 1) := dec_w [0x2e] (pc9 (k := 1984) (j := 49) lwD_31 rfl) (by decide +kernel) rfl
theorem dL_law_2034 : decode cL_law 2034 = .ok (.invokevirtual 329, 3) := dec_w [0xb6, 0x01, 0x49] (pc9 (k := 1984) (j := 50) lwD_31 rfl) (by decide +kernel) rfl
theorem dL_law_2037 : decode cL_law 2037 = .ok (.istore 7, 2) := dec_w [0x36, 0x07] (pc9 (k := 1984) (j := 53) lwD_31 rfl) (by decide +kernel) rfl
theorem dL_law_2039 : decode cL_law 2039 = .ok (.goto 685, 3) := dec_w [0xa7, 0x02, 0xad] (pc9 (k := 1984) (j := 55) lwD_31 rfl) (by decide +kernel) rfl
theorem dL_law_2042 : decode cL_law 2042 = .ok (.aload_n 1, 1) := dec_w [0x2b] (pc9 (k := 1984) (j := 58) lwD_31 rfl) (by decide +kernel) rfl
theorem dL_law_2043 : decode cL_law 2043 = .ok (.aload_n 0, 1) := dec_w [0x2a] (pc9 (k := 1984) (j := 59) lwD_31 rfl) (by decide +kernel) rfl
theorem dL_law_2044 : decode cL_law 2044 = .ok (.iload 5, 2) := dec_w [0x15, 0x05] (pc9 (k := 1984) (j := 60) lwD_31 rfl) (by decide +kernel) rfl
theorem dL_law_2046 : decode cL_law 2046 = .ok (.iconst 1, 1) := dec_w [0x04] (pc9 (k := 1984) (j := 62) lwD_31 rfl) (by decide +kernel) rfl
theorem dL_law_2047 : decode cL_law 2047 = .ok (.iadd, 1) := dec_w [0x60] (pc9 (k := 1984) (j := 63) lwD_31 rfl) (by decide +kernel) rfl
theorem dL_law_2048 : decode cL_law 2048 = .ok (.iaload, 1) := dec_w [0x2e] (pc9 (k := 2048) (j := 0) lwD_32 rfl) (by decide +kernel) rfl
theorem dL_law_2049 : decode cL_law 2049 = .ok (.aload_n 0, 1) := dec_w [0x2a] (pc9 (k := 2048) (j := 1) lwD_32 rfl) (by decide +kernel) rfl
theorem dL_law_2050 : decode cL_law 2050 = .ok (.iload 5, 2) := dec_w [0x15, 0x05] (pc9 (k := 2048) (j := 2) lwD_32 rfl) (by decide +kernel) rfl
theorem dL_law_2052 : decode cL_law 2052 = .ok (.iconst 2, 1) := dec_w [0x05] (pc9 (k := 2048) (j := 4) lwD_32 rfl) (by decide +kernel) rfl
theorem dL_law_2053 : decode cL_law 2053 = .ok (.iadd, 1) := dec_w [0x60] (pc9 (k := 2048) (j := 5) lwD_32 rfl) (by decide +kernel) rfl
theorem dL_law_2054 : decode cL_law 2054 = .ok (.iaload, 1) := dec_w [0x2e] (pc9 (k := 2048) (j := 6) lwD_32 rfl) (by decide +kernel) rfl
theorem dL_law_2055 : decode cL_law 2055 = .ok (.aload_n 0, 1) := dec_w [0x2a] (pc9 (k := 2048) (j := 7) lwD_32 rfl) (by decide +kernel) rfl
theorem dL_law_2056 : decode cL_law 2056 = .ok (.iload 5, 2) := dec_w [0x15, 0x05] (pc9 (k := 2048) (j := 8) lwD_32 rfl) (by decide +kernel) rfl
theorem dL_law_2058 : decode cL_law 2058 = .ok (.iconst 3, 1) := dec_w [0x06] (pc9 (k := 2048) (j := 10) lwD_32 rfl) (by decide +kernel) rfl
theorem dL_law_2059 : decode cL_law 2059 = .ok (.iadd, 1) := dec_w [0x60] (pc9 (k := 2048) (j := 11) lwD_32 rfl) (by decide +kernel) rfl
theorem dL_law_2060 : decode cL_law 2060 = .ok (.iaload, 1) := dec_w [0x2e] (pc9 (k := 2048) (j := 12) lwD_32 rfl) (by decide +kernel) rfl
theorem dL_law_2061 : decode cL_law 2061 = .ok (.aload_n 0, 1) := dec_w [0x2a] (pc9 (k := 2048) (j := 13) lwD_32 rfl) (by decide +kernel) rfl
theorem dL_law_2062 : decode cL_law 2062 = .ok (.iload 5, 2) := dec_w [0x15, 0x05] (pc9 (k := 2048) (j := 14) lwD_32 rfl) (by decide +kernel) rfl
theorem dL_law_2064 : decode cL_law 2064 = .ok (.iconst 4, 1) := dec_w [0x07] (pc9 (k := 2048) (j := 16) lwD_32 rfl) (by decide +kernel) rfl
theorem dL_law_2065 : decode cL_law 2065 = .ok (.iadd, 1) := dec_w [0x60] (pc9 (k := 2048) (j := 17) lwD_32 rfl) (by decide +kernel) rfl
theorem dL_law_2066 : decode cL_law 2066 = .ok (.iaload, 1) := dec_w [0x2e] (pc9 (k := 2048) (j := 18) lwD_32 rfl) (by decide +kernel) rfl
theorem dL_law_2067 : decode cL_law 2067 = .ok (.aload_n 3, 1) := dec_w [0x2d] (pc9 (k := 2048) (j := 19) lwD_32 rfl) (by decide +kernel) rfl
theorem dL_law_2068 : decode cL_law 2068 = .ok (.invokestatic 330, 3) := dec_w [0xb8, 0x01, 0x4a] (pc9 (k := 2048) (j := 20) lwD_32 rfl) (by decide +kernel) rfl
theorem dL_law_2071 : decode cL_law 2071 = .ok (.istore 6, 2) := dec_w [0x36, 0x06] (pc9 (k := 2048) (j := 23) lwD_32 rfl) (by decide +kernel) rfl
theorem dL_law_2073 : decode cL_law 2073 = .ok (.aload_n 2, 1) := dec_w [0x2c] (pc9 (k := 2048) (j := 25) lwD_32 rfl) (by decide +kernel) rfl
theorem dL_law_2074 : decode cL_law 2074 = .ok (.aload_n 0, 1) := dec_w [0x2a] (pc9 (k := 2048) (j := 26) lwD_32 rfl) (by decide +kernel) rfl
theorem dL_law_2075 : decode cL_law 2075 = .ok (.iload 5, 2) := dec_w [0x15, 0x05] (pc9 (k := 2048) (j := 27) lwD_32 rfl) (by decide +kernel) rfl
theorem dL_law_2077 : decode cL_law 2077 = .ok (.iconst 1, 1) := dec_w [0x04] (pc9 (k := 2048) (j := 29) lwD_32 rfl) (by decide +kernel) rfl
theorem dL_law_2078 : decode cL_law 2078 = .ok (.iadd, 1) := dec_w [0x60] (pc9 (k := 2048) (j := 30) lwD_32 rfl) (by decide +kernel) rfl
theorem dL_law_2079 : decode cL_law 2079 = .ok (.iaload, 1) := dec_w [0x2e] (pc9 (k := 2048) (j := 31) lwD_32 rfl) (by decide +kernel) rfl
theorem dL_law_2080 : decode cL_law 2080 = .ok (.aload_n 0, 1) := dec_w [0x2a] (pc9 (k := 2048) (j := 32) lwD_32 rfl) (by decide +kernel) rfl
theorem dL_law_2081 : decode cL_law 2081 = .ok (.iload 5, 2) := dec_w [0x15, 0x05] (pc9 (k := 2048) (j := 33) lwD_32 rfl) (by decide +kernel) rfl
theorem dL_law_2083 : decode cL_law 2083 = .ok (.iconst 2, 1) := dec_w [0x05] (pc9 (k := 2048) (j := 35) lwD_32 rfl) (by decide +kernel) rfl
theorem dL_law_2084 : decode cL_law 2084 = .ok (.iadd, 1) := dec_w [0x60] (pc9 (k := 2048) (j := 36) lwD_32 rfl) (by decide +kernel) rfl
theorem dL_law_2085 : decode cL_law 2085 = .ok (.iaload, 1) := dec_w [0x2e] (pc9 (k := 2048) (j := 37) lwD_32 rfl) (by decide +kernel) rfl
theorem dL_law_2086 : decode cL_law 2086 = .ok (.aload_n 0, 1) := dec_w [0x2a] (pc9 (k := 2048) (j := 38) lwD_32 rfl) (by decide +kernel) rfl
theorem dL_law_2087 : decode cL_law 2087 = .ok (.iload 5, 2) := dec_w [0x15, 0x05] (pc9 (k := 2048) (j := 39) lwD_32 rfl) (by decide +kernel) rfl
theorem dL_law_2089 : decode cL_law 2089 = .ok (.iconst 3, 1) := dec_w [0x06] (pc9 (k := 2048) (j := 41) lwD_32 rfl) (by decide +kernel) rfl
theorem dL_law_2090 : decode cL_law 2090 = .ok (.iadd, 1) := dec_w [0x60] (pc9 (k := 2048) (j := 42) lwD_32 rfl) (by decide +kernel) rfl
theorem dL_law_2091 : decode cL_law 2091 = .ok (.iaload, 1) := dec_w [0x2e] (pc9 (k := 2048) (j := 43) lwD_32 rfl) (by decide +kernel) rfl
theorem dL_law_2092 : decode cL_law 2092 = .ok (.aload_n 0, 1) := dec_w [0x2a] (pc9 (k := 2048) (j := 44) lwD_32 rfl) (by decide +kernel) rfl
theorem dL_law_2093 : decode cL_law 2093 = .ok (.iload 5, 2) := dec_w [0x15, 0x05] (pc9 (k := 2048) (j := 45) lwD_32 rfl) (by decide +kernel) rfl
theorem dL_law_2095 : decode cL_law 2095 = .ok (.iconst 4, 1) := dec_w [0x07] (pc9 (k := 2048) (j := 47) lwD_32 rfl) (by decide +kernel) rfl
theorem dL_law_2096 : decode cL_law 2096 = .ok (.iadd, 1) := dec_w [0x60] (pc9 (k := 2048) (j := 48) lwD_32 rfl) (by decide +kernel) rfl
theorem dL_law_2097 : decode cL_law 2097 = .ok (.iaload, 1) := dec_w [0x2e] (pc9 (k := 2048) (j := 49) lwD_32 rfl) (by decide +kernel) rfl
theorem dL_law_2098 : decode cL_law 2098 = .ok (.invokevirtual 332, 3) := dec_w [0xb6, 0x01, 0x4c] (pc9 (k := 2048) (j := 50) lwD_32 rfl) (by decide +kernel) rfl
theorem dL_law_2101 : decode cL_law 2101 = .ok (.istore 7, 2) := dec_w [0x36, 0x07] (pc9 (k := 2048) (j := 53) lwD_32 rfl) (by decide +kernel) rfl
theorem dL_law_2103 : decode cL_law 2103 = .ok (.goto 621, 3) := dec_w [0xa7, 0x02, 0x6d] (pc9 (k := 2048) (j := 55) lwD_32 rfl) (by decide +kernel) rfl
theorem dL_law_2106 : decode cL_law 2106 = .ok (.aload_n 1, 1) := dec_w [0x2b] (pc9 (k := 2048) (j := 58) lwD_32 rfl) (by decide +kernel) rfl
theorem dL_law_2107 : decode cL_law 2107 = .ok (.aload_n 0, 1) := dec_w [0x2a] (pc9 (k := 2048) (j := 59) lwD_32 rfl) (by decide +kernel) rfl
theorem dL_law_2108 : decode cL_law 2108 = .ok (.iload 5, 2) := dec_w [0x15, 0x05] (pc9 (k := 2048) (j := 60) lwD_32 rfl) (by decide +kernel) rfl
theorem dL_law_2110 : decode cL_law 2110 = .ok (.iconst 1, 1) := dec_w [0x04] (pc9 (k := 2048) (j := 62) lwD_32 rfl) (by decide +kernel) rfl
theorem dL_law_2111 : decode cL_law 2111 = .ok (.iadd, 1) := dec_w [0x60] (pc9 (k := 2048) (j := 63) lwD_32 rfl) (by decide +kernel) rfl
theorem dL_law_2112 : decode cL_law 2112 = .ok (.iaload, 1) := dec_w [0x2e] (pc9 (k := 2112) (j := 0) lwD_33 rfl) (by decide +kernel) rfl
theorem dL_law_2113 : decode cL_law 2113 = .ok (.aload_n 0, 1) := dec_w [0x2a] (pc9 (k := 2112) (j := 1) lwD_33 rfl) (by decide +kernel) rfl
theorem dL_law_2114 : decode cL_law 2114 = .ok (.iload 5, 2) := dec_w [0x15, 0x05] (pc9 (k := 2112) (j := 2) lwD_33 rfl) (by decide +kernel) rfl
theorem dL_law_2116 : decode cL_law 2116 = .ok (.iconst 2, 1) := dec_w [0x05] (pc9 (k := 2112) (j := 4) lwD_33 rfl) (by decide +kernel) rfl
theorem dL_law_2117 : decode cL_law 2117 = .ok (.iadd, 1) := dec_w [0x60] (pc9 (k := 2112) (j := 5) lwD_33 rfl) (by decide +kernel) rfl
theorem dL_law_2118 : decode cL_law 2118 = .ok (.iaload, 1) := dec_w [0x2e] (pc9 (k := 2112) (j := 6) lwD_33 rfl) (by decide +kernel) rfl
theorem dL_law_2119 : decode cL_law 2119 = .ok (.aload_n 0, 1) := dec_w [0x2a] (pc9 (k := 2112) (j := 7) lwD_33 rfl) (by decide +kernel) rfl
theorem dL_law_2120 : decode cL_law 2120 = .ok (.iload 5, 2) := dec_w [0x15, 0x05] (pc9 (k := 2112) (j := 8) lwD_33 rfl) (by decide +kernel) rfl
theorem dL_law_2122 : decode cL_law 2122 = .ok (.iconst 3, 1) := dec_w [0x06] (pc9 (k := 2112) (j := 10) lwD_33 rfl) (by decide +kernel) rfl
theorem dL_law_2123 : decode cL_law 2123 = .ok (.iadd, 1) := dec_w [0x60] (pc9 (k := 2112) (j := 11) lwD_33 rfl) (by decide +kernel) rfl
theorem dL_law_2124 : decode cL_law 2124 = .ok (.iaload, 1) := dec_w [0x2e] (pc9 (k := 2112) (j := 12) lwD_33 rfl) (by decide +kernel) rfl
theorem dL_law_2125 : decode cL_law 2125 = .ok (.aload_n 0, 1) := dec_w [0x2a] (pc9 (k := 2112) (j := 13) lwD_33 rfl) (by decide +kernel) rfl
theorem dL_law_2126 : decode cL_law 2126 = .ok (.iload 5, 2) := dec_w [0x15, 0x05] (pc9 (k := 2112) (j := 14) lwD_33 rfl) (by decide +kernel) rfl
theorem dL_law_2128 : decode cL_law 2128 = .ok (.iconst 4, 1) := dec_w [0x07] (pc9 (k := 2112) (j := 16) lwD_33 rfl) (by decide +kernel) rfl
theorem dL_law_2129 : decode cL_law 2129 = .ok (.iadd, 1) := dec_w [0x60] (pc9 (k := 2112) (j := 17) lwD_33 rfl) (by decide +kernel) rfl
theorem dL_law_2130 : decode cL_law 2130 = .ok (.iaload, 1) := dec_w [0x2e] (pc9 (k := 2112) (j := 18) lwD_33 rfl) (by decide +kernel) rfl
theorem dL_law_2131 : decode cL_law 2131 = .ok (.ifCond .eq 7, 3) := dec_w [0x99, 0x00, 0x07] (pc9 (k := 2112) (j := 19) lwD_33 rfl) (by decide +kernel) rfl
theorem dL_law_2134 : decode cL_law 2134 = .ok (.iconst 1, 1) := dec_w [0x04] (pc9 (k := 2112) (j := 22) lwD_33 rfl) (by decide +kernel) rfl
theorem dL_law_2135 : decode cL_law 2135 = .ok (.goto 4, 3) := dec_w [0xa7, 0x00, 0x04] (pc9 (k := 2112) (j := 23) lwD_33 rfl) (by decide +kernel) rfl
theorem dL_law_2138 : decode cL_law 2138 = .ok (.iconst 0, 1) := dec_w [0x03] (pc9 (k := 2112) (j := 26) lwD_33 rfl) (by decide +kernel) rfl
theorem dL_law_2139 : decode cL_law 2139 = .ok (.aload_n 3, 1) := dec_w [0x2d] (pc9 (k := 2112) (j := 27) lwD_33 rfl) (by decide +kernel) rfl
theorem dL_law_2140 : decode cL_law 2140 = .ok (.invokestatic 333, 3) := dec_w [0xb8, 0x01, 0x4d] (pc9 (k := 2112) (j := 28) lwD_33 rfl) (by decide +kernel) rfl
theorem dL_law_2143 : decode cL_law 2143 = .ok (.istore 6, 2) := dec_w [0x36, 0x06] (pc9 (k := 2112) (j := 31) lwD_33 rfl) (by decide +kernel) rfl
theorem dL_law_2145 : decode cL_law 2145 = .ok (.aload_n 2, 1) := dec_w [0x2c] (pc9 (k := 2112) (j := 33) lwD_33 rfl) (by decide +kernel) rfl
theorem dL_law_2146 : decode cL_law 2146 = .ok (.aload_n 0, 1) := dec_w [0x2a] (pc9 (k := 2112) (j := 34) lwD_33 rfl) (by decide +kernel) rfl
theorem dL_law_2147 : decode cL_law 2147 = .ok (.iload 5, 2) := dec_w [0x15, 0x05] (pc9 (k := 2112) (j := 35) lwD_33 rfl) (by decide +kernel) rfl
theorem dL_law_2149 : decode cL_law 2149 = .ok (.iconst 1, 1) := dec_w [0x04] (pc9 (k := 2112) (j := 37) lwD_33 rfl) (by decide +kernel) rfl
theorem dL_law_2150 : decode cL_law 2150 = .ok (.iadd, 1) := dec_w [0x60] (pc9 (k := 2112) (j := 38) lwD_33 rfl) (by decide +kernel) rfl
theorem dL_law_2151 : decode cL_law 2151 = .ok (.iaload, 1) := dec_w [0x2e] (pc9 (k := 2112) (j := 39) lwD_33 rfl) (by decide +kernel) rfl
theorem dL_law_2152 : decode cL_law 2152 = .ok (.aload_n 0, 1) := dec_w [0x2a] (pc9 (k := 2112) (j := 40) lwD_33 rfl) (by decide +kernel) rfl
theorem dL_law_2153 : decode cL_law 2153 = .ok (.iload 5, 2) := dec_w [0x15, 0x05] (pc9 (k := 2112) (j := 41) lwD_33 rfl) (by decide +kernel) rfl
theorem dL_law_2155 : decode cL_law 2155 = .ok (.iconst 2, 1) := dec_w [0x05] (pc9 (k := 2112) (j := 43) lwD_33 rfl) (by decide +kernel) rfl
theorem dL_law_2156 : decode cL_law 2156 = .ok (.iadd, 1) := dec_w [0x60] (pc9 (k := 2112) (j := 44) lwD_33 rfl) (by decide +kernel) rfl
theorem dL_law_2157 : decode cL_law 2157 = .ok (.iaload, 1) := dec_w [0x2e] (pc9 (k := 2112) (j := 45) lwD_33 rfl) (by decide +kernel) rfl
theorem dL_law_2158 : decode cL_law 2158 = .ok (.aload_n 0, 1) := dec_w [0x2a] (pc9 (k := 2112) (j := 46) lwD_33 rfl) (by decide +kernel) rfl
theorem dL_law_2159 : decode cL_law 2159 = .ok (.iload 5, 2) := dec_w [0x15, 0x05] (pc9 (k := 2112) (j := 47) lwD_33 rfl) (by decide +kernel) rfl
theorem dL_law_2161 : decode cL_law 2161 = .ok (.iconst 3, 1) := dec_w [0x06] (pc9 (k := 2112) (j := 49) lwD_33 rfl) (by decide +kernel) rfl
theorem dL_law_2162 : decode cL_law 2162 = .ok (.iadd, 1) := dec_w [0x60] (pc9 (k := 2112) (j := 50) lwD_33 rfl) (by decide +kernel) rfl
theorem dL_law_2163 : decode cL_law 2163 = .ok (.iaload, 1) := dec_w [0x2e] (pc9 (k := 2112) (j := 51) lwD_33 rfl) (by decide +kernel) rfl
theorem dL_law_2164 : decode cL_law 2164 = .ok (.aload_n 0, 1) := dec_w [0x2a] (pc9 (k := 2112) (j := 52) lwD_33 rfl) (by decide +kernel) rfl
theorem dL_law_2165 : decode cL_law 2165 = .ok (.iload 5, 2) := dec_w [0x15, 0x05] (pc9 (k := 2112) (j := 53) lwD_33 rfl) (by decide +kernel) rfl
theorem dL_law_2167 : decode cL_law 2167 = .ok (.iconst 4, 1) := dec_w [0x07] (pc9 (k := 2112) (j := 55) lwD_33 rfl) (by decide +kernel) rfl
theorem dL_law_2168 : decode cL_law 2168 = .ok (.iadd, 1) := dec_w [0x60] (pc9 (k := 2112) (j := 56) lwD_33 rfl) (by decide +kernel) rfl
theorem dL_law_2169 : decode cL_law 2169 = .ok (.iaload, 1) := dec_w [0x2e] (pc9 (k := 2112) (j := 57) lwD_33 rfl) (by decide +kernel) rfl
theorem dL_law_2170 : decode cL_law 2170 = .ok (.ifCond .eq 7, 3) := dec_w [0x99, 0x00, 0x07] (pc9 (k := 2112) (j := 58) lwD_33 rfl) (by decide +kernel) rfl
theorem dL_law_2173 : decode cL_law 2173 = .ok (.iconst 1, 1) := dec_w [0x04] (pc9 (k := 2112) (j := 61) lwD_33 rfl) (by decide +kernel) rfl
theorem dL_law_2174 : decode cL_law 2174 = .ok (.goto 4, 3) := dec_w [0xa7, 0x00, 0x04] (pc9 (k := 2112) (j := 62) lwD_33 rfl) (by decide +kernel) rfl
theorem dL_law_2177 : decode cL_law 2177 = .ok (.iconst 0, 1) := dec_w [0x03] (pc9 (k := 2176) (j := 1) lwD_34 rfl) (by decide +kernel) rfl
theorem dL_law_2178 : decode cL_law 2178 = .ok (.invokevirtual 335, 3) := dec_w [0xb6, 0x01, 0x4f] (pc9 (k := 2176) (j := 2) lwD_34 rfl) (by decide +kernel) rfl
theorem dL_law_2181 : decode cL_law 2181 = .ok (.istore 7, 2) := dec_w [0x36, 0x07] (pc9 (k := 2176) (j := 5) lwD_34 rfl) (by decide +kernel) rfl
theorem dL_law_2183 : decode cL_law 2183 = .ok (.goto 541, 3) := dec_w [0xa7, 0x02, 0x1d] (pc9 (k := 2176) (j := 7) lwD_34 rfl) (by decide +kernel) rfl
theorem dL_law_2186 : decode cL_law 2186 = .ok (.aload_n 1, 1) := dec_w [0x2b] (pc9 (k := 2176) (j := 10) lwD_34 rfl) (by decide +kernel) rfl
theorem dL_law_2187 : decode cL_law 2187 = .ok (.aload_n 0, 1) := dec_w [0x2a] (pc9 (k := 2176) (j := 11) lwD_34 rfl) (by decide +kernel) rfl
theorem dL_law_2188 : decode cL_law 2188 = .ok (.iload 5, 2) := dec_w [0x15, 0x05] (pc9 (k := 2176) (j := 12) lwD_34 rfl) (by decide +kernel) rfl
theorem dL_law_2190 : decode cL_law 2190 = .ok (.iconst 1, 1) := dec_w [0x04] (pc9 (k := 2176) (j := 14) lwD_34 rfl) (by decide +kernel) rfl
theorem dL_law_2191 : decode cL_law 2191 = .ok (.iadd, 1) := dec_w [0x60] (pc9 (k := 2176) (j := 15) lwD_34 rfl) (by decide +kernel) rfl
theorem dL_law_2192 : decode cL_law 2192 = .ok (.iaload, 1) := dec_w [0x2e] (pc9 (k := 2176) (j := 16) lwD_34 rfl) (by decide +kernel) rfl
theorem dL_law_2193 : decode cL_law 2193 = .ok (.aload_n 0, 1) := dec_w [0x2a] (pc9 (k := 2176) (j := 17) lwD_34 rfl) (by decide +kernel) rfl
theorem dL_law_2194 : decode cL_law 2194 = .ok (.iload 5, 2) := dec_w [0x15, 0x05] (pc9 (k := 2176) (j := 18) lwD_34 rfl) (by decide +kernel) rfl
theorem dL_law_2196 : decode cL_law 2196 = .ok (.iconst 2, 1) := dec_w [0x05] (pc9 (k := 2176) (j := 20) lwD_34 rfl) (by decide +kernel) rfl
theorem dL_law_2197 : decode cL_law 2197 = .ok (.iadd, 1) := dec_w [0x60] (pc9 (k := 2176) (j := 21) lwD_34 rfl) (by decide +kernel) rfl
theorem dL_law_2198 : decode cL_law 2198 = .ok (.iaload, 1) := dec_w [0x2e] (pc9 (k := 2176) (j := 22) lwD_34 rfl) (by decide +kernel) rfl
theorem dL_law_2199 : decode cL_law 2199 = .ok (.aload_n 0, 1) := dec_w [0x2a] (pc9 (k := 2176) (j := 23) lwD_34 rfl) (by decide +kernel) rfl
theorem dL_law_2200 : decode cL_law 2200 = .ok (.iload 5, 2) := dec_w [0x15, 0x05] (pc9 (k := 2176) (j := 24) lwD_34 rfl) (by decide +kernel) rfl
theorem dL_law_2202 : decode cL_law 2202 = .ok (.iconst 3, 1) := dec_w [0x06] (pc9 (k := 2176) (j := 26) lwD_34 rfl) (by decide +kernel) rfl
theorem dL_law_2203 : decode cL_law 2203 = .ok (.iadd, 1) := dec_w [0x60] (pc9 (k := 2176) (j := 27) lwD_34 rfl) (by decide +kernel) rfl
theorem dL_law_2204 : decode cL_law 2204 = .ok (.iaload, 1) := dec_w [0x2e] (pc9 (k := 2176) (j := 28) lwD_34 rfl) (by decide +kernel) rfl
theorem dL_law_2205 : decode cL_law 2205 = .ok (.aload_n 0, 1) := dec_w [0x2a] (pc9 (k := 2176) (j := 29) lwD_34 rfl) (by decide +kernel) rfl
theorem dL_law_2206 : decode cL_law 2206 = .ok (.iload 5, 2) := dec_w [0x15, 0x05] (pc9 (k := 2176) (j := 30) lwD_34 rfl) (by decide +kernel) rfl
theorem dL_law_2208 : decode cL_law 2208 = .ok (.iconst 4, 1) := dec_w [0x07] (pc9 (k := 2176) (j := 32) lwD_34 rfl) (by decide +kernel) rfl
theorem dL_law_2209 : decode cL_law 2209 = .ok (.iadd, 1) := dec_w [0x60] (pc9 (k := 2176) (j := 33) lwD_34 rfl) (by decide +kernel) rfl
theorem dL_law_2210 : decode cL_law 2210 = .ok (.iaload, 1) := dec_w [0x2e] (pc9 (k := 2176) (j := 34) lwD_34 rfl) (by decide +kernel) rfl
theorem dL_law_2211 : decode cL_law 2211 = .ok (.ifCond .eq 7, 3) := dec_w [0x99, 0x00, 0x07] (pc9 (k := 2176) (j := 35) lwD_34 rfl) (by decide +kernel) rfl
theorem dL_law_2214 : decode cL_law 2214 = .ok (.iconst 1, 1) := dec_w [0x04] (pc9 (k := 2176) (j := 38) lwD_34 rfl) (by decide +kernel) rfl
theorem dL_law_2215 : decode cL_law 2215 = .ok (.goto 4, 3) := dec_w [0xa7, 0x00, 0x04] (pc9 (k := 2176) (j := 39) lwD_34 rfl) (by decide +kernel) rfl
theorem dL_law_2218 : decode cL_law 2218 = .ok (.iconst 0, 1) := dec_w [0x03] (pc9 (k := 2176) (j := 42) lwD_34 rfl) (by decide +kernel) rfl
theorem dL_law_2219 : decode cL_law 2219 = .ok (.aload_n 3, 1) := dec_w [0x2d] (pc9 (k := 2176) (j := 43) lwD_34 rfl) (by decide +kernel) rfl
theorem dL_law_2220 : decode cL_law 2220 = .ok (.invokestatic 336, 3) := dec_w [0xb8, 0x01, 0x50] (pc9 (k := 2176) (j := 44) lwD_34 rfl) (by decide +kernel) rfl
theorem dL_law_2223 : decode cL_law 2223 = .ok (.istore 6, 2) := dec_w [0x36, 0x06] (pc9 (k := 2176) (j := 47) lwD_34 rfl) (by decide +kernel) rfl
theorem dL_law_2225 : decode cL_law 2225 = .ok (.aload_n 2, 1) := dec_w [0x2c] (pc9 (k := 2176) (j := 49) lwD_34 rfl) (by decide +kernel) rfl
theorem dL_law_2226 : decode cL_law 2226 = .ok (.aload_n 0, 1) := dec_w [0x2a] (pc9 (k := 2176) (j := 50) lwD_34 rfl) (by decide +kernel) rfl
theorem dL_law_2227 : decode cL_law 2227 = .ok (.iload 5, 2) := dec_w [0x15, 0x05] (pc9 (k := 2176) (j := 51) lwD_34 rfl) (by decide +kernel) rfl
theorem dL_law_2229 : decode cL_law 2229 = .ok (.iconst 1, 1) := dec_w [0x04] (pc9 (k := 2176) (j := 53) lwD_34 rfl) (by decide +kernel) rfl
theorem dL_law_2230 : decode cL_law 2230 = .ok (.iadd, 1) := dec_w [0x60] (pc9 (k := 2176) (j := 54) lwD_34 rfl) (by decide +kernel) rfl
theorem dL_law_2231 : decode cL_law 2231 = .ok (.iaload, 1) := dec_w [0x2e] (pc9 (k := 2176) (j := 55) lwD_34 rfl) (by decide +kernel) rfl
theorem dL_law_2232 : decode cL_law 2232 = .ok (.aload_n 0, 1) := dec_w [0x2a] (pc9 (k := 2176) (j := 56) lwD_34 rfl) (by decide +kernel) rfl
theorem dL_law_2233 : decode cL_law 2233 = .ok (.iload 5, 2) := dec_w [0x15, 0x05] (pc9 (k := 2176) (j := 57) lwD_34 rfl) (by decide +kernel) rfl
theorem dL_law_2235 : decode cL_law 2235 = .ok (.iconst 2, 1) := dec_w [0x05] (pc9 (k := 2176) (j := 59) lwD_34 rfl) (by decide +kernel) rfl
theorem dL_law_2236 : decode cL_law 2236 = .ok (.iadd, 1) := dec_w [0x60] (pc9 (k := 2176) (j := 60) lwD_34 rfl) (by decide +kernel) rfl
theorem dL_law_2237 : decode cL_law 2237 = .ok (.iaload, 1) := dec_w [0x2e] (pc9 (k := 2176) (j := 61) lwD_34 rfl) (by decide +kernel) rfl
theorem dL_law_2238 : decode cL_law 2238 = .ok (.aload_n 0, 1) := dec_w [0x2a] (pc9 (k := 2176) (j := 62) lwD_34 rfl) (by decide +kernel) rfl
theorem dL_law_2239 : decode cL_law 2239 = .ok (.iload 5, 2) := dec_w [0x15, 0x05] (pc9 (k := 2176) (j := 63) lwD_34 rfl) (by decide +kernel) rfl
theorem dL_law_2241 : decode cL_law 2241 = .ok (.iconst 3, 1) := dec_w [0x06] (pc9 (k := 2240) (j := 1) lwD_35 rfl) (by decide +kernel) rfl
theorem dL_law_2242 : decode cL_law 2242 = .ok (.iadd, 1) := dec_w [0x60] (pc9 (k := 2240) (j := 2) lwD_35 rfl) (by decide +kernel) rfl
theorem dL_law_2243 : decode cL_law 2243 = .ok (.iaload, 1) := dec_w [0x2e] (pc9 (k := 2240) (j := 3) lwD_35 rfl) (by decide +kernel) rfl
theorem dL_law_2244 : decode cL_law 2244 = .ok (.aload_n 0, 1) := dec_w [0x2a] (pc9 (k := 2240) (j := 4) lwD_35 rfl) (by decide +kernel) rfl
theorem dL_law_2245 : decode cL_law 2245 = .ok (.iload 5, 2) := dec_w [0x15, 0x05] (pc9 (k := 2240) (j := 5) lwD_35 rfl) (by decide +kernel) rfl
theorem dL_law_2247 : decode cL_law 2247 = .ok (.iconst 4, 1) := dec_w [0x07] (pc9 (k := 2240) (j := 7) lwD_35 rfl) (by decide +kernel) rfl
theorem dL_law_2248 : decode cL_law 2248 = .ok (.iadd, 1) := dec_w [0x60] (pc9 (k := 2240) (j := 8) lwD_35 rfl) (by decide +kernel) rfl
theorem dL_law_2249 : decode cL_law 2249 = .ok (.iaload, 1) := dec_w [0x2e] (pc9 (k := 2240) (j := 9) lwD_35 rfl) (by decide +kernel) rfl
theorem dL_law_2250 : decode cL_law 2250 = .ok (.ifCond .eq 7, 3) := dec_w [0x99, 0x00, 0x07] (pc9 (k := 2240) (j := 10) lwD_35 rfl) (by decide +kernel) rfl
theorem dL_law_2253 : decode cL_law 2253 = .ok (.iconst 1, 1) := dec_w [0x04] (pc9 (k := 2240) (j := 13) lwD_35 rfl) (by decide +kernel) rfl
theorem dL_law_2254 : decode cL_law 2254 = .ok (.goto 4, 3) := dec_w [0xa7, 0x00, 0x04] (pc9 (k := 2240) (j := 14) lwD_35 rfl) (by decide +kernel) rfl
theorem dL_law_2257 : decode cL_law 2257 = .ok (.iconst 0, 1) := dec_w [0x03] (pc9 (k := 2240) (j := 17) lwD_35 rfl) (by decide +kernel) rfl
theorem dL_law_2258 : decode cL_law 2258 = .ok (.invokevirtual 338, 3) := dec_w [0xb6, 0x01, 0x52] (pc9 (k := 2240) (j := 18) lwD_35 rfl) (by decide +kernel) rfl
theorem dL_law_2261 : decode cL_law 2261 = .ok (.istore 7, 2) := dec_w [0x36, 0x07] (pc9 (k := 2240) (j := 21) lwD_35 rfl) (by decide +kernel) rfl
theorem dL_law_2263 : decode cL_law 2263 = .ok (.goto 461, 3) := dec_w [0xa7, 0x01, 0xcd] (pc9 (k := 2240) (j := 23) lwD_35 rfl) (by decide +kernel) rfl
theorem dL_law_2266 : decode cL_law 2266 = .ok (.aload_n 1, 1) := dec_w [0x2b] (pc9 (k := 2240) (j := 26) lwD_35 rfl) (by decide +kernel) rfl
theorem dL_law_2267 : decode cL_law 2267 = .ok (.aload_n 0, 1) := dec_w [0x2a] (pc9 (k := 2240) (j := 27) lwD_35 rfl) (by decide +kernel) rfl
theorem dL_law_2268 : decode cL_law 2268 = .ok (.iload 5, 2) := dec_w [0x15, 0x05] (pc9 (k := 2240) (j := 28) lwD_35 rfl) (by decide +kernel) rfl
theorem dL_law_2270 : decode cL_law 2270 = .ok (.iconst 1, 1) := dec_w [0x04] (pc9 (k := 2240) (j := 30) lwD_35 rfl) (by decide +kernel) rfl
theorem dL_law_2271 : decode cL_law 2271 = .ok (.iadd, 1) := dec_w [0x60] (pc9 (k := 2240) (j := 31) lwD_35 rfl) (by decide +kernel) rfl
theorem dL_law_2272 : decode cL_law 2272 = .ok (.iaload, 1) := dec_w [0x2e] (pc9 (k := 2240) (j := 32) lwD_35 rfl) (by decide +kernel) rfl
theorem dL_law_2273 : decode cL_law 2273 = .ok (.aload_n 0, 1) := dec_w [0x2a] (pc9 (k := 2240) (j := 33) lwD_35 rfl) (by decide +kernel) rfl
theorem dL_law_2274 : decode cL_law 2274 = .ok (.iload 5, 2) := dec_w [0x15, 0x05] (pc9 (k := 2240) (j := 34) lwD_35 rfl) (by decide +kernel) rfl
theorem dL_law_2276 : decode cL_law 2276 = .ok (.iconst 2, 1) := dec_w [0x05] (pc9 (k := 2240) (j := 36) lwD_35 rfl) (by decide +kernel) rfl
theorem dL_law_2277 : decode cL_law 2277 = .ok (.iadd, 1) := dec_w [0x60] (pc9 (k := 2240) (j := 37) lwD_35 rfl) (by decide +kernel) rfl
theorem dL_law_2278 : decode cL_law 2278 = .ok (.iaload, 1) := dec_w [0x2e] (pc9 (k := 2240) (j := 38) lwD_35 rfl) (by decide +kernel) rfl
theorem dL_law_2279 : decode cL_law 2279 = .ok (.aload_n 3, 1) := dec_w [0x2d] (pc9 (k := 2240) (j := 39) lwD_35 rfl) (by decide +kernel) rfl
theorem dL_law_2280 : decode cL_law 2280 = .ok (.invokestatic 339, 3) := dec_w [0xb8, 0x01, 0x53] (pc9 (k := 2240) (j := 40) lwD_35 rfl) (by decide +kernel) rfl
theorem dL_law_2283 : decode cL_law 2283 = .ok (.istore 6, 2) := dec_w [0x36, 0x06] (pc9 (k := 2240) (j := 43) lwD_35 rfl) (by decide +kernel) rfl
theorem dL_law_2285 : decode cL_law 2285 = .ok (.aload_n 2, 1) := dec_w [0x2c] (pc9 (k := 2240) (j := 45) lwD_35 rfl) (by decide +kernel) rfl
theorem dL_law_2286 : decode cL_law 2286 = .ok (.aload_n 0, 1) := dec_w [0x2a] (pc9 (k := 2240) (j := 46) lwD_35 rfl) (by decide +kernel) rfl
theorem dL_law_2287 : decode cL_law 2287 = .ok (.iload 5, 2) := dec_w [0x15, 0x05] (pc9 (k := 2240) (j := 47) lwD_35 rfl) (by decide +kernel) rfl
theorem dL_law_2289 : decode cL_law 2289 = .ok (.iconst 1, 1) := dec_w [0x04] (pc9 (k := 2240) (j := 49) lwD_35 rfl) (by decide +kernel) rfl
theorem dL_law_2290 : decode cL_law 2290 = .ok (.iadd, 1) := dec_w [0x60] (pc9 (k := 2240) (j := 50) lwD_35 rfl) (by decide +kernel) rfl
theorem dL_law_2291 : decode cL_law 2291 = .ok (.iaload, 1) := dec_w [0x2e] (pc9 (k := 2240) (j := 51) lwD_35 rfl) (by decide +kernel) rfl
theorem dL_law_2292 : decode cL_law 2292 = .ok (.aload_n 0, 1) := dec_w [0x2a] (pc9 (k := 2240) (j := 52) lwD_35 rfl) (by decide +kernel) rfl
theorem dL_law_2293 : decode cL_law 2293 = .ok (.iload 5, 2) := dec_w [0x15, 0x05] (pc9 (k := 2240) (j := 53) lwD_35 rfl) (by decide +kernel) rfl
theorem dL_law_2295 : decode cL_law 2295 = .ok (.iconst 2, 1) := dec_w [0x05] (pc9 (k := 2240) (j := 55) lwD_35 rfl) (by decide +kernel) rfl
theorem dL_law_2296 : decode cL_law 2296 = .ok (.iadd, 1) := dec_w [0x60] (pc9 (k := 2240) (j := 56) lwD_35 rfl) (by decide +kernel) rfl
theorem dL_law_2297 : decode cL_law 2297 = .ok (.iaload, 1) := dec_w [0x2e] (pc9 (k := 2240) (j := 57) lwD_35 rfl) (by decide +kernel) rfl
theorem dL_law_2298 : decode cL_law 2298 = .ok (.invokevirtual 341, 3) := dec_w [0xb6, 0x01, 0x55] (pc9 (k := 2240) (j := 58) lwD_35 rfl) (by decide +kernel) rfl
theorem dL_law_2301 : decode cL_law 2301 = .ok (.istore 7, 2) := dec_w [0x36, 0x07] (pc9 (k := 2240) (j := 61) lwD_35 rfl) (by decide +kernel) rfl
theorem dL_law_2303 : decode cL_law 2303 = .ok (.goto 421, 3) := dec_w [0xa7, 0x01, 0xa5] (pc9 (k := 2240) (j := 63) lwD_35 rfl) (by decide +kernel) rfl
theorem dL_law_2306 : decode cL_law 2306 = .ok (.aload_n 1, 1) := dec_w [0x2b] (pc9 (k := 2304) (j := 2) lwD_36 rfl) (by decide +kernel) rfl
theorem dL_law_2307 : decode cL_law 2307 = .ok (.aload_n 0, 1) := dec_w [0x2a] (pc9 (k := 2304) (j := 3) lwD_36 rfl) (by decide +kernel) rfl
theorem dL_law_2308 : decode cL_law 2308 = .ok (.iload 5, 2) := dec_w [0x15, 0x05] (pc9 (k := 2304) (j := 4) lwD_36 rfl) (by decide +kernel) rfl
theorem dL_law_2310 : decode cL_law 2310 = .ok (.iconst 1, 1) := dec_w [0x04] (pc9 (k := 2304) (j := 6) lwD_36 rfl) (by decide +kernel) rfl
theorem dL_law_2311 : decode cL_law 2311 = .ok (.iadd, 1) := dec_w [0x60] (pc9 (k := 2304) (j := 7) lwD_36 rfl) (by decide +kernel) rfl
theorem dL_law_2312 : decode cL_law 2312 = .ok (.iaload, 1) := dec_w [0x2e] (pc9 (k := 2304) (j := 8) lwD_36 rfl) (by decide +kernel) rfl
theorem dL_law_2313 : decode cL_law 2313 = .ok (.aload_n 0, 1) := dec_w [0x2a] (pc9 (k := 2304) (j := 9) lwD_36 rfl) (by decide +kernel) rfl
theorem dL_law_2314 : decode cL_law 2314 = .ok (.iload 5, 2) := dec_w [0x15, 0x05] (pc9 (k := 2304) (j := 10) lwD_36 rfl) (by decide +kernel) rfl
theorem dL_law_2316 : decode cL_law 2316 = .ok (.iconst 2, 1) := dec_w [0x05] (pc9 (k := 2304) (j := 12) lwD_36 rfl) (by decide +kernel) rfl
theorem dL_law_2317 : decode cL_law 2317 = .ok (.iadd, 1) := dec_w [0x60] (pc9 (k := 2304) (j := 13) lwD_36 rfl) (by decide +kernel) rfl
theorem dL_law_2318 : decode cL_law 2318 = .ok (.iaload, 1) := dec_w [0x2e] (pc9 (k := 2304) (j := 14) lwD_36 rfl) (by decide +kernel) rfl
theorem dL_law_2319 : decode cL_law 2319 = .ok (.aload_n 3, 1) := dec_w [0x2d] (pc9 (k := 2304) (j := 15) lwD_36 rfl) (by decide +kernel) rfl
theorem dL_law_2320 : decode cL_law 2320 = .ok (.invokestatic 342, 3) := dec_w [0xb8, 0x01, 0x56] (pc9 (k := 2304) (j := 16) lwD_36 rfl) (by decide +kernel) rfl
theorem dL_law_2323 : decode cL_law 2323 = .ok (.istore 6, 2) := dec_w [0x36, 0x06] (pc9 (k := 2304) (j := 19) lwD_36 rfl) (by decide +kernel) rfl
theorem dL_law_2325 : decode cL_law 2325 = .ok (.aload_n 2, 1) := dec_w [0x2c] (pc9 (k := 2304) (j := 21) lwD_36 rfl) (by decide +kernel) rfl
theorem dL_law_2326 : decode cL_law 2326 = .ok (.aload_n 0, 1) := dec_w [0x2a] (pc9 (k := 2304) (j := 22) lwD_36 rfl) (by decide +kernel) rfl
theorem dL_law_2327 : decode cL_law 2327 = .ok (.iload 5, 2) := dec_w [0x15, 0x05] (pc9 (k := 2304) (j := 23) lwD_36 rfl) (by decide +kernel) rfl
theorem dL_law_2329 : decode cL_law 2329 = .ok (.iconst 1, 1) := dec_w [0x04] (pc9 (k := 2304) (j := 25) lwD_36 rfl) (by decide +kernel) rfl
theorem dL_law_2330 : decode cL_law 2330 = .ok (.iadd, 1) := dec_w [0x60] (pc9 (k := 2304) (j := 26) lwD_36 rfl) (by decide +kernel) rfl
theorem dL_law_2331 : decode cL_law 2331 = .ok (.iaload, 1) := dec_w [0x2e] (pc9 (k := 2304) (j := 27) lwD_36 rfl) (by decide +kernel) rfl
theorem dL_law_2332 : decode cL_law 2332 = .ok (.aload_n 0, 1) := dec_w [0x2a] (pc9 (k := 2304) (j := 28) lwD_36 rfl) (by decide +kernel) rfl
theorem dL_law_2333 : decode cL_law 2333 = .ok (.iload 5, 2) := dec_w [0x15, 0x05] (pc9 (k := 2304) (j := 29) lwD_36 rfl) (by decide +kernel) rfl
theorem dL_law_2335 : decode cL_law 2335 = .ok (.iconst 2, 1) := dec_w [0x05] (pc9 (k := 2304) (j := 31) lwD_36 rfl) (by decide +kernel) rfl
theorem dL_law_2336 : decode cL_law 2336 = .ok (.iadd, 1) := dec_w [0x60] (pc9 (k := 2304) (j := 32) lwD_36 rfl) (by decide +kernel) rfl
theorem dL_law_2337 : decode cL_law 2337 = .ok (.iaload, 1) := dec_w [0x2e] (pc9 (k := 2304) (j := 33) lwD_36 rfl) (by decide +kernel) rfl
theorem dL_law_2338 : decode cL_law 2338 = .ok (.invokevirtual 344, 3) := dec_w [0xb6, 0x01, 0x58] (pc9 (k := 2304) (j := 34) lwD_36 rfl) (by decide +kernel) rfl
theorem dL_law_2341 : decode cL_law 2341 = .ok (.istore 7, 2) := dec_w [0x36, 0x07] (pc9 (k := 2304) (j := 37) lwD_36 rfl) (by decide +kernel) rfl
theorem dL_law_2343 : decode cL_law 2343 = .ok (.goto 381, 3) := dec_w [0xa7, 0x01, 0x7d] (pc9 (k := 2304) (j := 39) lwD_36 rfl) (by decide +kernel) rfl
theorem dL_law_2346 : decode cL_law 2346 = .ok (.aload_n 1, 1) := dec_w [0x2b] (pc9 (k := 2304) (j := 42) lwD_36 rfl) (by decide +kernel) rfl
theorem dL_law_2347 : decode cL_law 2347 = .ok (.aload_n 0, 1) := dec_w [0x2a] (pc9 (k := 2304) (j := 43) lwD_36 rfl) (by decide +kernel) rfl
theorem dL_law_2348 : decode cL_law 2348 = .ok (.iload 5, 2) := dec_w [0x15, 0x05] (pc9 (k := 2304) (j := 44) lwD_36 rfl) (by decide +kernel) rfl
theorem dL_law_2350 : decode cL_law 2350 = .ok (.iconst 1, 1) := dec_w [0x04] (pc9 (k := 2304) (j := 46) lwD_36 rfl) (by decide +kernel) rfl
theorem dL_law_2351 : decode cL_law 2351 = .ok (.iadd, 1) := dec_w [0x60] (pc9 (k := 2304) (j := 47) lwD_36 rfl) (by decide +kernel) rfl
theorem dL_law_2352 : decode cL_law 2352 = .ok (.iaload, 1) := dec_w [0x2e] (pc9 (k := 2304) (j := 48) lwD_36 rfl) (by decide +kernel) rfl
theorem dL_law_2353 : decode cL_law 2353 = .ok (.aload_n 0, 1) := dec_w [0x2a] (pc9 (k := 2304) (j := 49) lwD_36 rfl) (by decide +kernel) rfl
theorem dL_law_2354 : decode cL_law 2354 = .ok (.iload 5, 2) := dec_w [0x15, 0x05] (pc9 (k := 2304) (j := 50) lwD_36 rfl) (by decide +kernel) rfl
theorem dL_law_2356 : decode cL_law 2356 = .ok (.iconst 2, 1) := dec_w [0x05] (pc9 (k := 2304) (j := 52) lwD_36 rfl) (by decide +kernel) rfl
theorem dL_law_2357 : decode cL_law 2357 = .ok (.iadd, 1) := dec_w [0x60] (pc9 (k := 2304) (j := 53) lwD_36 rfl) (by decide +kernel) rfl
theorem dL_law_2358 : decode cL_law 2358 = .ok (.iaload, 1) := dec_w [0x2e] (pc9 (k := 2304) (j := 54) lwD_36 rfl) (by decide +kernel) rfl
theorem dL_law_2359 : decode cL_law 2359 = .ok (.aload_n 3, 1) := dec_w [0x2d] (pc9 (k := 2304) (j := 55) lwD_36 rfl) (by decide +kernel) rfl
theorem dL_law_2360 : decode cL_law 2360 = .ok (.invokestatic 345, 3) := dec_w [0xb8, 0x01, 0x59] (pc9 (k := 2304) (j := 56) lwD_36 rfl) (by decide +kernel) rfl
theorem dL_law_2363 : decode cL_law 2363 = .ok (.istore 6, 2) := dec_w [0x36, 0x06] (pc9 (k := 2304) (j := 59) lwD_36 rfl) (by decide +kernel) rfl
theorem dL_law_2365 : decode cL_law 2365 = .ok (.aload_n 2, 1) := dec_w [0x2c] (pc9 (k := 2304) (j := 61) lwD_36 rfl) (by decide +kernel) rfl
theorem dL_law_2366 : decode cL_law 2366 = .ok (.aload_n 0, 1) := dec_w [0x2a] (pc9 (k := 2304) (j := 62) lwD_36 rfl) (by decide +kernel) rfl
theorem dL_law_2367 : decode cL_law 2367 = .ok (.iload 5, 2) := dec_w [0x15, 0x05] (pc9 (k := 2304) (j := 63) lwD_36 rfl) (by decide +kernel) rfl
theorem dL_law_2369 : decode cL_law 2369 = .ok (.iconst 1, 1) := dec_w [0x04] (pc9 (k := 2368) (j := 1) lwD_37 rfl) (by decide +kernel) rfl
theorem dL_law_2370 : decode cL_law 2370 = .ok (.iadd, 1) := dec_w [0x60] (pc9 (k := 2368) (j := 2) lwD_37 rfl) (by decide +kernel) rfl
theorem dL_law_2371 : decode cL_law 2371 = .ok (.iaload, 1) := dec_w [0x2e] (pc9 (k := 2368) (j := 3) lwD_37 rfl) (by decide +kernel) rfl
theorem dL_law_2372 : decode cL_law 2372 = .ok (.aload_n 0, 1) := dec_w [0x2a] (pc9 (k := 2368) (j := 4) lwD_37 rfl) (by decide +kernel) rfl
theorem dL_law_2373 : decode cL_law 2373 = .ok (.iload 5, 2) := dec_w [0x15, 0x05] (pc9 (k := 2368) (j := 5) lwD_37 rfl) (by decide +kernel) rfl
theorem dL_law_2375 : decode cL_law 2375 = .ok (.iconst 2, 1) := dec_w [0x05] (pc9 (k := 2368) (j := 7) lwD_37 rfl) (by decide +kernel) rfl
theorem dL_law_2376 : decode cL_law 2376 = .ok (.iadd, 1) := dec_w [0x60] (pc9 (k := 2368) (j := 8) lwD_37 rfl) (by decide +kernel) rfl
theorem dL_law_2377 : decode cL_law 2377 = .ok (.iaload, 1) := dec_w [0x2e] (pc9 (k := 2368) (j := 9) lwD_37 rfl) (by decide +kernel) rfl
theorem dL_law_2378 : decode cL_law 2378 = .ok (.invokevirtual 347, 3) := dec_w [0xb6, 0x01, 0x5b] (pc9 (k := 2368) (j := 10) lwD_37 rfl) (by decide +kernel) rfl
theorem dL_law_2381 : decode cL_law 2381 = .ok (.istore 7, 2) := dec_w [0x36, 0x07] (pc9 (k := 2368) (j := 13) lwD_37 rfl) (by decide +kernel) rfl
theorem dL_law_2383 : decode cL_law 2383 = .ok (.goto 341, 3) := dec_w [0xa7, 0x01, 0x55] (pc9 (k := 2368) (j := 15) lwD_37 rfl) (by decide +kernel) rfl
theorem dL_law_2386 : decode cL_law 2386 = .ok (.aload_n 1, 1) := dec_w [0x2b] (pc9 (k := 2368) (j := 18) lwD_37 rfl) (by decide +kernel) rfl
theorem dL_law_2387 : decode cL_law 2387 = .ok (.aload_n 0, 1) := dec_w [0x2a] (pc9 (k := 2368) (j := 19) lwD_37 rfl) (by decide +kernel) rfl
theorem dL_law_2388 : decode cL_law 2388 = .ok (.iload 5, 2) := dec_w [0x15, 0x05] (pc9 (k := 2368) (j := 20) lwD_37 rfl) (by decide +kernel) rfl
theorem dL_law_2390 : decode cL_law 2390 = .ok (.iconst 1, 1) := dec_w [0x04] (pc9 (k := 2368) (j := 22) lwD_37 rfl) (by decide +kernel) rfl
theorem dL_law_2391 : decode cL_law 2391 = .ok (.iadd, 1) := dec_w [0x60] (pc9 (k := 2368) (j := 23) lwD_37 rfl) (by decide +kernel) rfl
theorem dL_law_2392 : decode cL_law 2392 = .ok (.iaload, 1) := dec_w [0x2e] (pc9 (k := 2368) (j := 24) lwD_37 rfl) (by decide +kernel) rfl
theorem dL_law_2393 : decode cL_law 2393 = .ok (.aload_n 0, 1) := dec_w [0x2a] (pc9 (k := 2368) (j := 25) lwD_37 rfl) (by decide +kernel) rfl
theorem dL_law_2394 : decode cL_law 2394 = .ok (.iload 5, 2) := dec_w [0x15, 0x05] (pc9 (k := 2368) (j := 26) lwD_37 rfl) (by decide +kernel) rfl
theorem dL_law_2396 : decode cL_law 2396 = .ok (.iconst 2, 1) := dec_w [0x05] (pc9 (k := 2368) (j := 28) lwD_37 rfl) (by decide +kernel) rfl
theorem dL_law_2397 : decode cL_law 2397 = .ok (.iadd, 1) := dec_w [0x60] (pc9 (k := 2368) (j := 29) lwD_37 rfl) (by decide +kernel) rfl
theorem dL_law_2398 : decode cL_law 2398 = .ok (.iaload, 1) := dec_w [0x2e] (pc9 (k := 2368) (j := 30) lwD_37 rfl) (by decide +kernel) rfl
theorem dL_law_2399 : decode cL_law 2399 = .ok (.aload_n 0, 1) := dec_w [0x2a] (pc9 (k := 2368) (j := 31) lwD_37 rfl) (by decide +kernel) rfl
theorem dL_law_2400 : decode cL_law 2400 = .ok (.iload 5, 2) := dec_w [0x15, 0x05] (pc9 (k := 2368) (j := 32) lwD_37 rfl) (by decide +kernel) rfl
theorem dL_law_2402 : decode cL_law 2402 = .ok (.iconst 3, 1) := dec_w [0x06] (pc9 (k := 2368) (j := 34) lwD_37 rfl) (by decide +kernel) rfl
theorem dL_law_2403 : decode cL_law 2403 = .ok (.iadd, 1) := dec_w [0x60] (pc9 (k := 2368) (j := 35) lwD_37 rfl) (by decide +kernel) rfl
theorem dL_law_2404 : decode cL_law 2404 = .ok (.iaload, 1) := dec_w [0x2e] (pc9 (k := 2368) (j := 36) lwD_37 rfl) (by decide +kernel) rfl
theorem dL_law_2405 : decode cL_law 2405 = .ok (.aload_n 3, 1) := dec_w [0x2d] (pc9 (k := 2368) (j := 37) lwD_37 rfl) (by decide +kernel) rfl
theorem dL_law_2406 : decode cL_law 2406 = .ok (.invokestatic 348, 3) := dec_w [0xb8, 0x01, 0x5c] (pc9 (k := 2368) (j := 38) lwD_37 rfl) (by decide +kernel) rfl
theorem dL_law_2409 : decode cL_law 2409 = .ok (.istore 6, 2) := dec_w [0x36, 0x06] (pc9 (k := 2368) (j := 41) lwD_37 rfl) (by decide +kernel) rfl
theorem dL_law_2411 : decode cL_law 2411 = .ok (.aload_n 2, 1) := dec_w [0x2c] (pc9 (k := 2368) (j := 43) lwD_37 rfl) (by decide +kernel) rfl
theorem dL_law_2412 : decode cL_law 2412 = .ok (.aload_n 0, 1) := dec_w [0x2a] (pc9 (k := 2368) (j := 44) lwD_37 rfl) (by decide +kernel) rfl
theorem dL_law_2413 : decode cL_law 2413 = .ok (.iload 5, 2) := dec_w [0x15, 0x05] (pc9 (k := 2368) (j := 45) lwD_37 rfl) (by decide +kernel) rfl
theorem dL_law_2415 : decode cL_law 2415 = .ok (.iconst 1, 1) := dec_w [0x04] (pc9 (k := 2368) (j := 47) lwD_37 rfl) (by decide +kernel) rfl
theorem dL_law_2416 : decode cL_law 2416 = .ok (.iadd, 1) := dec_w [0x60] (pc9 (k := 2368) (j := 48) lwD_37 rfl) (by decide +kernel) rfl
theorem dL_law_2417 : decode cL_law 2417 = .ok (.iaload, 1) := dec_w [0x2e] (pc9 (k := 2368) (j := 49) lwD_37 rfl) (by decide +kernel) rfl
theorem dL_law_2418 : decode cL_law 2418 = .ok (.aload_n 0, 1) := dec_w [0x2a] (pc9 (k := 2368) (j := 50) lwD_37 rfl) (by decide +kernel) rfl
theorem dL_law_2419 : decode cL_law 2419 = .ok (.iload 5, 2) := dec_w [0x15, 0x05] (pc9 (k := 2368) (j := 51) lwD_37 rfl) (by decide +kernel) rfl
theorem dL_law_2421 : decode cL_law 2421 = .ok (.iconst 2, 1) := dec_w [0x05] (pc9 (k := 2368) (j := 53) lwD_37 rfl) (by decide +kernel) rfl
theorem dL_law_2422 : decode cL_law 2422 = .ok (.iadd, 1) := dec_w [0x60] (pc9 (k := 2368) (j := 54) lwD_37 rfl) (by decide +kernel) rfl
theorem dL_law_2423 : decode cL_law 2423 = .ok (.iaload, 1) := dec_w [0x2e] (pc9 (k := 2368) (j := 55) lwD_37 rfl) (by decide +kernel) rfl
theorem dL_law_2424 : decode cL_law 2424 = .ok (.aload_n 0, 1) := dec_w [0x2a] (pc9 (k := 2368) (j := 56) lwD_37 rfl) (by decide +kernel) rfl
theorem dL_law_2425 : decode cL_law 2425 = .ok (.iload 5, 2) := dec_w [0x15, 0x05] (pc9 (k := 2368) (j := 57) lwD_37 rfl) (by decide +kernel) rfl
theorem dL_law_2427 : decode cL_law 2427 = .ok (.iconst 3, 1) := dec_w [0x06] (pc9 (k := 2368) (j := 59) lwD_37 rfl) (by decide +kernel) rfl
theorem dL_law_2428 : decode cL_law 2428 = .ok (.iadd, 1) := dec_w [0x60] (pc9 (k := 2368) (j := 60) lwD_37 rfl) (by decide +kernel) rfl
theorem dL_law_2429 : decode cL_law 2429 = .ok (.iaload, 1) := dec_w [0x2e] (pc9 (k := 2368) (j := 61) lwD_37 rfl) (by decide +kernel) rfl
theorem dL_law_2430 : decode cL_law 2430 = .ok (.invokevirtual 350, 3) := dec_w [0xb6, 0x01, 0x5e] (pc9 (k := 2368) (j := 62) lwD_37 rfl) (by decide +kernel) rfl
theorem dL_law_2433 : decode cL_law 2433 = .ok (.istore 7, 2) := dec_w [0x36, 0x07] (pc9 (k := 2432) (j := 1) lwD_38 rfl) (by decide +kernel) rfl
theorem dL_law_2435 : decode cL_law 2435 = .ok (.goto 289, 3) := dec_w [0xa7, 0x01, 0x21] (pc9 (k := 2432) (j := 3) lwD_38 rfl) (by decide +kernel) rfl
theorem dL_law_2438 : decode cL_law 2438 = .ok (.aload_n 1, 1) := dec_w [0x2b] (pc9 (k := 2432) (j := 6) lwD_38 rfl) (by decide +kernel) rfl
theorem dL_law_2439 : decode cL_law 2439 = .ok (.aload_n 0, 1) := dec_w [0x2a] (pc9 (k := 2432) (j := 7) lwD_38 rfl) (by decide +kernel) rfl
theorem dL_law_2440 : decode cL_law 2440 = .ok (.iload 5, 2) := dec_w [0x15, 0x05] (pc9 (k := 2432) (j := 8) lwD_38 rfl) (by decide +kernel) rfl
theorem dL_law_2442 : decode cL_law 2442 = .ok (.iconst 1, 1) := dec_w [0x04] (pc9 (k := 2432) (j := 10) lwD_38 rfl) (by decide +kernel) rfl
theorem dL_law_2443 : decode cL_law 2443 = .ok (.iadd, 1) := dec_w [0x60] (pc9 (k := 2432) (j := 11) lwD_38 rfl) (by decide +kernel) rfl
theorem dL_law_2444 : decode cL_law 2444 = .ok (.iaload, 1) := dec_w [0x2e] (pc9 (k := 2432) (j := 12) lwD_38 rfl) (by decide +kernel) rfl
theorem dL_law_2445 : decode cL_law 2445 = .ok (.aload_n 0, 1) := dec_w [0x2a] (pc9 (k := 2432) (j := 13) lwD_38 rfl) (by decide +kernel) rfl
theorem dL_law_2446 : decode cL_law 2446 = .ok (.iload 5, 2) := dec_w [0x15, 0x05] (pc9 (k := 2432) (j := 14) lwD_38 rfl) (by decide +kernel) rfl
theorem dL_law_2448 : decode cL_law 2448 = .ok (.iconst 2, 1) := dec_w [0x05] (pc9 (k := 2432) (j := 16) lwD_38 rfl) (by decide +kernel) rfl
theorem dL_law_2449 : decode cL_law 2449 = .ok (.iadd, 1) := dec_w [0x60] (pc9 (k := 2432) (j := 17) lwD_38 rfl) (by decide +kernel) rfl
theorem dL_law_2450 : decode cL_law 2450 = .ok (.iaload, 1) := dec_w [0x2e] (pc9 (k := 2432) (j := 18) lwD_38 rfl) (by decide +kernel) rfl
theorem dL_law_2451 : decode cL_law 2451 = .ok (.ifCond .eq 7, 3) := dec_w [0x99, 0x00, 0x07] (pc9 (k := 2432) (j := 19) lwD_38 rfl) (by decide +kernel) rfl
theorem dL_law_2454 : decode cL_law 2454 = .ok (.iconst 1, 1) := dec_w [0x04] (pc9 (k := 2432) (j := 22) lwD_38 rfl) (by decide +kernel) rfl
theorem dL_law_2455 : decode cL_law 2455 = .ok (.goto 4, 3) := dec_w [0xa7, 0x00, 0x04] (pc9 (k := 2432) (j := 23) lwD_38 rfl) (by decide +kernel) rfl
theorem dL_law_2458 : decode cL_law 2458 = .ok (.iconst 0, 1) := dec_w [0x03] (pc9 (k := 2432) (j := 26) lwD_38 rfl) (by decide +kernel) rfl
theorem dL_law_2459 : decode cL_law 2459 = .ok (.aload_n 3, 1) := dec_w [0x2d] (pc9 (k := 2432) (j := 27) lwD_38 rfl) (by decide +kernel) rfl
theorem dL_law_2460 : decode cL_law 2460 = .ok (.invokestatic 351, 3) := dec_w [0xb8, 0x01, 0x5f] (pc9 (k := 2432) (j := 28) lwD_38 rfl) (by decide +kernel) rfl
theorem dL_law_2463 : decode cL_law 2463 = .ok (.istore 6, 2) := dec_w [0x36, 0x06] (pc9 (k := 2432) (j := 31) lwD_38 rfl) (by decide +kernel) rfl
theorem dL_law_2465 : decode cL_law 2465 = .ok (.aload_n 2, 1) := dec_w [0x2c] (pc9 (k := 2432) (j := 33) lwD_38 rfl) (by decide +kernel) rfl
theorem dL_law_2466 : decode cL_law 2466 = .ok (.aload_n 0, 1) := dec_w [0x2a] (pc9 (k := 2432) (j := 34) lwD_38 rfl) (by decide +kernel) rfl
theorem dL_law_2467 : decode cL_law 2467 = .ok (.iload 5, 2) := dec_w [0x15, 0x05] (pc9 (k := 2432) (j := 35) lwD_38 rfl) (by decide +kernel) rfl
theorem dL_law_2469 : decode cL_law 2469 = .ok (.iconst 1, 1) := dec_w [0x04] (pc9 (k := 2432) (j := 37) lwD_38 rfl) (by decide +kernel) rfl
theorem dL_law_2470 : decode cL_law 2470 = .ok (.iadd, 1) := dec_w [0x60] (pc9 (k := 2432) (j := 38) lwD_38 rfl) (by decide +kernel) rfl
theorem dL_law_2471 : decode cL_law 2471 = .ok (.iaload, 1) := dec_w [0x2e] (pc9 (k := 2432) (j := 39) lwD_38 rfl) (by decide +kernel) rfl
theorem dL_law_2472 : decode cL_law 2472 = .ok (.aload_n 0, 1) := dec_w [0x2a] (pc9 (k := 2432) (j := 40) lwD_38 rfl) (by decide +kernel) rfl
theorem dL_law_2473 : decode cL_law 2473 = .ok (.iload 5, 2) := dec_w [0x15, 0x05] (pc9 (k := 2432) (j := 41) lwD_38 rfl) (by decide +kernel) rfl
theorem dL_law_2475 : decode cL_law 2475 = .ok (.iconst 2, 1) := dec_w [0x05] (pc9 (k := 2432) (j := 43) lwD_38 rfl) (by decide +kernel) rfl
theorem dL_law_2476 : decode cL_law 2476 = .ok (.iadd, 1) := dec_w [0x60] (pc9 (k := 2432) (j := 44) lwD_38 rfl) (by decide +kernel) rfl
theorem dL_law_2477 : decode cL_law 2477 = .ok (.iaload, 1) := dec_w [0x2e] (pc9 (k := 2432) (j := 45) lwD_38 rfl) (by decide +kernel) rfl
theorem dL_law_2478 : decode cL_law 2478 = .ok (.ifCond .eq 7, 3) := dec_w [0x99, 0x00, 0x07] (pc9 (k := 2432) (j := 46) lwD_38 rfl) (by decide +kernel) rfl
theorem dL_law_2481 : decode cL_law 2481 = .ok (.iconst 1, 1) := dec_w [0x04] (pc9 (k := 2432) (j := 49) lwD_38 rfl) (by decide +kernel) rfl
theorem dL_law_2482 : decode cL_law 2482 = .ok (.goto 4, 3) := dec_w [0xa7, 0x00, 0x04] (pc9 (k := 2432) (j := 50) lwD_38 rfl) (by decide +kernel) rfl
theorem dL_law_2485 : decode cL_law 2485 = .ok (.iconst 0, 1) := dec_w [0x03] (pc9 (k := 2432) (j := 53) lwD_38 rfl) (by decide +kernel) rfl
theorem dL_law_2486 : decode cL_law 2486 = .ok (.invokevirtual 354, 3) := dec_w [0xb6, 0x01, 0x62] (pc9 (k := 2432) (j := 54) lwD_38 rfl) (by decide +kernel) rfl
theorem dL_law_2489 : decode cL_law 2489 = .ok (.istore 7, 2) := dec_w [0x36, 0x07] (pc9 (k := 2432) (j := 57) lwD_38 rfl) (by decide +kernel) rfl
theorem dL_law_2491 : decode cL_law 2491 = .ok (.goto 233, 3) := dec_w [0xa7, 0x00, 0xe9] (pc9 (k := 2432) (j := 59) lwD_38 rfl) (by decide +kernel) rfl
theorem dL_law_2494 : decode cL_law 2494 = .ok (.aload_n 1, 1) := dec_w [0x2b] (pc9 (k := 2432) (j := 62) lwD_38 rfl) (by decide +kernel) rfl
theorem dL_law_2495 : decode cL_law 2495 = .ok (.aload_n 0, 1) := dec_w [0x2a] (pc9 (k := 2432) (j := 63) lwD_38 rfl) (by decide +kernel) rfl
theorem dL_law_2496 : decode cL_law 2496 = .ok (.iload 5, 2) := dec_w [0x15, 0x05] (pc9 (k := 2496) (j := 0) lwD_39 rfl) (by decide +kernel) rfl
theorem dL_law_2498 : decode cL_law 2498 = .ok (.iconst 1, 1) := dec_w [0x04] (pc9 (k := 2496) (j := 2) lwD_39 rfl) (by decide +kernel) rfl
theorem dL_law_2499 : decode cL_law 2499 = .ok (.iadd, 1) := dec_w [0x60] (pc9 (k := 2496) (j := 3) lwD_39 rfl) (by decide +kernel) rfl
theorem dL_law_2500 : decode cL_law 2500 = .ok (.iaload, 1) := dec_w [0x2e] (pc9 (k := 2496) (j := 4) lwD_39 rfl) (by decide +kernel) rfl
theorem dL_law_2501 : decode cL_law 2501 = .ok (.aload_n 3, 1) := dec_w [0x2d] (pc9 (k := 2496) (j := 5) lwD_39 rfl) (by decide +kernel) rfl
theorem dL_law_2502 : decode cL_law 2502 = .ok (.invokestatic 355, 3) := dec_w [0xb8, 0x01, 0x63] (pc9 (k := 2496) (j := 6) lwD_39 rfl) (by decide +kernel) rfl
theorem dL_law_2505 : decode cL_law 2505 = .ok (.istore 6, 2) := dec_w [0x36, 0x06] (pc9 (k := 2496) (j := 9) lwD_39 rfl) (by decide +kernel) rfl
theorem dL_law_2507 : decode cL_law 2507 = .ok (.aload_n 2, 1) := dec_w [0x2c] (pc9 (k := 2496) (j := 11) lwD_39 rfl) (by decide +kernel) rfl
theorem dL_law_2508 : decode cL_law 2508 = .ok (.aload_n 0, 1) := dec_w [0x2a] (pc9 (k := 2496) (j := 12) lwD_39 rfl) (by decide +kernel) rfl
theorem dL_law_2509 : decode cL_law 2509 = .ok (.iload 5, 2) := dec_w [0x15, 0x05] (pc9 (k := 2496) (j := 13) lwD_39 rfl) (by decide +kernel) rfl
theorem dL_law_2511 : decode cL_law 2511 = .ok (.iconst 1, 1) := dec_w [0x04] (pc9 (k := 2496) (j := 15) lwD_39 rfl) (by decide +kernel) rfl
theorem dL_law_2512 : decode cL_law 2512 = .ok (.iadd, 1) := dec_w [0x60] (pc9 (k := 2496) (j := 16) lwD_39 rfl) (by decide +kernel) rfl
theorem dL_law_2513 : decode cL_law 2513 = .ok (.iaload, 1) := dec_w [0x2e] (pc9 (k := 2496) (j := 17) lwD_39 rfl) (by decide +kernel) rfl
theorem dL_law_2514 : decode cL_law 2514 = .ok (.invokevirtual 357, 3) := dec_w [0xb6, 0x01, 0x65] (pc9 (k := 2496) (j := 18) lwD_39 rfl) (by decide +kernel) rfl
theorem dL_law_2517 : decode cL_law 2517 = .ok (.istore 7, 2) := dec_w [0x36, 0x07] (pc9 (k := 2496) (j := 21) lwD_39 rfl) (by decide +kernel) rfl
theorem dL_law_2519 : decode cL_law 2519 = .ok (.goto 205, 3) := dec_w [0xa7, 0x00, 0xcd] (pc9 (k := 2496) (j := 23) lwD_39 rfl) (by decide +kernel) rfl
theorem dL_law_2522 : decode cL_law 2522 = .ok (.aload_n 1, 1) := dec_w [0x2b] (pc9 (k := 2496) (j := 26) lwD_39 rfl) (by decide +kernel) rfl
theorem dL_law_2523 : decode cL_law 2523 = .ok (.aload_n 0, 1) := dec_w [0x2a] (pc9 (k := 2496) (j := 27) lwD_39 rfl) (by decide +kernel) rfl
theorem dL_law_2524 : decode cL_law 2524 = .ok (.iload 5, 2) := dec_w [0x15, 0x05] (pc9 (k := 2496) (j := 28) lwD_39 rfl) (by decide +kernel) rfl
theorem dL_law_2526 : decode cL_law 2526 = .ok (.iconst 1, 1) := dec_w [0x04] (pc9 (k := 2496) (j := 30) lwD_39 rfl) (by decide +kernel) rfl
theorem dL_law_2527 : decode cL_law 2527 = .ok (.iadd, 1) := dec_w [0x60] (pc9 (k := 2496) (j := 31) lwD_39 rfl) (by decide +kernel) rfl
theorem dL_law_2528 : decode cL_law 2528 = .ok (.iaload, 1) := dec_w [0x2e] (pc9 (k := 2496) (j := 32) lwD_39 rfl) (by decide +kernel) rfl
theorem dL_law_2529 : decode cL_law 2529 = .ok (.aload_n 0, 1) := dec_w [0x2a] (pc9 (k := 2496) (j := 33) lwD_39 rfl) (by decide +kernel) rfl
theorem dL_law_2530 : decode cL_law 2530 = .ok (.iload 5, 2) := dec_w [0x15, 0x05] (pc9 (k := 2496) (j := 34) lwD_39 rfl) (by decide +kernel) rfl
theorem dL_law_2532 : decode cL_law 2532 = .ok (.iconst 2, 1) := dec_w [0x05] (pc9 (k := 2496) (j := 36) lwD_39 rfl) (by decide +kernel) rfl
theorem dL_law_2533 : decode cL_law 2533 = .ok (.iadd, 1) := dec_w [0x60] (pc9 (k := 2496) (j := 37) lwD_39 rfl) (by decide +kernel) rfl
theorem dL_law_2534 : decode cL_law 2534 = .ok (.iaload, 1) := dec_w [0x2e] (pc9 (k := 2496) (j := 38) lwD_39 rfl) (by decide +kernel) rfl
theorem dL_law_2535 : decode cL_law 2535 = .ok (.aload_n 3, 1) := dec_w [0x2d] (pc9 (k := 2496) (j := 39) lwD_39 rfl) (by decide +kernel) rfl
theorem dL_law_2536 : decode cL_law 2536 = .ok (.invokestatic 358, 3) := dec_w [0xb8, 0x01, 0x66] (pc9 (k := 2496) (j := 40) lwD_39 rfl) (by decide +kernel) rfl
theorem dL_law_2539 : decode cL_law 2539 = .ok (.istore 6, 2) := dec_w [0x36, 0x06] (pc9 (k := 2496) (j := 43) lwD_39 rfl) (by decide +kernel) rfl
theorem dL_law_2541 : decode cL_law 2541 = .ok (.aload_n 2, 1) := dec_w [0x2c] (pc9 (k := 2496) (j := 45) lwD_39 rfl) (by decide +kernel) rfl
theorem dL_law_2542 : decode cL_law 2542 = .ok (.aload_n 0, 1) := dec_w [0x2a] (pc9 (k := 2496) (j := 46) lwD_39 rfl) (by decide +kernel) rfl
theorem dL_law_2543 : decode cL_law 2543 = .ok (.iload 5, 2) := dec_w [0x15, 0x05] (pc9 (k := 2496) (j := 47) lwD_39 rfl) (by decide +kernel) rfl
theorem dL_law_2545 : decode cL_law 2545 = .ok (.iconst 1, 1) := dec_w [0x04] (pc9 (k := 2496) (j := 49) lwD_39 rfl) (by decide +kernel) rfl
theorem dL_law_2546 : decode cL_law 2546 = .ok (.iadd, 1) := dec_w [0x60] (pc9 (k := 2496) (j := 50) lwD_39 rfl) (by decide +kernel) rfl
theorem dL_law_2547 : decode cL_law 2547 = .ok (.iaload, 1) := dec_w [0x2e] (pc9 (k := 2496) (j := 51) lwD_39 rfl) (by decide +kernel) rfl
theorem dL_law_2548 : decode cL_law 2548 = .ok (.aload_n 0, 1) := dec_w [0x2a] (pc9 (k := 2496) (j := 52) lwD_39 rfl) (by decide +kernel) rfl
theorem dL_law_2549 : decode cL_law 2549 = .ok (.iload 5, 2) := dec_w [0x15, 0x05] (pc9 (k := 2496) (j := 53) lwD_39 rfl) (by decide +kernel) rfl
theorem dL_law_2551 : decode cL_law 2551 = .ok (.iconst 2, 1) := dec_w [0x05] (pc9 (k := 2496) (j := 55) lwD_39 rfl) (by decide +kernel) rfl
theorem dL_law_2552 : decode cL_law 2552 = .ok (.iadd, 1) := dec_w [0x60] (pc9 (k := 2496) (j := 56) lwD_39 rfl) (by decide +kernel) rfl
theorem dL_law_2553 : decode cL_law 2553 = .ok (.iaload, 1) := dec_w [0x2e] (pc9 (k := 2496) (j := 57) lwD_39 rfl) (by decide +kernel) rfl
theorem dL_law_2554 : decode cL_law 2554 = .ok (.invokevirtual 360, 3) := dec_w [0xb6, 0x01, 0x68] (pc9 (k := 2496) (j := 58) lwD_39 rfl) (by decide +kernel) rfl
theorem dL_law_2557 : decode cL_law 2557 = .ok (.istore 7, 2) := dec_w [0x36, 0x07] (pc9 (k := 2496) (j := 61) lwD_39 rfl) (by decide +kernel) rfl
theorem dL_law_2559 : decode cL_law 2559 = .ok (.goto 165, 3) := dec_w [0xa7, 0x00, 0xa5] (pc9 (k := 2496) (j := 63) lwD_39 rfl) (by decide +kernel) rfl
theorem dL_law_2562 : decode cL_law 2562 = .ok (.aload_n 1, 1) := dec_w [0x2b] (pc9 (k := 2560) (j := 2) lwD_40 rfl) (by decide +kernel) rfl
theorem dL_law_2563 : decode cL_law 2563 = .ok (.aload_n 0, 1) := dec_w [0x2a] (pc9 (k := 2560) (j := 3) lwD_40 rfl) (by decide +kernel) rfl
theorem dL_law_2564 : decode cL_law 2564 = .ok (.iload 5, 2) := dec_w [0x15, 0x05] (pc9 (k := 2560) (j := 4) lwD_40 rfl) (by decide +kernel) rfl
theorem dL_law_2566 : decode cL_law 2566 = .ok (.iconst 1, 1) := dec_w [0x04] (pc9 (k := 2560) (j := 6) lwD_40 rfl) (by decide +kernel) rfl
theorem dL_law_2567 : decode cL_law 2567 = .ok (.iadd, 1) := dec_w [0x60] (pc9 (k := 2560) (j := 7) lwD_40 rfl) (by decide +kernel) rfl
theorem dL_law_2568 : decode cL_law 2568 = .ok (.iaload, 1) := dec_w [0x2e] (pc9 (k := 2560) (j := 8) lwD_40 rfl) (by decide +kernel) rfl
theorem dL_law_2569 : decode cL_law 2569 = .ok (.aload_n 3, 1) := dec_w [0x2d] (pc9 (k := 2560) (j := 9) lwD_40 rfl) (by decide +kernel) rfl
theorem dL_law_2570 : decode cL_law 2570 = .ok (.invokestatic 361, 3) := dec_w [0xb8, 0x01, 0x69] (pc9 (k := 2560) (j := 10) lwD_40 rfl) (by decide +kernel) rfl
theorem dL_law_2573 : decode cL_law 2573 = .ok (.istore 6, 2) := dec_w [0x36, 0x06] (pc9 (k := 2560) (j := 13) lwD_40 rfl) (by decide +kernel) rfl
theorem dL_law_2575 : decode cL_law 2575 = .ok (.aload_n 2, 1) := dec_w [0x2c] (pc9 (k := 2560) (j := 15) lwD_40 rfl) (by decide +kernel) rfl
theorem dL_law_2576 : decode cL_law 2576 = .ok (.aload_n 0, 1) := dec_w [0x2a] (pc9 (k := 2560) (j := 16) lwD_40 rfl) (by decide +kernel) rfl
theorem dL_law_2577 : decode cL_law 2577 = .ok (.iload 5, 2) := dec_w [0x15, 0x05] (pc9 (k := 2560) (j := 17) lwD_40 rfl) (by decide +kernel) rfl
theorem dL_law_2579 : decode cL_law 2579 = .ok (.iconst 1, 1) := dec_w [0x04] (pc9 (k := 2560) (j := 19) lwD_40 rfl) (by decide +kernel) rfl
theorem dL_law_2580 : decode cL_law 2580 = .ok (.iadd, 1) := dec_w [0x60] (pc9 (k := 2560) (j := 20) lwD_40 rfl) (by decide +kernel) rfl
theorem dL_law_2581 : decode cL_law 2581 = .ok (.iaload, 1) := dec_w [0x2e] (pc9 (k := 2560) (j := 21) lwD_40 rfl) (by decide +kernel) rfl
theorem dL_law_2582 : decode cL_law 2582 = .ok (.invokevirtual 363, 3) := dec_w [0xb6, 0x01, 0x6b] (pc9 (k := 2560) (j := 22) lwD_40 rfl) (by decide +kernel) rfl
theorem dL_law_2585 : decode cL_law 2585 = .ok (.istore 7, 2) := dec_w [0x36, 0x07] (pc9 (k := 2560) (j := 25) lwD_40 rfl) (by decide +kernel) rfl
theorem dL_law_2587 : decode cL_law 2587 = .ok (.goto 137, 3) := dec_w [0xa7, 0x00, 0x89] (pc9 (k := 2560) (j := 27) lwD_40 rfl) (by decide +kernel) rfl
theorem dL_law_2590 : decode cL_law 2590 = .ok (.aload_n 1, 1) := dec_w [0x2b] (pc9 (k := 2560) (j := 30) lwD_40 rfl) (by decide +kernel) rfl
theorem dL_law_2591 : decode cL_law 2591 = .ok (.aload_n 0, 1) := dec_w [0x2a] (pc9 (k := 2560) (j := 31) lwD_40 rfl) (by decide +kernel) rfl
theorem dL_law_2592 : decode cL_law 2592 = .ok (.iload 5, 2) := dec_w [0x15, 0x05] (pc9 (k := 2560) (j := 32) lwD_40 rfl) (by decide +kernel) rfl
theorem dL_law_2594 : decode cL_law 2594 = .ok (.iconst 1, 1) := dec_w [0x04] (pc9 (k := 2560) (j := 34) lwD_40 rfl) (by decide +kernel) rfl
theorem dL_law_2595 : decode cL_law 2595 = .ok (.iadd, 1) := dec_w [0x60] (pc9 (k := 2560) (j := 35) lwD_40 rfl) (by decide +kernel) rfl
theorem dL_law_2596 : decode cL_law 2596 = .ok (.iaload, 1) := dec_w [0x2e] (pc9 (k := 2560) (j := 36) lwD_40 rfl) (by decide +kernel) rfl
theorem dL_law_2597 : decode cL_law 2597 = .ok (.aload_n 0, 1) := dec_w [0x2a] (pc9 (k := 2560) (j := 37) lwD_40 rfl) (by decide +kernel) rfl
theorem dL_law_2598 : decode cL_law 2598 = .ok (.iload 5, 2) := dec_w [0x15, 0x05] (pc9 (k := 2560) (j := 38) lwD_40 rfl) (by decide +kernel) rfl
theorem dL_law_2600 : decode cL_law 2600 = .ok (.iconst 2, 1) := dec_w [0x05] (pc9 (k := 2560) (j := 40) lwD_40 rfl) (by decide +kernel) rfl
theorem dL_law_2601 : decode cL_law 2601 = .ok (.iadd, 1) := dec_w [0x60] (pc9 (k := 2560) (j := 41) lwD_40 rfl) (by decide +kernel) rfl
theorem dL_law_2602 : decode cL_law 2602 = .ok (.iaload, 1) := dec_w [0x2e] (pc9 (k := 2560) (j := 42) lwD_40 rfl) (by decide +kernel) rfl
theorem dL_law_2603 : decode cL_law 2603 = .ok (.aload_n 3, 1) := dec_w [0x2d] (pc9 (k := 2560) (j := 43) lwD_40 rfl) (by decide +kernel) rfl
theorem dL_law_2604 : decode cL_law 2604 = .ok (.invokestatic 364, 3) := dec_w [0xb8, 0x01, 0x6c] (pc9 (k := 2560) (j := 44) lwD_40 rfl) (by decide +kernel) rfl
theorem dL_law_2607 : decode cL_law 2607 = .ok (.istore 6, 2) := dec_w [0x36, 0x06] (pc9 (k := 2560) (j := 47) lwD_40 rfl) (by decide +kernel) rfl
theorem dL_law_2609 : decode cL_law 2609 = .ok (.aload_n 2, 1) := dec_w [0x2c] (pc9 (k := 2560) (j := 49) lwD_40 rfl) (by decide +kernel) rfl
theorem dL_law_2610 : decode cL_law 2610 = .ok (.aload_n 0, 1) := dec_w [0x2a] (pc9 (k := 2560) (j := 50) lwD_40 rfl) (by decide +kernel) rfl
theorem dL_law_2611 : decode cL_law 2611 = .ok (.iload 5, 2) := dec_w [0x15, 0x05] (pc9 (k := 2560) (j := 51) lwD_40 rfl) (by decide +kernel) rfl
theorem dL_law_2613 : decode cL_law 2613 = .ok (.iconst 1, 1) := dec_w [0x04] (pc9 (k := 2560) (j := 53) lwD_40 rfl) (by decide +kernel) rfl
theorem dL_law_2614 : decode cL_law 2614 = .ok (.iadd, 1) := dec_w [0x60] (pc9 (k := 2560) (j := 54) lwD_40 rfl) (by decide +kernel) rfl
theorem dL_law_2615 : decode cL_law 2615 = .ok (.iaload, 1) := dec_w [0x2e] (pc9 (k := 2560) (j := 55) lwD_40 rfl) (by decide +kernel) rfl
theorem dL_law_2616 : decode cL_law 2616 = .ok (.aload_n 0, 1) := dec_w [0x2a] (pc9 (k := 2560) (j := 56) lwD_40 rfl) (by decide +kernel) rfl
theorem dL_law_2617 : decode cL_law 2617 = .ok (.iload 5, 2) := dec_w [0x15, 0x05] (pc9 (k := 2560) (j := 57) lwD_40 rfl) (by decide +kernel) rfl
theorem dL_law_2619 : decode cL_law 2619 = .ok (.iconst 2, 1) := dec_w [0x05] (pc9 (k := 2560) (j := 59) lwD_40 rfl) (by decide +kernel) rfl
theorem dL_law_2620 : decode cL_law 2620 = .ok (.iadd, 1) := dec_w [0x60] (pc9 (k := 2560) (j := 60) lwD_40 rfl) (by decide +kernel) rfl
theorem dL_law_2621 : decode cL_law 2621 = .ok (.iaload, 1) := dec_w [0x2e] (pc9 (k := 2560) (j := 61) lwD_40 rfl) (by decide +kernel) rfl
theorem dL_law_2622 : decode cL_law 2622 = .ok (.invokevirtual 366, 3) := dec_w [0xb6, 0x01, 0x6e] (pc9 (k := 2560) (j := 62) lwD_40 rfl) (by decide +kernel) rfl
theorem dL_law_2625 : decode cL_law 2625 = .ok (.istore 7, 2) := dec_w [0x36, 0x07] (pc9 (k := 2624) (j := 1) lwD_41 rfl) (by decide +kernel) rfl
theorem dL_law_2627 : decode cL_law 2627 = .ok (.goto 97, 3) := dec_w [0xa7, 0x00, 0x61] (pc9 (k := 2624) (j := 3) lwD_41 rfl) (by decide +kernel) rfl
theorem dL_law_2630 : decode cL_law 2630 = .ok (.aload_n 1, 1) := dec_w [0x2b] (pc9 (k := 2624) (j := 6) lwD_41 rfl) (by decide +kernel) rfl
theorem dL_law_2631 : decode cL_law 2631 = .ok (.aload_n 0, 1) := dec_w [0x2a] (pc9 (k := 2624) (j := 7) lwD_41 rfl) (by decide +kernel) rfl
theorem dL_law_2632 : decode cL_law 2632 = .ok (.iload 5, 2) := dec_w [0x15, 0x05] (pc9 (k := 2624) (j := 8) lwD_41 rfl) (by decide +kernel) rfl
theorem dL_law_2634 : decode cL_law 2634 = .ok (.iconst 1, 1) := dec_w [0x04] (pc9 (k := 2624) (j := 10) lwD_41 rfl) (by decide +kernel) rfl
theorem dL_law_2635 : decode cL_law 2635 = .ok (.iadd, 1) := dec_w [0x60] (pc9 (k := 2624) (j := 11) lwD_41 rfl) (by decide +kernel) rfl
theorem dL_law_2636 : decode cL_law 2636 = .ok (.iaload, 1) := dec_w [0x2e] (pc9 (k := 2624) (j := 12) lwD_41 rfl) (by decide +kernel) rfl
theorem dL_law_2637 : decode cL_law 2637 = .ok (.invokevirtual 367, 3) := dec_w [0xb6, 0x01, 0x6f] (pc9 (k := 2624) (j := 13) lwD_41 rfl) (by decide +kernel) rfl
theorem dL_law_2640 : decode cL_law 2640 = .ok (.pop, 1) := dec_w [0x57] (pc9 (k := 2624) (j := 16) lwD_41 rfl) (by decide +kernel) rfl
theorem dL_law_2641 : decode cL_law 2641 = .ok (.aload_n 2, 1) := dec_w [0x2c] (pc9 (k := 2624) (j := 17) lwD_41 rfl) (by decide +kernel) rfl
theorem dL_law_2642 : decode cL_law 2642 = .ok (.aload_n 0, 1) := dec_w [0x2a] (pc9 (k := 2624) (j := 18) lwD_41 rfl) (by decide +kernel) rfl
theorem dL_law_2643 : decode cL_law 2643 = .ok (.iload 5, 2) := dec_w [0x15, 0x05] (pc9 (k := 2624) (j := 19) lwD_41 rfl) (by decide +kernel) rfl
theorem dL_law_2645 : decode cL_law 2645 = .ok (.iconst 1, 1) := dec_w [0x04] (pc9 (k := 2624) (j := 21) lwD_41 rfl) (by decide +kernel) rfl
theorem dL_law_2646 : decode cL_law 2646 = .ok (.iadd, 1) := dec_w [0x60] (pc9 (k := 2624) (j := 22) lwD_41 rfl) (by decide +kernel) rfl
theorem dL_law_2647 : decode cL_law 2647 = .ok (.iaload, 1) := dec_w [0x2e] (pc9 (k := 2624) (j := 23) lwD_41 rfl) (by decide +kernel) rfl
theorem dL_law_2648 : decode cL_law 2648 = .ok (.invokevirtual 370, 3) := dec_w [0xb6, 0x01, 0x72] (pc9 (k := 2624) (j := 24) lwD_41 rfl) (by decide +kernel) rfl
theorem dL_law_2651 : decode cL_law 2651 = .ok (.pop, 1) := dec_w [0x57] (pc9 (k := 2624) (j := 27) lwD_41 rfl) (by decide +kernel) rfl
theorem dL_law_2652 : decode cL_law 2652 = .ok (.goto 72, 3) := dec_w [0xa7, 0x00, 0x48] (pc9 (k := 2624) (j := 28) lwD_41 rfl) (by decide +kernel) rfl
theorem dL_law_2655 : decode cL_law 2655 = .ok (.aload_n 1, 1) := dec_w [0x2b] (pc9 (k := 2624) (j := 31) lwD_41 rfl) (by decide +kernel) rfl
theorem dL_law_2656 : decode cL_law 2656 = .ok (.invokevirtual 371, 3) := dec_w [0xb6, 0x01, 0x73] (pc9 (k := 2624) (j := 32) lwD_41 rfl) (by decide +kernel) rfl
theorem dL_law_2659 : decode cL_law 2659 = .ok (.pop, 1) := dec_w [0x57] (pc9 (k := 2624) (j := 35) lwD_41 rfl) (by decide +kernel) rfl
theorem dL_law_2660 : decode cL_law 2660 = .ok (.aload_n 2, 1) := dec_w [0x2c] (pc9 (k := 2624) (j := 36) lwD_41 rfl) (by decide +kernel) rfl
theorem dL_law_2661 : decode cL_law 2661 = .ok (.invokevirtual 374, 3) := dec_w [0xb6, 0x01, 0x76] (pc9 (k := 2624) (j := 37) lwD_41 rfl) (by decide +kernel) rfl
theorem dL_law_2664 : decode cL_law 2664 = .ok (.pop, 1) := dec_w [0x57] (pc9 (k := 2624) (j := 40) lwD_41 rfl) (by decide +kernel) rfl
theorem dL_law_2665 : decode cL_law 2665 = .ok (.goto 59, 3) := dec_w [0xa7, 0x00, 0x3b] (pc9 (k := 2624) (j := 41) lwD_41 rfl) (by decide +kernel) rfl
theorem dL_law_2668 : decode cL_law 2668 = .ok (.aload_n 1, 1) := dec_w [0x2b] (pc9 (k := 2624) (j := 44) lwD_41 rfl) (by decide +kernel) rfl
theorem dL_law_2669 : decode cL_law 2669 = .ok (.aload_n 0, 1) := dec_w [0x2a] (pc9 (k := 2624) (j := 45) lwD_41 rfl) (by decide +kernel) rfl
theorem dL_law_2670 : decode cL_law 2670 = .ok (.iload 5, 2) := dec_w [0x15, 0x05] (pc9 (k := 2624) (j := 46) lwD_41 rfl) (by decide +kernel) rfl
theorem dL_law_2672 : decode cL_law 2672 = .ok (.iconst 1, 1) := dec_w [0x04] (pc9 (k := 2624) (j := 48) lwD_41 rfl) (by decide +kernel) rfl
theorem dL_law_2673 : decode cL_law 2673 = .ok (.iadd, 1) := dec_w [0x60] (pc9 (k := 2624) (j := 49) lwD_41 rfl) (by decide +kernel) rfl
theorem dL_law_2674 : decode cL_law 2674 = .ok (.iaload, 1) := dec_w [0x2e] (pc9 (k := 2624) (j := 50) lwD_41 rfl) (by decide +kernel) rfl
theorem dL_law_2675 : decode cL_law 2675 = .ok (.aload_n 3, 1) := dec_w [0x2d] (pc9 (k := 2624) (j := 51) lwD_41 rfl) (by decide +kernel) rfl
theorem dL_law_2676 : decode cL_law 2676 = .ok (.invokestatic 375, 3) := dec_w [0xb8, 0x01, 0x77] (pc9 (k := 2624) (j := 52) lwD_41 rfl) (by decide +kernel) rfl
theorem dL_law_2679 : decode cL_law 2679 = .ok (.istore 6, 2) := dec_w [0x36, 0x06] (pc9 (k := 2624) (j := 55) lwD_41 rfl) (by decide +kernel) rfl
theorem dL_law_2681 : decode cL_law 2681 = .ok (.aload_n 2, 1) := dec_w [0x2c] (pc9 (k := 2624) (j := 57) lwD_41 rfl) (by decide +kernel) rfl
theorem dL_law_2682 : decode cL_law 2682 = .ok (.aload_n 0, 1) := dec_w [0x2a] (pc9 (k := 2624) (j := 58) lwD_41 rfl) (by decide +kernel) rfl
theorem dL_law_2683 : decode cL_law 2683 = .ok (.iload 5, 2) := dec_w [0x15, 0x05] (pc9 (k := 2624) (j := 59) lwD_41 rfl) (by decide +kernel) rfl
theorem dL_law_2685 : decode cL_law 2685 = .ok (.iconst 1, 1) := dec_w [0x04] (pc9 (k := 2624) (j := 61) lwD_41 rfl) (by decide +kernel) rfl
theorem dL_law_2686 : decode cL_law 2686 = .ok (.iadd, 1) := dec_w [0x60] (pc9 (k := 2624) (j := 62) lwD_41 rfl) (by decide +kernel) rfl
theorem dL_law_2687 : decode cL_law 2687 = .ok (.iaload, 1) := dec_w [0x2e] (pc9 (k := 2624) (j := 63) lwD_41 rfl) (by decide +kernel) rfl
theorem dL_law_2688 : decode cL_law 2688 = .ok (.invokevirtual 377, 3) := dec_w [0xb6, 0x01, 0x79] (pc9 (k := 2688) (j := 0) lwD_42 rfl) (by decide +kernel) rfl
theorem dL_law_2691 : decode cL_law 2691 = .ok (.istore 7, 2) := dec_w [0x36, 0x07] (pc9 (k := 2688) (j := 3) lwD_42 rfl) (by decide +kernel) rfl
theorem dL_law_2693 : decode cL_law 2693 = .ok (.goto 31, 3) := dec_w [0xa7, 0x00, 0x1f] (pc9 (k := 2688) (j := 5) lwD_42 rfl) (by decide +kernel) rfl
theorem dL_law_2696 : decode cL_law 2696 = .ok (.aload_n 1, 1) := dec_w [0x2b] (pc9 (k := 2688) (j := 8) lwD_42 rfl) (by decide +kernel) rfl
theorem dL_law_2697 : decode cL_law 2697 = .ok (.aload_n 0, 1) := dec_w [0x2a] (pc9 (k := 2688) (j := 9) lwD_42 rfl) (by decide +kernel) rfl
theorem dL_law_2698 : decode cL_law 2698 = .ok (.iload 5, 2) := dec_w [0x15, 0x05] (pc9 (k := 2688) (j := 10) lwD_42 rfl) (by decide +kernel) rfl
theorem dL_law_2700 : decode cL_law 2700 = .ok (.iconst 1, 1) := dec_w [0x04] (pc9 (k := 2688) (j := 12) lwD_42 rfl) (by decide +kernel) rfl
theorem dL_law_2701 : decode cL_law 2701 = .ok (.iadd, 1) := dec_w [0x60] (pc9 (k := 2688) (j := 13) lwD_42 rfl) (by decide +kernel) rfl
theorem dL_law_2702 : decode cL_law 2702 = .ok (.iaload, 1) := dec_w [0x2e] (pc9 (k := 2688) (j := 14) lwD_42 rfl) (by decide +kernel) rfl
theorem dL_law_2703 : decode cL_law 2703 = .ok (.aload_n 3, 1) := dec_w [0x2d] (pc9 (k := 2688) (j := 15) lwD_42 rfl) (by decide +kernel) rfl
theorem dL_law_2704 : decode cL_law 2704 = .ok (.invokestatic 378, 3) := dec_w [0xb8, 0x01, 0x7a] (pc9 (k := 2688) (j := 16) lwD_42 rfl) (by decide +kernel) rfl
theorem dL_law_2707 : decode cL_law 2707 = .ok (.istore 6, 2) := dec_w [0x36, 0x06] (pc9 (k := 2688) (j := 19) lwD_42 rfl) (by decide +kernel) rfl
theorem dL_law_2709 : decode cL_law 2709 = .ok (.aload_n 2, 1) := dec_w [0x2c] (pc9 (k := 2688) (j := 21) lwD_42 rfl) (by decide +kernel) rfl
theorem dL_law_2710 : decode cL_law 2710 = .ok (.aload_n 0, 1) := dec_w [0x2a] (pc9 (k := 2688) (j := 22) lwD_42 rfl) (by decide +kernel) rfl
theorem dL_law_2711 : decode cL_law 2711 = .ok (.iload 5, 2) := dec_w [0x15, 0x05] (pc9 (k := 2688) (j := 23) lwD_42 rfl) (by decide +kernel) rfl
theorem dL_law_2713 : decode cL_law 2713 = .ok (.iconst 1, 1) := dec_w [0x04] (pc9 (k := 2688) (j := 25) lwD_42 rfl) (by decide +kernel) rfl
theorem dL_law_2714 : decode cL_law 2714 = .ok (.iadd, 1) := dec_w [0x60] (pc9 (k := 2688) (j := 26) lwD_42 rfl) (by decide +kernel) rfl
theorem dL_law_2715 : decode cL_law 2715 = .ok (.iaload, 1) := dec_w [0x2e] (pc9 (k := 2688) (j := 27) lwD_42 rfl) (by decide +kernel) rfl
theorem dL_law_2716 : decode cL_law 2716 = .ok (.invokevirtual 380, 3) := dec_w [0xb6, 0x01, 0x7c] (pc9 (k := 2688) (j := 28) lwD_42 rfl) (by decide +kernel) rfl
theorem dL_law_2719 : decode cL_law 2719 = .ok (.istore 7, 2) := dec_w [0x36, 0x07] (pc9 (k := 2688) (j := 31) lwD_42 rfl) (by decide +kernel) rfl
theorem dL_law_2721 : decode cL_law 2721 = .ok (.goto 3, 3) := dec_w [0xa7, 0x00, 0x03] (pc9 (k := 2688) (j := 33) lwD_42 rfl) (by decide +kernel) rfl
theorem dL_law_2724 : decode cL_law 2724 = .ok (.iinc 5 5, 3) := dec_w [0x84, 0x05, 0x05] (pc9 (k := 2688) (j := 36) lwD_42 rfl) (by decide +kernel) rfl
theorem dL_law_2727 : decode cL_law 2727 = .ok (.goto (-2699), 3) := dec_w [0xa7, 0xf5, 0x75] (pc9 (k := 2688) (j := 39) lwD_42 rfl) (by decide +kernel) rfl
theorem dL_law_2730 : decode cL_law 2730 = .ok (.iconst 1, 1) := dec_w [0x04] (pc9 (k := 2688) (j := 42) lwD_42 rfl) (by decide +kernel) rfl
theorem dL_law_2731 : decode cL_law 2731 = .ok (.ireturn, 1) := dec_w [0xac] (pc9 (k := 2688) (j := 43) lwD_42 rfl) (by decide +kernel) rfl
