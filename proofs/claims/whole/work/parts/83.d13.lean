/-! the law's entry, its instructions (13) -/
theorem d_law_1495 : decode code 1495 = .ok (.iadd, 1) := by decide +kernel
theorem d_law_1496 : decode code 1496 = .ok (.iaload, 1) := by decide +kernel
theorem d_law_1497 : decode code 1497 = .ok (.aload_n 0, 1) := by decide +kernel
theorem d_law_1498 : decode code 1498 = .ok (.iload 4, 2) := by decide +kernel
theorem d_law_1500 : decode code 1500 = .ok (.iconst 2, 1) := by decide +kernel
theorem d_law_1501 : decode code 1501 = .ok (.iadd, 1) := by decide +kernel
theorem d_law_1502 : decode code 1502 = .ok (.iaload, 1) := by decide +kernel
theorem d_law_1503 : decode code 1503 = .ok (.aload_n 0, 1) := by decide +kernel
theorem d_law_1504 : decode code 1504 = .ok (.iload 4, 2) := by decide +kernel
theorem d_law_1506 : decode code 1506 = .ok (.iconst 3, 1) := by decide +kernel
theorem d_law_1507 : decode code 1507 = .ok (.iadd, 1) := by decide +kernel
theorem d_law_1508 : decode code 1508 = .ok (.iaload, 1) := by decide +kernel
theorem d_law_1509 : decode code 1509 = .ok (.aload_n 3, 1) := by decide +kernel
theorem d_law_1510 : decode code 1510 = .ok (.invokestatic 191, 3) := by decide +kernel
theorem d_law_1513 : decode code 1513 = .ok (.istore 5, 2) := by decide +kernel
theorem d_law_1515 : decode code 1515 = .ok (.aload_n 2, 1) := by decide +kernel
theorem d_law_1516 : decode code 1516 = .ok (.aload_n 0, 1) := by decide +kernel
theorem d_law_1517 : decode code 1517 = .ok (.iload 4, 2) := by decide +kernel
theorem d_law_1519 : decode code 1519 = .ok (.iconst 1, 1) := by decide +kernel
theorem d_law_1520 : decode code 1520 = .ok (.iadd, 1) := by decide +kernel
theorem d_law_1521 : decode code 1521 = .ok (.iaload, 1) := by decide +kernel
theorem d_law_1522 : decode code 1522 = .ok (.aload_n 0, 1) := by decide +kernel
theorem d_law_1523 : decode code 1523 = .ok (.iload 4, 2) := by decide +kernel
theorem d_law_1525 : decode code 1525 = .ok (.iconst 2, 1) := by decide +kernel
theorem d_law_1526 : decode code 1526 = .ok (.iadd, 1) := by decide +kernel
theorem d_law_1527 : decode code 1527 = .ok (.iaload, 1) := by decide +kernel
theorem d_law_1528 : decode code 1528 = .ok (.aload_n 0, 1) := by decide +kernel
theorem d_law_1529 : decode code 1529 = .ok (.iload 4, 2) := by decide +kernel
theorem d_law_1531 : decode code 1531 = .ok (.iconst 3, 1) := by decide +kernel
theorem d_law_1532 : decode code 1532 = .ok (.iadd, 1) := by decide +kernel
theorem d_law_1533 : decode code 1533 = .ok (.iaload, 1) := by decide +kernel
theorem d_law_1534 : decode code 1534 = .ok (.invokevirtual 194, 3) := by decide +kernel
theorem d_law_1537 : decode code 1537 = .ok (.istore 6, 2) := by decide +kernel
theorem d_law_1539 : decode code 1539 = .ok (.aload_n 2, 1) := by decide +kernel
theorem d_law_1540 : decode code 1540 = .ok (.invokevirtual 118, 3) := by decide +kernel
theorem d_law_1543 : decode code 1543 = .ok (.iload 5, 2) := by decide +kernel
theorem d_law_1545 : decode code 1545 = .ok (.if_icmp .eq 5, 3) := by decide +kernel
theorem d_law_1550 : decode code 1550 = .ok (.iload 5, 2) := by decide +kernel
theorem d_law_1552 : decode code 1552 = .ok (.ifCond .ne 15, 3) := by decide +kernel
theorem d_law_1555 : decode code 1555 = .ok (.aload_n 3, 1) := by decide +kernel
theorem d_law_1556 : decode code 1556 = .ok (.iconst 0, 1) := by decide +kernel
theorem d_law_1557 : decode code 1557 = .ok (.laload, 1) := by decide +kernel
theorem d_law_1558 : decode code 1558 = .ok (.iload 6, 2) := by decide +kernel
theorem d_law_1560 : decode code 1560 = .ok (.i2l, 1) := by decide +kernel
theorem d_law_1561 : decode code 1561 = .ok (.lcmp, 1) := by decide +kernel
theorem d_law_1562 : decode code 1562 = .ok (.ifCond .eq 5, 3) := by decide +kernel
theorem d_law_1567 : decode code 1567 = .ok (.goto 508, 3) := by decide +kernel
theorem d_law_1570 : decode code 1570 = .ok (.aload_n 1, 1) := by decide +kernel
theorem d_law_1571 : decode code 1571 = .ok (.aload_n 0, 1) := by decide +kernel
theorem d_law_1572 : decode code 1572 = .ok (.iload 4, 2) := by decide +kernel
theorem d_law_1574 : decode code 1574 = .ok (.iconst 1, 1) := by decide +kernel
theorem d_law_1575 : decode code 1575 = .ok (.iadd, 1) := by decide +kernel
theorem d_law_1576 : decode code 1576 = .ok (.iaload, 1) := by decide +kernel
theorem d_law_1577 : decode code 1577 = .ok (.aload_n 3, 1) := by decide +kernel
theorem d_law_1578 : decode code 1578 = .ok (.invokestatic 195, 3) := by decide +kernel
theorem d_law_1581 : decode code 1581 = .ok (.istore 5, 2) := by decide +kernel
theorem d_law_1583 : decode code 1583 = .ok (.aload_n 2, 1) := by decide +kernel
theorem d_law_1584 : decode code 1584 = .ok (.aload_n 0, 1) := by decide +kernel
theorem d_law_1585 : decode code 1585 = .ok (.iload 4, 2) := by decide +kernel
theorem d_law_1587 : decode code 1587 = .ok (.iconst 1, 1) := by decide +kernel
