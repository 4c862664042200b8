/-! the law's entry, its instructions (14) -/
theorem d_law_1588 : decode code 1588 = .ok (.iadd, 1) := by decide +kernel
theorem d_law_1589 : decode code 1589 = .ok (.iaload, 1) := by decide +kernel
theorem d_law_1590 : decode code 1590 = .ok (.invokevirtual 197, 3) := by decide +kernel
theorem d_law_1593 : decode code 1593 = .ok (.istore 6, 2) := by decide +kernel
theorem d_law_1595 : decode code 1595 = .ok (.aload_n 2, 1) := by decide +kernel
theorem d_law_1596 : decode code 1596 = .ok (.invokevirtual 118, 3) := by decide +kernel
theorem d_law_1599 : decode code 1599 = .ok (.iload 5, 2) := by decide +kernel
theorem d_law_1601 : decode code 1601 = .ok (.if_icmp .eq 5, 3) := by decide +kernel
theorem d_law_1606 : decode code 1606 = .ok (.iload 5, 2) := by decide +kernel
theorem d_law_1608 : decode code 1608 = .ok (.ifCond .ne 15, 3) := by decide +kernel
theorem d_law_1611 : decode code 1611 = .ok (.aload_n 3, 1) := by decide +kernel
theorem d_law_1612 : decode code 1612 = .ok (.iconst 0, 1) := by decide +kernel
theorem d_law_1613 : decode code 1613 = .ok (.laload, 1) := by decide +kernel
theorem d_law_1614 : decode code 1614 = .ok (.iload 6, 2) := by decide +kernel
theorem d_law_1616 : decode code 1616 = .ok (.i2l, 1) := by decide +kernel
theorem d_law_1617 : decode code 1617 = .ok (.lcmp, 1) := by decide +kernel
theorem d_law_1618 : decode code 1618 = .ok (.ifCond .eq 5, 3) := by decide +kernel
theorem d_law_1623 : decode code 1623 = .ok (.goto 452, 3) := by decide +kernel
theorem d_law_1626 : decode code 1626 = .ok (.aload_n 1, 1) := by decide +kernel
theorem d_law_1627 : decode code 1627 = .ok (.aload_n 0, 1) := by decide +kernel
theorem d_law_1628 : decode code 1628 = .ok (.iload 4, 2) := by decide +kernel
theorem d_law_1630 : decode code 1630 = .ok (.iconst 1, 1) := by decide +kernel
theorem d_law_1631 : decode code 1631 = .ok (.iadd, 1) := by decide +kernel
theorem d_law_1632 : decode code 1632 = .ok (.iaload, 1) := by decide +kernel
theorem d_law_1633 : decode code 1633 = .ok (.aload_n 3, 1) := by decide +kernel
theorem d_law_1634 : decode code 1634 = .ok (.invokestatic 198, 3) := by decide +kernel
theorem d_law_1637 : decode code 1637 = .ok (.istore 5, 2) := by decide +kernel
theorem d_law_1639 : decode code 1639 = .ok (.aload_n 2, 1) := by decide +kernel
theorem d_law_1640 : decode code 1640 = .ok (.aload_n 0, 1) := by decide +kernel
theorem d_law_1641 : decode code 1641 = .ok (.iload 4, 2) := by decide +kernel
theorem d_law_1643 : decode code 1643 = .ok (.iconst 1, 1) := by decide +kernel
theorem d_law_1644 : decode code 1644 = .ok (.iadd, 1) := by decide +kernel
theorem d_law_1645 : decode code 1645 = .ok (.iaload, 1) := by decide +kernel
theorem d_law_1646 : decode code 1646 = .ok (.invokevirtual 200, 3) := by decide +kernel
theorem d_law_1649 : decode code 1649 = .ok (.istore 6, 2) := by decide +kernel
theorem d_law_1651 : decode code 1651 = .ok (.aload_n 2, 1) := by decide +kernel
theorem d_law_1652 : decode code 1652 = .ok (.invokevirtual 118, 3) := by decide +kernel
theorem d_law_1655 : decode code 1655 = .ok (.iload 5, 2) := by decide +kernel
theorem d_law_1657 : decode code 1657 = .ok (.if_icmp .eq 5, 3) := by decide +kernel
theorem d_law_1662 : decode code 1662 = .ok (.iload 5, 2) := by decide +kernel
theorem d_law_1664 : decode code 1664 = .ok (.ifCond .ne 15, 3) := by decide +kernel
theorem d_law_1667 : decode code 1667 = .ok (.aload_n 3, 1) := by decide +kernel
theorem d_law_1668 : decode code 1668 = .ok (.iconst 0, 1) := by decide +kernel
theorem d_law_1669 : decode code 1669 = .ok (.laload, 1) := by decide +kernel
theorem d_law_1670 : decode code 1670 = .ok (.iload 6, 2) := by decide +kernel
theorem d_law_1672 : decode code 1672 = .ok (.i2l, 1) := by decide +kernel
theorem d_law_1673 : decode code 1673 = .ok (.lcmp, 1) := by decide +kernel
theorem d_law_1674 : decode code 1674 = .ok (.ifCond .eq 5, 3) := by decide +kernel
theorem d_law_1679 : decode code 1679 = .ok (.goto 396, 3) := by decide +kernel
theorem d_law_1682 : decode code 1682 = .ok (.aload_n 1, 1) := by decide +kernel
theorem d_law_1683 : decode code 1683 = .ok (.invokevirtual 201, 3) := by decide +kernel
theorem d_law_1686 : decode code 1686 = .ok (.aload_n 2, 1) := by decide +kernel
theorem d_law_1687 : decode code 1687 = .ok (.invokevirtual 204, 3) := by decide +kernel
theorem d_law_1690 : decode code 1690 = .ok (.if_icmp .eq 385, 3) := by decide +kernel
theorem d_law_1695 : decode code 1695 = .ok (.aload_n 1, 1) := by decide +kernel
theorem d_law_1696 : decode code 1696 = .ok (.aload_n 0, 1) := by decide +kernel
theorem d_law_1697 : decode code 1697 = .ok (.iload 4, 2) := by decide +kernel
theorem d_law_1699 : decode code 1699 = .ok (.iconst 1, 1) := by decide +kernel
theorem d_law_1700 : decode code 1700 = .ok (.iadd, 1) := by decide +kernel
theorem d_law_1701 : decode code 1701 = .ok (.iaload, 1) := by decide +kernel
