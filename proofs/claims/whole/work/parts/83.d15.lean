/-! the law's entry, its instructions (15) -/
theorem d_law_1702 : decode code 1702 = .ok (.aload_n 0, 1) := by decide +kernel
theorem d_law_1703 : decode code 1703 = .ok (.iload 4, 2) := by decide +kernel
theorem d_law_1705 : decode code 1705 = .ok (.iconst 2, 1) := by decide +kernel
theorem d_law_1706 : decode code 1706 = .ok (.iadd, 1) := by decide +kernel
theorem d_law_1707 : decode code 1707 = .ok (.iaload, 1) := by decide +kernel
theorem d_law_1708 : decode code 1708 = .ok (.aload_n 3, 1) := by decide +kernel
theorem d_law_1709 : decode code 1709 = .ok (.invokestatic 205, 3) := by decide +kernel
theorem d_law_1712 : decode code 1712 = .ok (.istore 5, 2) := by decide +kernel
theorem d_law_1714 : decode code 1714 = .ok (.aload_n 2, 1) := by decide +kernel
theorem d_law_1715 : decode code 1715 = .ok (.aload_n 0, 1) := by decide +kernel
theorem d_law_1716 : decode code 1716 = .ok (.iload 4, 2) := by decide +kernel
theorem d_law_1718 : decode code 1718 = .ok (.iconst 1, 1) := by decide +kernel
theorem d_law_1719 : decode code 1719 = .ok (.iadd, 1) := by decide +kernel
theorem d_law_1720 : decode code 1720 = .ok (.iaload, 1) := by decide +kernel
theorem d_law_1721 : decode code 1721 = .ok (.aload_n 0, 1) := by decide +kernel
theorem d_law_1722 : decode code 1722 = .ok (.iload 4, 2) := by decide +kernel
theorem d_law_1724 : decode code 1724 = .ok (.iconst 2, 1) := by decide +kernel
theorem d_law_1725 : decode code 1725 = .ok (.iadd, 1) := by decide +kernel
theorem d_law_1726 : decode code 1726 = .ok (.iaload, 1) := by decide +kernel
theorem d_law_1727 : decode code 1727 = .ok (.invokevirtual 207, 3) := by decide +kernel
theorem d_law_1730 : decode code 1730 = .ok (.istore 6, 2) := by decide +kernel
theorem d_law_1732 : decode code 1732 = .ok (.aload_n 2, 1) := by decide +kernel
theorem d_law_1733 : decode code 1733 = .ok (.invokevirtual 118, 3) := by decide +kernel
theorem d_law_1736 : decode code 1736 = .ok (.iload 5, 2) := by decide +kernel
theorem d_law_1738 : decode code 1738 = .ok (.if_icmp .eq 5, 3) := by decide +kernel
theorem d_law_1743 : decode code 1743 = .ok (.iload 5, 2) := by decide +kernel
theorem d_law_1745 : decode code 1745 = .ok (.ifCond .ne 15, 3) := by decide +kernel
theorem d_law_1748 : decode code 1748 = .ok (.aload_n 3, 1) := by decide +kernel
theorem d_law_1749 : decode code 1749 = .ok (.iconst 0, 1) := by decide +kernel
theorem d_law_1750 : decode code 1750 = .ok (.laload, 1) := by decide +kernel
theorem d_law_1751 : decode code 1751 = .ok (.iload 6, 2) := by decide +kernel
theorem d_law_1753 : decode code 1753 = .ok (.i2l, 1) := by decide +kernel
theorem d_law_1754 : decode code 1754 = .ok (.lcmp, 1) := by decide +kernel
theorem d_law_1755 : decode code 1755 = .ok (.ifCond .eq 5, 3) := by decide +kernel
theorem d_law_1760 : decode code 1760 = .ok (.goto 315, 3) := by decide +kernel
theorem d_law_1763 : decode code 1763 = .ok (.aload_n 1, 1) := by decide +kernel
theorem d_law_1764 : decode code 1764 = .ok (.aload_n 0, 1) := by decide +kernel
theorem d_law_1765 : decode code 1765 = .ok (.iload 4, 2) := by decide +kernel
theorem d_law_1767 : decode code 1767 = .ok (.iconst 1, 1) := by decide +kernel
theorem d_law_1768 : decode code 1768 = .ok (.iadd, 1) := by decide +kernel
theorem d_law_1769 : decode code 1769 = .ok (.iaload, 1) := by decide +kernel
theorem d_law_1770 : decode code 1770 = .ok (.aload_n 0, 1) := by decide +kernel
theorem d_law_1771 : decode code 1771 = .ok (.iload 4, 2) := by decide +kernel
theorem d_law_1773 : decode code 1773 = .ok (.iconst 2, 1) := by decide +kernel
theorem d_law_1774 : decode code 1774 = .ok (.iadd, 1) := by decide +kernel
theorem d_law_1775 : decode code 1775 = .ok (.iaload, 1) := by decide +kernel
theorem d_law_1776 : decode code 1776 = .ok (.i2l, 1) := by decide +kernel
theorem d_law_1777 : decode code 1777 = .ok (.bipush 32, 2) := by decide +kernel
theorem d_law_1779 : decode code 1779 = .ok (.lshl, 1) := by decide +kernel
theorem d_law_1780 : decode code 1780 = .ok (.aload_n 0, 1) := by decide +kernel
theorem d_law_1781 : decode code 1781 = .ok (.iload 4, 2) := by decide +kernel
theorem d_law_1783 : decode code 1783 = .ok (.iconst 3, 1) := by decide +kernel
theorem d_law_1784 : decode code 1784 = .ok (.iadd, 1) := by decide +kernel
theorem d_law_1785 : decode code 1785 = .ok (.iaload, 1) := by decide +kernel
theorem d_law_1786 : decode code 1786 = .ok (.i2l, 1) := by decide +kernel
theorem d_law_1787 : decode code 1787 = .ok (.ldc2_w 208, 3) := by decide +kernel
theorem d_law_1790 : decode code 1790 = .ok (.land, 1) := by decide +kernel
theorem d_law_1791 : decode code 1791 = .ok (.lor, 1) := by decide +kernel
theorem d_law_1792 : decode code 1792 = .ok (.aload_n 3, 1) := by decide +kernel
theorem d_law_1793 : decode code 1793 = .ok (.invokestatic 210, 3) := by decide +kernel
