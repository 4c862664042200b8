/-! the law's entry, its instructions (16) -/
theorem d_law_1796 : decode code 1796 = .ok (.istore 5, 2) := by decide +kernel
theorem d_law_1798 : decode code 1798 = .ok (.aload_n 2, 1) := by decide +kernel
theorem d_law_1799 : decode code 1799 = .ok (.aload_n 0, 1) := by decide +kernel
theorem d_law_1800 : decode code 1800 = .ok (.iload 4, 2) := by decide +kernel
theorem d_law_1802 : decode code 1802 = .ok (.iconst 1, 1) := by decide +kernel
theorem d_law_1803 : decode code 1803 = .ok (.iadd, 1) := by decide +kernel
theorem d_law_1804 : decode code 1804 = .ok (.iaload, 1) := by decide +kernel
theorem d_law_1805 : decode code 1805 = .ok (.aload_n 0, 1) := by decide +kernel
theorem d_law_1806 : decode code 1806 = .ok (.iload 4, 2) := by decide +kernel
theorem d_law_1808 : decode code 1808 = .ok (.iconst 2, 1) := by decide +kernel
theorem d_law_1809 : decode code 1809 = .ok (.iadd, 1) := by decide +kernel
theorem d_law_1810 : decode code 1810 = .ok (.iaload, 1) := by decide +kernel
theorem d_law_1811 : decode code 1811 = .ok (.i2l, 1) := by decide +kernel
theorem d_law_1812 : decode code 1812 = .ok (.bipush 32, 2) := by decide +kernel
theorem d_law_1814 : decode code 1814 = .ok (.lshl, 1) := by decide +kernel
theorem d_law_1815 : decode code 1815 = .ok (.aload_n 0, 1) := by decide +kernel
theorem d_law_1816 : decode code 1816 = .ok (.iload 4, 2) := by decide +kernel
theorem d_law_1818 : decode code 1818 = .ok (.iconst 3, 1) := by decide +kernel
theorem d_law_1819 : decode code 1819 = .ok (.iadd, 1) := by decide +kernel
theorem d_law_1820 : decode code 1820 = .ok (.iaload, 1) := by decide +kernel
theorem d_law_1821 : decode code 1821 = .ok (.i2l, 1) := by decide +kernel
theorem d_law_1822 : decode code 1822 = .ok (.ldc2_w 208, 3) := by decide +kernel
theorem d_law_1825 : decode code 1825 = .ok (.land, 1) := by decide +kernel
theorem d_law_1826 : decode code 1826 = .ok (.lor, 1) := by decide +kernel
theorem d_law_1827 : decode code 1827 = .ok (.invokevirtual 213, 3) := by decide +kernel
theorem d_law_1830 : decode code 1830 = .ok (.istore 6, 2) := by decide +kernel
theorem d_law_1832 : decode code 1832 = .ok (.aload_n 2, 1) := by decide +kernel
theorem d_law_1833 : decode code 1833 = .ok (.invokevirtual 118, 3) := by decide +kernel
theorem d_law_1836 : decode code 1836 = .ok (.iload 5, 2) := by decide +kernel
theorem d_law_1838 : decode code 1838 = .ok (.if_icmp .eq 5, 3) := by decide +kernel
theorem d_law_1843 : decode code 1843 = .ok (.iload 5, 2) := by decide +kernel
theorem d_law_1845 : decode code 1845 = .ok (.ifCond .ne 15, 3) := by decide +kernel
theorem d_law_1848 : decode code 1848 = .ok (.aload_n 3, 1) := by decide +kernel
theorem d_law_1849 : decode code 1849 = .ok (.iconst 0, 1) := by decide +kernel
theorem d_law_1850 : decode code 1850 = .ok (.laload, 1) := by decide +kernel
theorem d_law_1851 : decode code 1851 = .ok (.iload 6, 2) := by decide +kernel
theorem d_law_1853 : decode code 1853 = .ok (.i2l, 1) := by decide +kernel
theorem d_law_1854 : decode code 1854 = .ok (.lcmp, 1) := by decide +kernel
theorem d_law_1855 : decode code 1855 = .ok (.ifCond .eq 5, 3) := by decide +kernel
theorem d_law_1860 : decode code 1860 = .ok (.goto 215, 3) := by decide +kernel
theorem d_law_1863 : decode code 1863 = .ok (.aload_n 1, 1) := by decide +kernel
theorem d_law_1864 : decode code 1864 = .ok (.aload_n 0, 1) := by decide +kernel
theorem d_law_1865 : decode code 1865 = .ok (.iload 4, 2) := by decide +kernel
theorem d_law_1867 : decode code 1867 = .ok (.iconst 1, 1) := by decide +kernel
theorem d_law_1868 : decode code 1868 = .ok (.iadd, 1) := by decide +kernel
theorem d_law_1869 : decode code 1869 = .ok (.iaload, 1) := by decide +kernel
theorem d_law_1870 : decode code 1870 = .ok (.i2l, 1) := by decide +kernel
theorem d_law_1871 : decode code 1871 = .ok (.bipush 32, 2) := by decide +kernel
theorem d_law_1873 : decode code 1873 = .ok (.lshl, 1) := by decide +kernel
theorem d_law_1874 : decode code 1874 = .ok (.aload_n 0, 1) := by decide +kernel
theorem d_law_1875 : decode code 1875 = .ok (.iload 4, 2) := by decide +kernel
theorem d_law_1877 : decode code 1877 = .ok (.iconst 2, 1) := by decide +kernel
theorem d_law_1878 : decode code 1878 = .ok (.iadd, 1) := by decide +kernel
theorem d_law_1879 : decode code 1879 = .ok (.iaload, 1) := by decide +kernel
theorem d_law_1880 : decode code 1880 = .ok (.i2l, 1) := by decide +kernel
theorem d_law_1881 : decode code 1881 = .ok (.ldc2_w 208, 3) := by decide +kernel
theorem d_law_1884 : decode code 1884 = .ok (.land, 1) := by decide +kernel
theorem d_law_1885 : decode code 1885 = .ok (.lor, 1) := by decide +kernel
theorem d_law_1886 : decode code 1886 = .ok (.aload_n 0, 1) := by decide +kernel
theorem d_law_1887 : decode code 1887 = .ok (.iload 4, 2) := by decide +kernel
