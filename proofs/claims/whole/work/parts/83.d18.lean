/-! the law's entry, its instructions (18) -/
theorem d_law_1983 : decode code 1983 = .ok (.invokevirtual 220, 3) := by decide +kernel
theorem d_law_1986 : decode code 1986 = .ok (.istore 6, 2) := by decide +kernel
theorem d_law_1988 : decode code 1988 = .ok (.aload_n 2, 1) := by decide +kernel
theorem d_law_1989 : decode code 1989 = .ok (.invokevirtual 118, 3) := by decide +kernel
theorem d_law_1992 : decode code 1992 = .ok (.iload 5, 2) := by decide +kernel
theorem d_law_1994 : decode code 1994 = .ok (.if_icmp .eq 5, 3) := by decide +kernel
theorem d_law_1999 : decode code 1999 = .ok (.iload 5, 2) := by decide +kernel
theorem d_law_2001 : decode code 2001 = .ok (.ifCond .ne 15, 3) := by decide +kernel
theorem d_law_2004 : decode code 2004 = .ok (.aload_n 3, 1) := by decide +kernel
theorem d_law_2005 : decode code 2005 = .ok (.iconst 0, 1) := by decide +kernel
theorem d_law_2006 : decode code 2006 = .ok (.laload, 1) := by decide +kernel
theorem d_law_2007 : decode code 2007 = .ok (.iload 6, 2) := by decide +kernel
theorem d_law_2009 : decode code 2009 = .ok (.i2l, 1) := by decide +kernel
theorem d_law_2010 : decode code 2010 = .ok (.lcmp, 1) := by decide +kernel
theorem d_law_2011 : decode code 2011 = .ok (.ifCond .eq 5, 3) := by decide +kernel
theorem d_law_2016 : decode code 2016 = .ok (.goto 59, 3) := by decide +kernel
theorem d_law_2019 : decode code 2019 = .ok (.aload_n 1, 1) := by decide +kernel
theorem d_law_2020 : decode code 2020 = .ok (.aload_n 0, 1) := by decide +kernel
theorem d_law_2021 : decode code 2021 = .ok (.iload 4, 2) := by decide +kernel
theorem d_law_2023 : decode code 2023 = .ok (.iconst 1, 1) := by decide +kernel
theorem d_law_2024 : decode code 2024 = .ok (.iadd, 1) := by decide +kernel
theorem d_law_2025 : decode code 2025 = .ok (.iaload, 1) := by decide +kernel
theorem d_law_2026 : decode code 2026 = .ok (.aload_n 3, 1) := by decide +kernel
theorem d_law_2027 : decode code 2027 = .ok (.invokestatic 221, 3) := by decide +kernel
theorem d_law_2030 : decode code 2030 = .ok (.istore 5, 2) := by decide +kernel
theorem d_law_2032 : decode code 2032 = .ok (.aload_n 2, 1) := by decide +kernel
theorem d_law_2033 : decode code 2033 = .ok (.aload_n 0, 1) := by decide +kernel
theorem d_law_2034 : decode code 2034 = .ok (.iload 4, 2) := by decide +kernel
theorem d_law_2036 : decode code 2036 = .ok (.iconst 1, 1) := by decide +kernel
theorem d_law_2037 : decode code 2037 = .ok (.iadd, 1) := by decide +kernel
theorem d_law_2038 : decode code 2038 = .ok (.iaload, 1) := by decide +kernel
theorem d_law_2039 : decode code 2039 = .ok (.invokevirtual 223, 3) := by decide +kernel
theorem d_law_2042 : decode code 2042 = .ok (.istore 6, 2) := by decide +kernel
theorem d_law_2044 : decode code 2044 = .ok (.aload_n 2, 1) := by decide +kernel
theorem d_law_2045 : decode code 2045 = .ok (.invokevirtual 118, 3) := by decide +kernel
theorem d_law_2048 : decode code 2048 = .ok (.iload 5, 2) := by decide +kernel
theorem d_law_2050 : decode code 2050 = .ok (.if_icmp .eq 5, 3) := by decide +kernel
theorem d_law_2055 : decode code 2055 = .ok (.iload 5, 2) := by decide +kernel
theorem d_law_2057 : decode code 2057 = .ok (.ifCond .ne 15, 3) := by decide +kernel
theorem d_law_2060 : decode code 2060 = .ok (.aload_n 3, 1) := by decide +kernel
theorem d_law_2061 : decode code 2061 = .ok (.iconst 0, 1) := by decide +kernel
theorem d_law_2062 : decode code 2062 = .ok (.laload, 1) := by decide +kernel
theorem d_law_2063 : decode code 2063 = .ok (.iload 6, 2) := by decide +kernel
theorem d_law_2065 : decode code 2065 = .ok (.i2l, 1) := by decide +kernel
theorem d_law_2066 : decode code 2066 = .ok (.lcmp, 1) := by decide +kernel
theorem d_law_2067 : decode code 2067 = .ok (.ifCond .eq 5, 3) := by decide +kernel
theorem d_law_2072 : decode code 2072 = .ok (.goto 3, 3) := by decide +kernel
theorem d_law_2075 : decode code 2075 = .ok (.iinc 4 4, 3) := by decide +kernel
theorem d_law_2078 : decode code 2078 = .ok (.goto (-2055), 3) := by decide +kernel
theorem d_law_2081 : decode code 2081 = .ok (.iconst 1, 1) := by decide +kernel
theorem d_law_2082 : decode code 2082 = .ok (.ireturn, 1) := by decide +kernel
