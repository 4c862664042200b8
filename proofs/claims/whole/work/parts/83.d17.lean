/-! the law's entry, its instructions (17) -/
theorem d_law_1889 : decode code 1889 = .ok (.iconst 3, 1) := by decide +kernel
theorem d_law_1890 : decode code 1890 = .ok (.iadd, 1) := by decide +kernel
theorem d_law_1891 : decode code 1891 = .ok (.iaload, 1) := by decide +kernel
theorem d_law_1892 : decode code 1892 = .ok (.aload_n 3, 1) := by decide +kernel
theorem d_law_1893 : decode code 1893 = .ok (.invokestatic 214, 3) := by decide +kernel
theorem d_law_1896 : decode code 1896 = .ok (.istore 5, 2) := by decide +kernel
theorem d_law_1898 : decode code 1898 = .ok (.aload_n 2, 1) := by decide +kernel
theorem d_law_1899 : decode code 1899 = .ok (.aload_n 0, 1) := by decide +kernel
theorem d_law_1900 : decode code 1900 = .ok (.iload 4, 2) := by decide +kernel
theorem d_law_1902 : decode code 1902 = .ok (.iconst 1, 1) := by decide +kernel
theorem d_law_1903 : decode code 1903 = .ok (.iadd, 1) := by decide +kernel
theorem d_law_1904 : decode code 1904 = .ok (.iaload, 1) := by decide +kernel
theorem d_law_1905 : decode code 1905 = .ok (.i2l, 1) := by decide +kernel
theorem d_law_1906 : decode code 1906 = .ok (.bipush 32, 2) := by decide +kernel
theorem d_law_1908 : decode code 1908 = .ok (.lshl, 1) := by decide +kernel
theorem d_law_1909 : decode code 1909 = .ok (.aload_n 0, 1) := by decide +kernel
theorem d_law_1910 : decode code 1910 = .ok (.iload 4, 2) := by decide +kernel
theorem d_law_1912 : decode code 1912 = .ok (.iconst 2, 1) := by decide +kernel
theorem d_law_1913 : decode code 1913 = .ok (.iadd, 1) := by decide +kernel
theorem d_law_1914 : decode code 1914 = .ok (.iaload, 1) := by decide +kernel
theorem d_law_1915 : decode code 1915 = .ok (.i2l, 1) := by decide +kernel
theorem d_law_1916 : decode code 1916 = .ok (.ldc2_w 208, 3) := by decide +kernel
theorem d_law_1919 : decode code 1919 = .ok (.land, 1) := by decide +kernel
theorem d_law_1920 : decode code 1920 = .ok (.lor, 1) := by decide +kernel
theorem d_law_1921 : decode code 1921 = .ok (.aload_n 0, 1) := by decide +kernel
theorem d_law_1922 : decode code 1922 = .ok (.iload 4, 2) := by decide +kernel
theorem d_law_1924 : decode code 1924 = .ok (.iconst 3, 1) := by decide +kernel
theorem d_law_1925 : decode code 1925 = .ok (.iadd, 1) := by decide +kernel
theorem d_law_1926 : decode code 1926 = .ok (.iaload, 1) := by decide +kernel
theorem d_law_1927 : decode code 1927 = .ok (.invokevirtual 217, 3) := by decide +kernel
theorem d_law_1930 : decode code 1930 = .ok (.istore 6, 2) := by decide +kernel
theorem d_law_1932 : decode code 1932 = .ok (.aload_n 2, 1) := by decide +kernel
theorem d_law_1933 : decode code 1933 = .ok (.invokevirtual 118, 3) := by decide +kernel
theorem d_law_1936 : decode code 1936 = .ok (.iload 5, 2) := by decide +kernel
theorem d_law_1938 : decode code 1938 = .ok (.if_icmp .eq 5, 3) := by decide +kernel
theorem d_law_1943 : decode code 1943 = .ok (.iload 5, 2) := by decide +kernel
theorem d_law_1945 : decode code 1945 = .ok (.ifCond .ne 15, 3) := by decide +kernel
theorem d_law_1948 : decode code 1948 = .ok (.aload_n 3, 1) := by decide +kernel
theorem d_law_1949 : decode code 1949 = .ok (.iconst 0, 1) := by decide +kernel
theorem d_law_1950 : decode code 1950 = .ok (.laload, 1) := by decide +kernel
theorem d_law_1951 : decode code 1951 = .ok (.iload 6, 2) := by decide +kernel
theorem d_law_1953 : decode code 1953 = .ok (.i2l, 1) := by decide +kernel
theorem d_law_1954 : decode code 1954 = .ok (.lcmp, 1) := by decide +kernel
theorem d_law_1955 : decode code 1955 = .ok (.ifCond .eq 5, 3) := by decide +kernel
theorem d_law_1960 : decode code 1960 = .ok (.goto 115, 3) := by decide +kernel
theorem d_law_1963 : decode code 1963 = .ok (.aload_n 1, 1) := by decide +kernel
theorem d_law_1964 : decode code 1964 = .ok (.aload_n 0, 1) := by decide +kernel
theorem d_law_1965 : decode code 1965 = .ok (.iload 4, 2) := by decide +kernel
theorem d_law_1967 : decode code 1967 = .ok (.iconst 1, 1) := by decide +kernel
theorem d_law_1968 : decode code 1968 = .ok (.iadd, 1) := by decide +kernel
theorem d_law_1969 : decode code 1969 = .ok (.iaload, 1) := by decide +kernel
theorem d_law_1970 : decode code 1970 = .ok (.aload_n 3, 1) := by decide +kernel
theorem d_law_1971 : decode code 1971 = .ok (.invokestatic 218, 3) := by decide +kernel
theorem d_law_1974 : decode code 1974 = .ok (.istore 5, 2) := by decide +kernel
theorem d_law_1976 : decode code 1976 = .ok (.aload_n 2, 1) := by decide +kernel
theorem d_law_1977 : decode code 1977 = .ok (.aload_n 0, 1) := by decide +kernel
theorem d_law_1978 : decode code 1978 = .ok (.iload 4, 2) := by decide +kernel
theorem d_law_1980 : decode code 1980 = .ok (.iconst 1, 1) := by decide +kernel
theorem d_law_1981 : decode code 1981 = .ok (.iadd, 1) := by decide +kernel
theorem d_law_1982 : decode code 1982 = .ok (.iaload, 1) := by decide +kernel
