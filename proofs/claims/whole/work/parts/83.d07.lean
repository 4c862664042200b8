/-! the law's entry, its instructions (7) -/
theorem d_law_869 : decode code 869 = .ok (.laload, 1) := by decide +kernel
theorem d_law_870 : decode code 870 = .ok (.iload 6, 2) := by decide +kernel
theorem d_law_872 : decode code 872 = .ok (.i2l, 1) := by decide +kernel
theorem d_law_873 : decode code 873 = .ok (.lcmp, 1) := by decide +kernel
theorem d_law_874 : decode code 874 = .ok (.ifCond .eq 5, 3) := by decide +kernel
theorem d_law_879 : decode code 879 = .ok (.goto 1196, 3) := by decide +kernel
theorem d_law_882 : decode code 882 = .ok (.aload_n 1, 1) := by decide +kernel
theorem d_law_883 : decode code 883 = .ok (.aload_n 0, 1) := by decide +kernel
theorem d_law_884 : decode code 884 = .ok (.iload 4, 2) := by decide +kernel
theorem d_law_886 : decode code 886 = .ok (.iconst 1, 1) := by decide +kernel
theorem d_law_887 : decode code 887 = .ok (.iadd, 1) := by decide +kernel
theorem d_law_888 : decode code 888 = .ok (.iaload, 1) := by decide +kernel
theorem d_law_889 : decode code 889 = .ok (.aload_n 3, 1) := by decide +kernel
theorem d_law_890 : decode code 890 = .ok (.invokestatic 161, 3) := by decide +kernel
theorem d_law_893 : decode code 893 = .ok (.istore 5, 2) := by decide +kernel
theorem d_law_895 : decode code 895 = .ok (.aload_n 2, 1) := by decide +kernel
theorem d_law_896 : decode code 896 = .ok (.aload_n 0, 1) := by decide +kernel
theorem d_law_897 : decode code 897 = .ok (.iload 4, 2) := by decide +kernel
theorem d_law_899 : decode code 899 = .ok (.iconst 1, 1) := by decide +kernel
theorem d_law_900 : decode code 900 = .ok (.iadd, 1) := by decide +kernel
theorem d_law_901 : decode code 901 = .ok (.iaload, 1) := by decide +kernel
theorem d_law_902 : decode code 902 = .ok (.invokevirtual 163, 3) := by decide +kernel
theorem d_law_905 : decode code 905 = .ok (.istore 6, 2) := by decide +kernel
theorem d_law_907 : decode code 907 = .ok (.aload_n 2, 1) := by decide +kernel
theorem d_law_908 : decode code 908 = .ok (.invokevirtual 118, 3) := by decide +kernel
theorem d_law_911 : decode code 911 = .ok (.iload 5, 2) := by decide +kernel
theorem d_law_913 : decode code 913 = .ok (.if_icmp .eq 5, 3) := by decide +kernel
theorem d_law_918 : decode code 918 = .ok (.iload 5, 2) := by decide +kernel
theorem d_law_920 : decode code 920 = .ok (.ifCond .ne 15, 3) := by decide +kernel
theorem d_law_923 : decode code 923 = .ok (.aload_n 3, 1) := by decide +kernel
theorem d_law_924 : decode code 924 = .ok (.iconst 0, 1) := by decide +kernel
theorem d_law_925 : decode code 925 = .ok (.laload, 1) := by decide +kernel
theorem d_law_926 : decode code 926 = .ok (.iload 6, 2) := by decide +kernel
theorem d_law_928 : decode code 928 = .ok (.i2l, 1) := by decide +kernel
theorem d_law_929 : decode code 929 = .ok (.lcmp, 1) := by decide +kernel
theorem d_law_930 : decode code 930 = .ok (.ifCond .eq 5, 3) := by decide +kernel
theorem d_law_935 : decode code 935 = .ok (.goto 1140, 3) := by decide +kernel
theorem d_law_938 : decode code 938 = .ok (.aload_n 1, 1) := by decide +kernel
theorem d_law_939 : decode code 939 = .ok (.aload_n 0, 1) := by decide +kernel
theorem d_law_940 : decode code 940 = .ok (.iload 4, 2) := by decide +kernel
theorem d_law_942 : decode code 942 = .ok (.iconst 1, 1) := by decide +kernel
theorem d_law_943 : decode code 943 = .ok (.iadd, 1) := by decide +kernel
theorem d_law_944 : decode code 944 = .ok (.iaload, 1) := by decide +kernel
theorem d_law_945 : decode code 945 = .ok (.aload_n 0, 1) := by decide +kernel
theorem d_law_946 : decode code 946 = .ok (.iload 4, 2) := by decide +kernel
theorem d_law_948 : decode code 948 = .ok (.iconst 2, 1) := by decide +kernel
theorem d_law_949 : decode code 949 = .ok (.iadd, 1) := by decide +kernel
theorem d_law_950 : decode code 950 = .ok (.iaload, 1) := by decide +kernel
theorem d_law_951 : decode code 951 = .ok (.aload_n 3, 1) := by decide +kernel
theorem d_law_952 : decode code 952 = .ok (.invokestatic 164, 3) := by decide +kernel
theorem d_law_955 : decode code 955 = .ok (.istore 5, 2) := by decide +kernel
theorem d_law_957 : decode code 957 = .ok (.aload_n 2, 1) := by decide +kernel
theorem d_law_958 : decode code 958 = .ok (.aload_n 0, 1) := by decide +kernel
theorem d_law_959 : decode code 959 = .ok (.iload 4, 2) := by decide +kernel
theorem d_law_961 : decode code 961 = .ok (.iconst 1, 1) := by decide +kernel
theorem d_law_962 : decode code 962 = .ok (.iadd, 1) := by decide +kernel
theorem d_law_963 : decode code 963 = .ok (.iaload, 1) := by decide +kernel
theorem d_law_964 : decode code 964 = .ok (.aload_n 0, 1) := by decide +kernel
theorem d_law_965 : decode code 965 = .ok (.iload 4, 2) := by decide +kernel
theorem d_law_967 : decode code 967 = .ok (.iconst 2, 1) := by decide +kernel
