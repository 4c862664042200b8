/-! the law's entry, its instructions (9) -/
theorem d_law_1075 : decode code 1075 = .ok (.aload_n 0, 1) := by decide +kernel
theorem d_law_1076 : decode code 1076 = .ok (.iload 4, 2) := by decide +kernel
theorem d_law_1078 : decode code 1078 = .ok (.iconst 1, 1) := by decide +kernel
theorem d_law_1079 : decode code 1079 = .ok (.iadd, 1) := by decide +kernel
theorem d_law_1080 : decode code 1080 = .ok (.iaload, 1) := by decide +kernel
theorem d_law_1081 : decode code 1081 = .ok (.aload_n 3, 1) := by decide +kernel
theorem d_law_1082 : decode code 1082 = .ok (.invokestatic 170, 3) := by decide +kernel
theorem d_law_1085 : decode code 1085 = .ok (.istore 5, 2) := by decide +kernel
theorem d_law_1087 : decode code 1087 = .ok (.aload_n 2, 1) := by decide +kernel
theorem d_law_1088 : decode code 1088 = .ok (.aload_n 0, 1) := by decide +kernel
theorem d_law_1089 : decode code 1089 = .ok (.iload 4, 2) := by decide +kernel
theorem d_law_1091 : decode code 1091 = .ok (.iconst 1, 1) := by decide +kernel
theorem d_law_1092 : decode code 1092 = .ok (.iadd, 1) := by decide +kernel
theorem d_law_1093 : decode code 1093 = .ok (.iaload, 1) := by decide +kernel
theorem d_law_1094 : decode code 1094 = .ok (.invokevirtual 172, 3) := by decide +kernel
theorem d_law_1097 : decode code 1097 = .ok (.istore 6, 2) := by decide +kernel
theorem d_law_1099 : decode code 1099 = .ok (.aload_n 2, 1) := by decide +kernel
theorem d_law_1100 : decode code 1100 = .ok (.invokevirtual 118, 3) := by decide +kernel
theorem d_law_1103 : decode code 1103 = .ok (.iload 5, 2) := by decide +kernel
theorem d_law_1105 : decode code 1105 = .ok (.if_icmp .eq 5, 3) := by decide +kernel
theorem d_law_1110 : decode code 1110 = .ok (.iload 5, 2) := by decide +kernel
theorem d_law_1112 : decode code 1112 = .ok (.ifCond .ne 15, 3) := by decide +kernel
theorem d_law_1115 : decode code 1115 = .ok (.aload_n 3, 1) := by decide +kernel
theorem d_law_1116 : decode code 1116 = .ok (.iconst 0, 1) := by decide +kernel
theorem d_law_1117 : decode code 1117 = .ok (.laload, 1) := by decide +kernel
theorem d_law_1118 : decode code 1118 = .ok (.iload 6, 2) := by decide +kernel
theorem d_law_1120 : decode code 1120 = .ok (.i2l, 1) := by decide +kernel
theorem d_law_1121 : decode code 1121 = .ok (.lcmp, 1) := by decide +kernel
theorem d_law_1122 : decode code 1122 = .ok (.ifCond .eq 5, 3) := by decide +kernel
theorem d_law_1127 : decode code 1127 = .ok (.goto 948, 3) := by decide +kernel
theorem d_law_1130 : decode code 1130 = .ok (.aload_n 1, 1) := by decide +kernel
theorem d_law_1131 : decode code 1131 = .ok (.aload_n 0, 1) := by decide +kernel
theorem d_law_1132 : decode code 1132 = .ok (.iload 4, 2) := by decide +kernel
theorem d_law_1134 : decode code 1134 = .ok (.iconst 1, 1) := by decide +kernel
theorem d_law_1135 : decode code 1135 = .ok (.iadd, 1) := by decide +kernel
theorem d_law_1136 : decode code 1136 = .ok (.iaload, 1) := by decide +kernel
theorem d_law_1137 : decode code 1137 = .ok (.aload_n 0, 1) := by decide +kernel
theorem d_law_1138 : decode code 1138 = .ok (.iload 4, 2) := by decide +kernel
theorem d_law_1140 : decode code 1140 = .ok (.iconst 2, 1) := by decide +kernel
theorem d_law_1141 : decode code 1141 = .ok (.iadd, 1) := by decide +kernel
theorem d_law_1142 : decode code 1142 = .ok (.iaload, 1) := by decide +kernel
theorem d_law_1143 : decode code 1143 = .ok (.aload_n 3, 1) := by decide +kernel
theorem d_law_1144 : decode code 1144 = .ok (.invokestatic 173, 3) := by decide +kernel
theorem d_law_1147 : decode code 1147 = .ok (.istore 5, 2) := by decide +kernel
theorem d_law_1149 : decode code 1149 = .ok (.aload_n 2, 1) := by decide +kernel
theorem d_law_1150 : decode code 1150 = .ok (.aload_n 0, 1) := by decide +kernel
theorem d_law_1151 : decode code 1151 = .ok (.iload 4, 2) := by decide +kernel
theorem d_law_1153 : decode code 1153 = .ok (.iconst 1, 1) := by decide +kernel
theorem d_law_1154 : decode code 1154 = .ok (.iadd, 1) := by decide +kernel
theorem d_law_1155 : decode code 1155 = .ok (.iaload, 1) := by decide +kernel
theorem d_law_1156 : decode code 1156 = .ok (.aload_n 0, 1) := by decide +kernel
theorem d_law_1157 : decode code 1157 = .ok (.iload 4, 2) := by decide +kernel
theorem d_law_1159 : decode code 1159 = .ok (.iconst 2, 1) := by decide +kernel
theorem d_law_1160 : decode code 1160 = .ok (.iadd, 1) := by decide +kernel
theorem d_law_1161 : decode code 1161 = .ok (.iaload, 1) := by decide +kernel
theorem d_law_1162 : decode code 1162 = .ok (.invokevirtual 175, 3) := by decide +kernel
theorem d_law_1165 : decode code 1165 = .ok (.istore 6, 2) := by decide +kernel
theorem d_law_1167 : decode code 1167 = .ok (.aload_n 2, 1) := by decide +kernel
theorem d_law_1168 : decode code 1168 = .ok (.invokevirtual 118, 3) := by decide +kernel
theorem d_law_1171 : decode code 1171 = .ok (.iload 5, 2) := by decide +kernel
