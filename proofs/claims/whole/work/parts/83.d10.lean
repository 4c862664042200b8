/-! the law's entry, its instructions (10) -/
theorem d_law_1173 : decode code 1173 = .ok (.if_icmp .eq 5, 3) := by decide +kernel
theorem d_law_1178 : decode code 1178 = .ok (.iload 5, 2) := by decide +kernel
theorem d_law_1180 : decode code 1180 = .ok (.ifCond .ne 15, 3) := by decide +kernel
theorem d_law_1183 : decode code 1183 = .ok (.aload_n 3, 1) := by decide +kernel
theorem d_law_1184 : decode code 1184 = .ok (.iconst 0, 1) := by decide +kernel
theorem d_law_1185 : decode code 1185 = .ok (.laload, 1) := by decide +kernel
theorem d_law_1186 : decode code 1186 = .ok (.iload 6, 2) := by decide +kernel
theorem d_law_1188 : decode code 1188 = .ok (.i2l, 1) := by decide +kernel
theorem d_law_1189 : decode code 1189 = .ok (.lcmp, 1) := by decide +kernel
theorem d_law_1190 : decode code 1190 = .ok (.ifCond .eq 5, 3) := by decide +kernel
theorem d_law_1195 : decode code 1195 = .ok (.goto 880, 3) := by decide +kernel
theorem d_law_1198 : decode code 1198 = .ok (.aload_n 1, 1) := by decide +kernel
theorem d_law_1199 : decode code 1199 = .ok (.aload_n 0, 1) := by decide +kernel
theorem d_law_1200 : decode code 1200 = .ok (.iload 4, 2) := by decide +kernel
theorem d_law_1202 : decode code 1202 = .ok (.iconst 1, 1) := by decide +kernel
theorem d_law_1203 : decode code 1203 = .ok (.iadd, 1) := by decide +kernel
theorem d_law_1204 : decode code 1204 = .ok (.iaload, 1) := by decide +kernel
theorem d_law_1205 : decode code 1205 = .ok (.aload_n 3, 1) := by decide +kernel
theorem d_law_1206 : decode code 1206 = .ok (.invokestatic 176, 3) := by decide +kernel
theorem d_law_1209 : decode code 1209 = .ok (.istore 5, 2) := by decide +kernel
theorem d_law_1211 : decode code 1211 = .ok (.aload_n 2, 1) := by decide +kernel
theorem d_law_1212 : decode code 1212 = .ok (.aload_n 0, 1) := by decide +kernel
theorem d_law_1213 : decode code 1213 = .ok (.iload 4, 2) := by decide +kernel
theorem d_law_1215 : decode code 1215 = .ok (.iconst 1, 1) := by decide +kernel
theorem d_law_1216 : decode code 1216 = .ok (.iadd, 1) := by decide +kernel
theorem d_law_1217 : decode code 1217 = .ok (.iaload, 1) := by decide +kernel
theorem d_law_1218 : decode code 1218 = .ok (.invokevirtual 178, 3) := by decide +kernel
theorem d_law_1221 : decode code 1221 = .ok (.istore 6, 2) := by decide +kernel
theorem d_law_1223 : decode code 1223 = .ok (.aload_n 2, 1) := by decide +kernel
theorem d_law_1224 : decode code 1224 = .ok (.invokevirtual 118, 3) := by decide +kernel
theorem d_law_1227 : decode code 1227 = .ok (.iload 5, 2) := by decide +kernel
theorem d_law_1229 : decode code 1229 = .ok (.if_icmp .eq 5, 3) := by decide +kernel
theorem d_law_1234 : decode code 1234 = .ok (.iload 5, 2) := by decide +kernel
theorem d_law_1236 : decode code 1236 = .ok (.ifCond .ne 15, 3) := by decide +kernel
theorem d_law_1239 : decode code 1239 = .ok (.aload_n 3, 1) := by decide +kernel
theorem d_law_1240 : decode code 1240 = .ok (.iconst 0, 1) := by decide +kernel
theorem d_law_1241 : decode code 1241 = .ok (.laload, 1) := by decide +kernel
theorem d_law_1242 : decode code 1242 = .ok (.iload 6, 2) := by decide +kernel
theorem d_law_1244 : decode code 1244 = .ok (.i2l, 1) := by decide +kernel
theorem d_law_1245 : decode code 1245 = .ok (.lcmp, 1) := by decide +kernel
theorem d_law_1246 : decode code 1246 = .ok (.ifCond .eq 5, 3) := by decide +kernel
theorem d_law_1251 : decode code 1251 = .ok (.goto 824, 3) := by decide +kernel
theorem d_law_1254 : decode code 1254 = .ok (.aload_n 1, 1) := by decide +kernel
theorem d_law_1255 : decode code 1255 = .ok (.aload_n 0, 1) := by decide +kernel
theorem d_law_1256 : decode code 1256 = .ok (.iload 4, 2) := by decide +kernel
theorem d_law_1258 : decode code 1258 = .ok (.iconst 1, 1) := by decide +kernel
theorem d_law_1259 : decode code 1259 = .ok (.iadd, 1) := by decide +kernel
theorem d_law_1260 : decode code 1260 = .ok (.iaload, 1) := by decide +kernel
theorem d_law_1261 : decode code 1261 = .ok (.aload_n 3, 1) := by decide +kernel
theorem d_law_1262 : decode code 1262 = .ok (.invokestatic 179, 3) := by decide +kernel
theorem d_law_1265 : decode code 1265 = .ok (.istore 5, 2) := by decide +kernel
theorem d_law_1267 : decode code 1267 = .ok (.aload_n 2, 1) := by decide +kernel
theorem d_law_1268 : decode code 1268 = .ok (.aload_n 0, 1) := by decide +kernel
theorem d_law_1269 : decode code 1269 = .ok (.iload 4, 2) := by decide +kernel
theorem d_law_1271 : decode code 1271 = .ok (.iconst 1, 1) := by decide +kernel
theorem d_law_1272 : decode code 1272 = .ok (.iadd, 1) := by decide +kernel
theorem d_law_1273 : decode code 1273 = .ok (.iaload, 1) := by decide +kernel
theorem d_law_1274 : decode code 1274 = .ok (.invokevirtual 181, 3) := by decide +kernel
theorem d_law_1277 : decode code 1277 = .ok (.istore 6, 2) := by decide +kernel
theorem d_law_1279 : decode code 1279 = .ok (.aload_n 2, 1) := by decide +kernel
