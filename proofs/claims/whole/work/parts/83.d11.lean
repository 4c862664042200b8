/-! the law's entry, its instructions (11) -/
theorem d_law_1280 : decode code 1280 = .ok (.invokevirtual 118, 3) := by decide +kernel
theorem d_law_1283 : decode code 1283 = .ok (.iload 5, 2) := by decide +kernel
theorem d_law_1285 : decode code 1285 = .ok (.if_icmp .eq 5, 3) := by decide +kernel
theorem d_law_1290 : decode code 1290 = .ok (.iload 5, 2) := by decide +kernel
theorem d_law_1292 : decode code 1292 = .ok (.ifCond .ne 15, 3) := by decide +kernel
theorem d_law_1295 : decode code 1295 = .ok (.aload_n 3, 1) := by decide +kernel
theorem d_law_1296 : decode code 1296 = .ok (.iconst 0, 1) := by decide +kernel
theorem d_law_1297 : decode code 1297 = .ok (.laload, 1) := by decide +kernel
theorem d_law_1298 : decode code 1298 = .ok (.iload 6, 2) := by decide +kernel
theorem d_law_1300 : decode code 1300 = .ok (.i2l, 1) := by decide +kernel
theorem d_law_1301 : decode code 1301 = .ok (.lcmp, 1) := by decide +kernel
theorem d_law_1302 : decode code 1302 = .ok (.ifCond .eq 5, 3) := by decide +kernel
theorem d_law_1307 : decode code 1307 = .ok (.goto 768, 3) := by decide +kernel
theorem d_law_1310 : decode code 1310 = .ok (.aload_n 1, 1) := by decide +kernel
theorem d_law_1311 : decode code 1311 = .ok (.aload_n 0, 1) := by decide +kernel
theorem d_law_1312 : decode code 1312 = .ok (.iload 4, 2) := by decide +kernel
theorem d_law_1314 : decode code 1314 = .ok (.iconst 1, 1) := by decide +kernel
theorem d_law_1315 : decode code 1315 = .ok (.iadd, 1) := by decide +kernel
theorem d_law_1316 : decode code 1316 = .ok (.iaload, 1) := by decide +kernel
theorem d_law_1317 : decode code 1317 = .ok (.aload_n 0, 1) := by decide +kernel
theorem d_law_1318 : decode code 1318 = .ok (.iload 4, 2) := by decide +kernel
theorem d_law_1320 : decode code 1320 = .ok (.iconst 2, 1) := by decide +kernel
theorem d_law_1321 : decode code 1321 = .ok (.iadd, 1) := by decide +kernel
theorem d_law_1322 : decode code 1322 = .ok (.iaload, 1) := by decide +kernel
theorem d_law_1323 : decode code 1323 = .ok (.aload_n 3, 1) := by decide +kernel
theorem d_law_1324 : decode code 1324 = .ok (.invokestatic 182, 3) := by decide +kernel
theorem d_law_1327 : decode code 1327 = .ok (.istore 5, 2) := by decide +kernel
theorem d_law_1329 : decode code 1329 = .ok (.aload_n 2, 1) := by decide +kernel
theorem d_law_1330 : decode code 1330 = .ok (.aload_n 0, 1) := by decide +kernel
theorem d_law_1331 : decode code 1331 = .ok (.iload 4, 2) := by decide +kernel
theorem d_law_1333 : decode code 1333 = .ok (.iconst 1, 1) := by decide +kernel
theorem d_law_1334 : decode code 1334 = .ok (.iadd, 1) := by decide +kernel
theorem d_law_1335 : decode code 1335 = .ok (.iaload, 1) := by decide +kernel
theorem d_law_1336 : decode code 1336 = .ok (.aload_n 0, 1) := by decide +kernel
theorem d_law_1337 : decode code 1337 = .ok (.iload 4, 2) := by decide +kernel
theorem d_law_1339 : decode code 1339 = .ok (.iconst 2, 1) := by decide +kernel
theorem d_law_1340 : decode code 1340 = .ok (.iadd, 1) := by decide +kernel
theorem d_law_1341 : decode code 1341 = .ok (.iaload, 1) := by decide +kernel
theorem d_law_1342 : decode code 1342 = .ok (.invokevirtual 184, 3) := by decide +kernel
theorem d_law_1345 : decode code 1345 = .ok (.istore 6, 2) := by decide +kernel
theorem d_law_1347 : decode code 1347 = .ok (.aload_n 2, 1) := by decide +kernel
theorem d_law_1348 : decode code 1348 = .ok (.invokevirtual 118, 3) := by decide +kernel
theorem d_law_1351 : decode code 1351 = .ok (.iload 5, 2) := by decide +kernel
theorem d_law_1353 : decode code 1353 = .ok (.if_icmp .eq 5, 3) := by decide +kernel
theorem d_law_1358 : decode code 1358 = .ok (.iload 5, 2) := by decide +kernel
theorem d_law_1360 : decode code 1360 = .ok (.ifCond .ne 15, 3) := by decide +kernel
theorem d_law_1363 : decode code 1363 = .ok (.aload_n 3, 1) := by decide +kernel
theorem d_law_1364 : decode code 1364 = .ok (.iconst 0, 1) := by decide +kernel
theorem d_law_1365 : decode code 1365 = .ok (.laload, 1) := by decide +kernel
theorem d_law_1366 : decode code 1366 = .ok (.iload 6, 2) := by decide +kernel
theorem d_law_1368 : decode code 1368 = .ok (.i2l, 1) := by decide +kernel
theorem d_law_1369 : decode code 1369 = .ok (.lcmp, 1) := by decide +kernel
theorem d_law_1370 : decode code 1370 = .ok (.ifCond .eq 5, 3) := by decide +kernel
theorem d_law_1375 : decode code 1375 = .ok (.goto 700, 3) := by decide +kernel
theorem d_law_1378 : decode code 1378 = .ok (.aload_n 1, 1) := by decide +kernel
theorem d_law_1379 : decode code 1379 = .ok (.aload_n 3, 1) := by decide +kernel
theorem d_law_1380 : decode code 1380 = .ok (.invokestatic 185, 3) := by decide +kernel
theorem d_law_1383 : decode code 1383 = .ok (.istore 5, 2) := by decide +kernel
theorem d_law_1385 : decode code 1385 = .ok (.aload_n 2, 1) := by decide +kernel
theorem d_law_1386 : decode code 1386 = .ok (.invokevirtual 187, 3) := by decide +kernel
