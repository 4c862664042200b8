/-! the law's entry, its instructions (12) -/
theorem d_law_1389 : decode code 1389 = .ok (.istore 6, 2) := by decide +kernel
theorem d_law_1391 : decode code 1391 = .ok (.aload_n 2, 1) := by decide +kernel
theorem d_law_1392 : decode code 1392 = .ok (.invokevirtual 118, 3) := by decide +kernel
theorem d_law_1395 : decode code 1395 = .ok (.iload 5, 2) := by decide +kernel
theorem d_law_1397 : decode code 1397 = .ok (.if_icmp .eq 5, 3) := by decide +kernel
theorem d_law_1402 : decode code 1402 = .ok (.iload 5, 2) := by decide +kernel
theorem d_law_1404 : decode code 1404 = .ok (.ifCond .ne 15, 3) := by decide +kernel
theorem d_law_1407 : decode code 1407 = .ok (.aload_n 3, 1) := by decide +kernel
theorem d_law_1408 : decode code 1408 = .ok (.iconst 0, 1) := by decide +kernel
theorem d_law_1409 : decode code 1409 = .ok (.laload, 1) := by decide +kernel
theorem d_law_1410 : decode code 1410 = .ok (.iload 6, 2) := by decide +kernel
theorem d_law_1412 : decode code 1412 = .ok (.i2l, 1) := by decide +kernel
theorem d_law_1413 : decode code 1413 = .ok (.lcmp, 1) := by decide +kernel
theorem d_law_1414 : decode code 1414 = .ok (.ifCond .eq 5, 3) := by decide +kernel
theorem d_law_1419 : decode code 1419 = .ok (.goto 656, 3) := by decide +kernel
theorem d_law_1422 : decode code 1422 = .ok (.aload_n 1, 1) := by decide +kernel
theorem d_law_1423 : decode code 1423 = .ok (.aload_n 0, 1) := by decide +kernel
theorem d_law_1424 : decode code 1424 = .ok (.iload 4, 2) := by decide +kernel
theorem d_law_1426 : decode code 1426 = .ok (.iconst 1, 1) := by decide +kernel
theorem d_law_1427 : decode code 1427 = .ok (.iadd, 1) := by decide +kernel
theorem d_law_1428 : decode code 1428 = .ok (.iaload, 1) := by decide +kernel
theorem d_law_1429 : decode code 1429 = .ok (.aload_n 0, 1) := by decide +kernel
theorem d_law_1430 : decode code 1430 = .ok (.iload 4, 2) := by decide +kernel
theorem d_law_1432 : decode code 1432 = .ok (.iconst 2, 1) := by decide +kernel
theorem d_law_1433 : decode code 1433 = .ok (.iadd, 1) := by decide +kernel
theorem d_law_1434 : decode code 1434 = .ok (.iaload, 1) := by decide +kernel
theorem d_law_1435 : decode code 1435 = .ok (.aload_n 3, 1) := by decide +kernel
theorem d_law_1436 : decode code 1436 = .ok (.invokestatic 188, 3) := by decide +kernel
theorem d_law_1439 : decode code 1439 = .ok (.istore 5, 2) := by decide +kernel
theorem d_law_1441 : decode code 1441 = .ok (.aload_n 2, 1) := by decide +kernel
theorem d_law_1442 : decode code 1442 = .ok (.aload_n 0, 1) := by decide +kernel
theorem d_law_1443 : decode code 1443 = .ok (.iload 4, 2) := by decide +kernel
theorem d_law_1445 : decode code 1445 = .ok (.iconst 1, 1) := by decide +kernel
theorem d_law_1446 : decode code 1446 = .ok (.iadd, 1) := by decide +kernel
theorem d_law_1447 : decode code 1447 = .ok (.iaload, 1) := by decide +kernel
theorem d_law_1448 : decode code 1448 = .ok (.aload_n 0, 1) := by decide +kernel
theorem d_law_1449 : decode code 1449 = .ok (.iload 4, 2) := by decide +kernel
theorem d_law_1451 : decode code 1451 = .ok (.iconst 2, 1) := by decide +kernel
theorem d_law_1452 : decode code 1452 = .ok (.iadd, 1) := by decide +kernel
theorem d_law_1453 : decode code 1453 = .ok (.iaload, 1) := by decide +kernel
theorem d_law_1454 : decode code 1454 = .ok (.invokevirtual 190, 3) := by decide +kernel
theorem d_law_1457 : decode code 1457 = .ok (.istore 6, 2) := by decide +kernel
theorem d_law_1459 : decode code 1459 = .ok (.aload_n 2, 1) := by decide +kernel
theorem d_law_1460 : decode code 1460 = .ok (.invokevirtual 118, 3) := by decide +kernel
theorem d_law_1463 : decode code 1463 = .ok (.iload 5, 2) := by decide +kernel
theorem d_law_1465 : decode code 1465 = .ok (.if_icmp .eq 5, 3) := by decide +kernel
theorem d_law_1470 : decode code 1470 = .ok (.iload 5, 2) := by decide +kernel
theorem d_law_1472 : decode code 1472 = .ok (.ifCond .ne 15, 3) := by decide +kernel
theorem d_law_1475 : decode code 1475 = .ok (.aload_n 3, 1) := by decide +kernel
theorem d_law_1476 : decode code 1476 = .ok (.iconst 0, 1) := by decide +kernel
theorem d_law_1477 : decode code 1477 = .ok (.laload, 1) := by decide +kernel
theorem d_law_1478 : decode code 1478 = .ok (.iload 6, 2) := by decide +kernel
theorem d_law_1480 : decode code 1480 = .ok (.i2l, 1) := by decide +kernel
theorem d_law_1481 : decode code 1481 = .ok (.lcmp, 1) := by decide +kernel
theorem d_law_1482 : decode code 1482 = .ok (.ifCond .eq 5, 3) := by decide +kernel
theorem d_law_1487 : decode code 1487 = .ok (.goto 588, 3) := by decide +kernel
theorem d_law_1490 : decode code 1490 = .ok (.aload_n 1, 1) := by decide +kernel
theorem d_law_1491 : decode code 1491 = .ok (.aload_n 0, 1) := by decide +kernel
theorem d_law_1492 : decode code 1492 = .ok (.iload 4, 2) := by decide +kernel
theorem d_law_1494 : decode code 1494 = .ok (.iconst 1, 1) := by decide +kernel
