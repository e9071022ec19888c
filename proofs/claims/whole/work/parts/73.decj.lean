theorem dL_1408 : decode code 1408 = .ok (.iload_n 3, 1) := by decide +kernel
theorem dL_1409 : decode code 1409 = .ok (.iconst 1, 1) := by decide +kernel
theorem dL_1410 : decode code 1410 = .ok (.iadd, 1) := by decide +kernel
theorem dL_1411 : decode code 1411 = .ok (.iaload, 1) := by decide +kernel
theorem dL_1412 : decode code 1412 = .ok (.invokevirtual 169, 3) := by decide +kernel
theorem dL_1415 : decode code 1415 = .ok (.if_icmp .eq 77, 3) := by decide +kernel
theorem dL_1418 : decode code 1418 = .ok (.iconst 0, 1) := by decide +kernel
theorem dL_1419 : decode code 1419 = .ok (.ireturn, 1) := by decide +kernel
theorem dL_1420 : decode code 1420 = .ok (.aload_n 1, 1) := by decide +kernel
theorem dL_1421 : decode code 1421 = .ok (.aload_n 0, 1) := by decide +kernel
theorem dL_1422 : decode code 1422 = .ok (.iload_n 3, 1) := by decide +kernel
theorem dL_1423 : decode code 1423 = .ok (.iconst 1, 1) := by decide +kernel
theorem dL_1424 : decode code 1424 = .ok (.iadd, 1) := by decide +kernel
theorem dL_1425 : decode code 1425 = .ok (.iaload, 1) := by decide +kernel
theorem dL_1426 : decode code 1426 = .ok (.invokevirtual 170, 3) := by decide +kernel
theorem dL_1429 : decode code 1429 = .ok (.aload_n 2, 1) := by decide +kernel
theorem dL_1430 : decode code 1430 = .ok (.aload_n 0, 1) := by decide +kernel
theorem dL_1431 : decode code 1431 = .ok (.iload_n 3, 1) := by decide +kernel
theorem dL_1432 : decode code 1432 = .ok (.iconst 1, 1) := by decide +kernel
theorem dL_1433 : decode code 1433 = .ok (.iadd, 1) := by decide +kernel
theorem dL_1434 : decode code 1434 = .ok (.iaload, 1) := by decide +kernel
theorem dL_1435 : decode code 1435 = .ok (.invokevirtual 173, 3) := by decide +kernel
theorem dL_1438 : decode code 1438 = .ok (.if_icmp .eq 54, 3) := by decide +kernel
theorem dL_1441 : decode code 1441 = .ok (.iconst 0, 1) := by decide +kernel
theorem dL_1442 : decode code 1442 = .ok (.ireturn, 1) := by decide +kernel
theorem dL_1443 : decode code 1443 = .ok (.aload_n 1, 1) := by decide +kernel
theorem dL_1444 : decode code 1444 = .ok (.invokevirtual 174, 3) := by decide +kernel
theorem dL_1447 : decode code 1447 = .ok (.aload_n 2, 1) := by decide +kernel
theorem dL_1448 : decode code 1448 = .ok (.invokevirtual 177, 3) := by decide +kernel
theorem dL_1451 : decode code 1451 = .ok (.if_icmp .eq 41, 3) := by decide +kernel
theorem dL_1454 : decode code 1454 = .ok (.iconst 0, 1) := by decide +kernel
theorem dL_1455 : decode code 1455 = .ok (.ireturn, 1) := by decide +kernel
theorem dL_1456 : decode code 1456 = .ok (.aload_n 1, 1) := by decide +kernel
theorem dL_1457 : decode code 1457 = .ok (.invokevirtual 178, 3) := by decide +kernel
theorem dL_1460 : decode code 1460 = .ok (.aload_n 2, 1) := by decide +kernel
theorem dL_1461 : decode code 1461 = .ok (.invokevirtual 181, 3) := by decide +kernel
theorem dL_1464 : decode code 1464 = .ok (.if_icmp .eq 28, 3) := by decide +kernel
theorem dL_1467 : decode code 1467 = .ok (.iconst 0, 1) := by decide +kernel
theorem dL_1468 : decode code 1468 = .ok (.ireturn, 1) := by decide +kernel
theorem dL_1469 : decode code 1469 = .ok (.aload_n 1, 1) := by decide +kernel
theorem dL_1470 : decode code 1470 = .ok (.aload_n 0, 1) := by decide +kernel
theorem dL_1471 : decode code 1471 = .ok (.iload_n 3, 1) := by decide +kernel
theorem dL_1472 : decode code 1472 = .ok (.iconst 1, 1) := by decide +kernel
theorem dL_1473 : decode code 1473 = .ok (.iadd, 1) := by decide +kernel
theorem dL_1474 : decode code 1474 = .ok (.iaload, 1) := by decide +kernel
theorem dL_1475 : decode code 1475 = .ok (.invokevirtual 182, 3) := by decide +kernel
theorem dL_1478 : decode code 1478 = .ok (.aload_n 2, 1) := by decide +kernel
theorem dL_1479 : decode code 1479 = .ok (.aload_n 0, 1) := by decide +kernel
theorem dL_1480 : decode code 1480 = .ok (.iload_n 3, 1) := by decide +kernel
theorem dL_1481 : decode code 1481 = .ok (.iconst 1, 1) := by decide +kernel
theorem dL_1482 : decode code 1482 = .ok (.iadd, 1) := by decide +kernel
theorem dL_1483 : decode code 1483 = .ok (.iaload, 1) := by decide +kernel
theorem dL_1484 : decode code 1484 = .ok (.invokevirtual 185, 3) := by decide +kernel
theorem dL_1487 : decode code 1487 = .ok (.if_icmp .eq 5, 3) := by decide +kernel
theorem dL_1490 : decode code 1490 = .ok (.iconst 0, 1) := by decide +kernel
theorem dL_1491 : decode code 1491 = .ok (.ireturn, 1) := by decide +kernel
theorem dL_1492 : decode code 1492 = .ok (.iinc 3 6, 3) := by decide +kernel
theorem dL_1495 : decode code 1495 = .ok (.goto (-1477), 3) := by decide +kernel
theorem dL_1498 : decode code 1498 = .ok (.iconst 1, 1) := by decide +kernel
theorem dL_1499 : decode code 1499 = .ok (.ireturn, 1) := by decide +kernel
