theorem d_w_1440 : decode code 1440 = .ok (.aload_n 0, 1) := by decide +kernel
theorem d_w_1441 : decode code 1441 = .ok (.iload 5, 2) := by decide +kernel
theorem d_w_1443 : decode code 1443 = .ok (.iconst 1, 1) := by decide +kernel
theorem d_w_1444 : decode code 1444 = .ok (.iadd, 1) := by decide +kernel
theorem d_w_1445 : decode code 1445 = .ok (.iaload, 1) := by decide +kernel
theorem d_w_1446 : decode code 1446 = .ok (.aload_n 0, 1) := by decide +kernel
theorem d_w_1447 : decode code 1447 = .ok (.iload 5, 2) := by decide +kernel
theorem d_w_1449 : decode code 1449 = .ok (.iconst 2, 1) := by decide +kernel
theorem d_w_1450 : decode code 1450 = .ok (.iadd, 1) := by decide +kernel
theorem d_w_1451 : decode code 1451 = .ok (.iaload, 1) := by decide +kernel
theorem d_w_1452 : decode code 1452 = .ok (.invokevirtual 214, 3) := by decide +kernel
theorem d_w_1455 : decode code 1455 = .ok (.istore 7, 2) := by decide +kernel
theorem d_w_1457 : decode code 1457 = .ok (.aload_n 2, 1) := by decide +kernel
theorem d_w_1458 : decode code 1458 = .ok (.invokevirtual 114, 3) := by decide +kernel
theorem d_w_1461 : decode code 1461 = .ok (.iload 6, 2) := by decide +kernel
theorem d_w_1463 : decode code 1463 = .ok (.if_icmp .eq 5, 3) := by decide +kernel
theorem d_w_1466 : decode code 1466 = .ok (.iconst 0, 1) := by decide +kernel
theorem d_w_1467 : decode code 1467 = .ok (.ireturn, 1) := by decide +kernel
theorem d_w_1468 : decode code 1468 = .ok (.iload 6, 2) := by decide +kernel
theorem d_w_1470 : decode code 1470 = .ok (.ifCond .ne 15, 3) := by decide +kernel
theorem d_w_1473 : decode code 1473 = .ok (.aload_n 3, 1) := by decide +kernel
theorem d_w_1474 : decode code 1474 = .ok (.iconst 0, 1) := by decide +kernel
theorem d_w_1475 : decode code 1475 = .ok (.laload, 1) := by decide +kernel
theorem d_w_1476 : decode code 1476 = .ok (.iload 7, 2) := by decide +kernel
theorem d_w_1478 : decode code 1478 = .ok (.i2l, 1) := by decide +kernel
theorem d_w_1479 : decode code 1479 = .ok (.lcmp, 1) := by decide +kernel
theorem d_w_1480 : decode code 1480 = .ok (.ifCond .eq 5, 3) := by decide +kernel
theorem d_w_1483 : decode code 1483 = .ok (.iconst 0, 1) := by decide +kernel
theorem d_w_1484 : decode code 1484 = .ok (.ireturn, 1) := by decide +kernel
theorem d_w_1485 : decode code 1485 = .ok (.goto 754, 3) := by decide +kernel
theorem d_w_1488 : decode code 1488 = .ok (.aload_n 1, 1) := by decide +kernel
theorem d_w_1489 : decode code 1489 = .ok (.invokevirtual 215, 3) := by decide +kernel
theorem d_w_1492 : decode code 1492 = .ok (.aload_n 2, 1) := by decide +kernel
theorem d_w_1493 : decode code 1493 = .ok (.invokevirtual 218, 3) := by decide +kernel
theorem d_w_1496 : decode code 1496 = .ok (.if_icmp .eq 743, 3) := by decide +kernel
theorem d_w_1499 : decode code 1499 = .ok (.iconst 0, 1) := by decide +kernel
theorem d_w_1500 : decode code 1500 = .ok (.ireturn, 1) := by decide +kernel
theorem d_w_1501 : decode code 1501 = .ok (.aload_n 1, 1) := by decide +kernel
theorem d_w_1502 : decode code 1502 = .ok (.aload_n 0, 1) := by decide +kernel
theorem d_w_1503 : decode code 1503 = .ok (.iload 5, 2) := by decide +kernel
theorem d_w_1505 : decode code 1505 = .ok (.iconst 1, 1) := by decide +kernel
theorem d_w_1506 : decode code 1506 = .ok (.iadd, 1) := by decide +kernel
theorem d_w_1507 : decode code 1507 = .ok (.iaload, 1) := by decide +kernel
theorem d_w_1508 : decode code 1508 = .ok (.aload_n 3, 1) := by decide +kernel
theorem d_w_1509 : decode code 1509 = .ok (.invokestatic 219, 3) := by decide +kernel
theorem d_w_1512 : decode code 1512 = .ok (.istore 6, 2) := by decide +kernel
theorem d_w_1514 : decode code 1514 = .ok (.aload_n 2, 1) := by decide +kernel
theorem d_w_1515 : decode code 1515 = .ok (.aload_n 0, 1) := by decide +kernel
theorem d_w_1516 : decode code 1516 = .ok (.iload 5, 2) := by decide +kernel
theorem d_w_1518 : decode code 1518 = .ok (.iconst 1, 1) := by decide +kernel
theorem d_w_1519 : decode code 1519 = .ok (.iadd, 1) := by decide +kernel
theorem d_w_1520 : decode code 1520 = .ok (.iaload, 1) := by decide +kernel
theorem d_w_1521 : decode code 1521 = .ok (.invokevirtual 221, 3) := by decide +kernel
theorem d_w_1524 : decode code 1524 = .ok (.lstore 7, 2) := by decide +kernel
theorem d_w_1526 : decode code 1526 = .ok (.aload_n 2, 1) := by decide +kernel
theorem d_w_1527 : decode code 1527 = .ok (.invokevirtual 114, 3) := by decide +kernel
theorem d_w_1530 : decode code 1530 = .ok (.iload 6, 2) := by decide +kernel
theorem d_w_1532 : decode code 1532 = .ok (.if_icmp .eq 5, 3) := by decide +kernel
theorem d_w_1535 : decode code 1535 = .ok (.iconst 0, 1) := by decide +kernel
theorem d_w_1536 : decode code 1536 = .ok (.ireturn, 1) := by decide +kernel
theorem d_w_1537 : decode code 1537 = .ok (.iload 6, 2) := by decide +kernel
theorem d_w_1539 : decode code 1539 = .ok (.ifCond .ne 14, 3) := by decide +kernel
theorem d_w_1542 : decode code 1542 = .ok (.aload_n 3, 1) := by decide +kernel
theorem d_w_1543 : decode code 1543 = .ok (.iconst 0, 1) := by decide +kernel
theorem d_w_1544 : decode code 1544 = .ok (.laload, 1) := by decide +kernel
theorem d_w_1545 : decode code 1545 = .ok (.lload 7, 2) := by decide +kernel
theorem d_w_1547 : decode code 1547 = .ok (.lcmp, 1) := by decide +kernel
theorem d_w_1548 : decode code 1548 = .ok (.ifCond .eq 5, 3) := by decide +kernel
theorem d_w_1551 : decode code 1551 = .ok (.iconst 0, 1) := by decide +kernel
theorem d_w_1552 : decode code 1552 = .ok (.ireturn, 1) := by decide +kernel
theorem d_w_1553 : decode code 1553 = .ok (.goto 686, 3) := by decide +kernel
theorem d_w_1556 : decode code 1556 = .ok (.aload_n 1, 1) := by decide +kernel
theorem d_w_1557 : decode code 1557 = .ok (.aload_n 0, 1) := by decide +kernel
theorem d_w_1558 : decode code 1558 = .ok (.iload 5, 2) := by decide +kernel
theorem d_w_1560 : decode code 1560 = .ok (.iconst 1, 1) := by decide +kernel
theorem d_w_1561 : decode code 1561 = .ok (.iadd, 1) := by decide +kernel
theorem d_w_1562 : decode code 1562 = .ok (.iaload, 1) := by decide +kernel
theorem d_w_1563 : decode code 1563 = .ok (.aload_n 0, 1) := by decide +kernel
theorem d_w_1564 : decode code 1564 = .ok (.iload 5, 2) := by decide +kernel
theorem d_w_1566 : decode code 1566 = .ok (.iconst 2, 1) := by decide +kernel
theorem d_w_1567 : decode code 1567 = .ok (.iadd, 1) := by decide +kernel
theorem d_w_1568 : decode code 1568 = .ok (.iaload, 1) := by decide +kernel
theorem d_w_1569 : decode code 1569 = .ok (.aload_n 3, 1) := by decide +kernel
theorem d_w_1570 : decode code 1570 = .ok (.invokestatic 222, 3) := by decide +kernel
theorem d_w_1573 : decode code 1573 = .ok (.istore 6, 2) := by decide +kernel
theorem d_w_1575 : decode code 1575 = .ok (.aload_n 2, 1) := by decide +kernel
theorem d_w_1576 : decode code 1576 = .ok (.aload_n 0, 1) := by decide +kernel
theorem d_w_1577 : decode code 1577 = .ok (.iload 5, 2) := by decide +kernel
theorem d_w_1579 : decode code 1579 = .ok (.iconst 1, 1) := by decide +kernel
theorem d_w_1580 : decode code 1580 = .ok (.iadd, 1) := by decide +kernel
theorem d_w_1581 : decode code 1581 = .ok (.iaload, 1) := by decide +kernel
theorem d_w_1582 : decode code 1582 = .ok (.aload_n 0, 1) := by decide +kernel
theorem d_w_1583 : decode code 1583 = .ok (.iload 5, 2) := by decide +kernel
theorem d_w_1585 : decode code 1585 = .ok (.iconst 2, 1) := by decide +kernel
theorem d_w_1586 : decode code 1586 = .ok (.iadd, 1) := by decide +kernel
theorem d_w_1587 : decode code 1587 = .ok (.iaload, 1) := by decide +kernel
theorem d_w_1588 : decode code 1588 = .ok (.invokevirtual 224, 3) := by decide +kernel
theorem d_w_1591 : decode code 1591 = .ok (.lstore 7, 2) := by decide +kernel
theorem d_w_1593 : decode code 1593 = .ok (.aload_n 2, 1) := by decide +kernel
theorem d_w_1594 : decode code 1594 = .ok (.invokevirtual 114, 3) := by decide +kernel
theorem d_w_1597 : decode code 1597 = .ok (.iload 6, 2) := by decide +kernel
theorem d_w_1599 : decode code 1599 = .ok (.if_icmp .eq 5, 3) := by decide +kernel
theorem d_w_1602 : decode code 1602 = .ok (.iconst 0, 1) := by decide +kernel
theorem d_w_1603 : decode code 1603 = .ok (.ireturn, 1) := by decide +kernel
theorem d_w_1604 : decode code 1604 = .ok (.iload 6, 2) := by decide +kernel
theorem d_w_1606 : decode code 1606 = .ok (.ifCond .ne 14, 3) := by decide +kernel
theorem d_w_1609 : decode code 1609 = .ok (.aload_n 3, 1) := by decide +kernel
theorem d_w_1610 : decode code 1610 = .ok (.iconst 0, 1) := by decide +kernel
theorem d_w_1611 : decode code 1611 = .ok (.laload, 1) := by decide +kernel
theorem d_w_1612 : decode code 1612 = .ok (.lload 7, 2) := by decide +kernel
