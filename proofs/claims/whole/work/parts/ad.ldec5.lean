theorem dL_1430 : decode code 1430 = .ok (.iload_n 3, 1) := by decide +kernel
theorem dL_1431 : decode code 1431 = .ok (.iconst 2, 1) := by decide +kernel
theorem dL_1432 : decode code 1432 = .ok (.iadd, 1) := by decide +kernel
theorem dL_1433 : decode code 1433 = .ok (.iaload, 1) := by decide +kernel
theorem dL_1434 : decode code 1434 = .ok (.invokevirtual 148, 3) := by decide +kernel
theorem dL_1437 : decode code 1437 = .ok (.aload_n 2, 1) := by decide +kernel
theorem dL_1438 : decode code 1438 = .ok (.aload_n 0, 1) := by decide +kernel
theorem dL_1439 : decode code 1439 = .ok (.iload_n 3, 1) := by decide +kernel
theorem dL_1440 : decode code 1440 = .ok (.iconst 1, 1) := by decide +kernel
theorem dL_1441 : decode code 1441 = .ok (.iadd, 1) := by decide +kernel
theorem dL_1442 : decode code 1442 = .ok (.iaload, 1) := by decide +kernel
theorem dL_1443 : decode code 1443 = .ok (.aload_n 0, 1) := by decide +kernel
theorem dL_1444 : decode code 1444 = .ok (.iload_n 3, 1) := by decide +kernel
theorem dL_1445 : decode code 1445 = .ok (.iconst 2, 1) := by decide +kernel
theorem dL_1446 : decode code 1446 = .ok (.iadd, 1) := by decide +kernel
theorem dL_1447 : decode code 1447 = .ok (.iaload, 1) := by decide +kernel
theorem dL_1448 : decode code 1448 = .ok (.invokevirtual 151, 3) := by decide +kernel
theorem dL_1451 : decode code 1451 = .ok (.if_icmp .eq 163, 3) := by decide +kernel
theorem dL_1456 : decode code 1456 = .ok (.aload_n 1, 1) := by decide +kernel
theorem dL_1457 : decode code 1457 = .ok (.aload_n 0, 1) := by decide +kernel
theorem dL_1458 : decode code 1458 = .ok (.iload_n 3, 1) := by decide +kernel
theorem dL_1459 : decode code 1459 = .ok (.iconst 1, 1) := by decide +kernel
theorem dL_1460 : decode code 1460 = .ok (.iadd, 1) := by decide +kernel
theorem dL_1461 : decode code 1461 = .ok (.iaload, 1) := by decide +kernel
theorem dL_1462 : decode code 1462 = .ok (.invokevirtual 152, 3) := by decide +kernel
theorem dL_1465 : decode code 1465 = .ok (.aload_n 2, 1) := by decide +kernel
theorem dL_1466 : decode code 1466 = .ok (.aload_n 0, 1) := by decide +kernel
theorem dL_1467 : decode code 1467 = .ok (.iload_n 3, 1) := by decide +kernel
theorem dL_1468 : decode code 1468 = .ok (.iconst 1, 1) := by decide +kernel
theorem dL_1469 : decode code 1469 = .ok (.iadd, 1) := by decide +kernel
theorem dL_1470 : decode code 1470 = .ok (.iaload, 1) := by decide +kernel
theorem dL_1471 : decode code 1471 = .ok (.invokevirtual 155, 3) := by decide +kernel
theorem dL_1474 : decode code 1474 = .ok (.if_icmp .eq 140, 3) := by decide +kernel
theorem dL_1479 : decode code 1479 = .ok (.aload_n 1, 1) := by decide +kernel
theorem dL_1480 : decode code 1480 = .ok (.aload_n 0, 1) := by decide +kernel
theorem dL_1481 : decode code 1481 = .ok (.iload_n 3, 1) := by decide +kernel
theorem dL_1482 : decode code 1482 = .ok (.iconst 1, 1) := by decide +kernel
theorem dL_1483 : decode code 1483 = .ok (.iadd, 1) := by decide +kernel
theorem dL_1484 : decode code 1484 = .ok (.iaload, 1) := by decide +kernel
theorem dL_1485 : decode code 1485 = .ok (.aload_n 0, 1) := by decide +kernel
theorem dL_1486 : decode code 1486 = .ok (.iload_n 3, 1) := by decide +kernel
theorem dL_1487 : decode code 1487 = .ok (.iconst 2, 1) := by decide +kernel
theorem dL_1488 : decode code 1488 = .ok (.iadd, 1) := by decide +kernel
theorem dL_1489 : decode code 1489 = .ok (.iaload, 1) := by decide +kernel
theorem dL_1490 : decode code 1490 = .ok (.aload_n 0, 1) := by decide +kernel
theorem dL_1491 : decode code 1491 = .ok (.iload_n 3, 1) := by decide +kernel
theorem dL_1492 : decode code 1492 = .ok (.iconst 3, 1) := by decide +kernel
theorem dL_1493 : decode code 1493 = .ok (.iadd, 1) := by decide +kernel
theorem dL_1494 : decode code 1494 = .ok (.iaload, 1) := by decide +kernel
theorem dL_1495 : decode code 1495 = .ok (.invokevirtual 156, 3) := by decide +kernel
theorem dL_1498 : decode code 1498 = .ok (.aload_n 2, 1) := by decide +kernel
theorem dL_1499 : decode code 1499 = .ok (.aload_n 0, 1) := by decide +kernel
theorem dL_1500 : decode code 1500 = .ok (.iload_n 3, 1) := by decide +kernel
theorem dL_1501 : decode code 1501 = .ok (.iconst 1, 1) := by decide +kernel
theorem dL_1502 : decode code 1502 = .ok (.iadd, 1) := by decide +kernel
theorem dL_1503 : decode code 1503 = .ok (.iaload, 1) := by decide +kernel
theorem dL_1504 : decode code 1504 = .ok (.aload_n 0, 1) := by decide +kernel
theorem dL_1505 : decode code 1505 = .ok (.iload_n 3, 1) := by decide +kernel
theorem dL_1506 : decode code 1506 = .ok (.iconst 2, 1) := by decide +kernel
theorem dL_1507 : decode code 1507 = .ok (.iadd, 1) := by decide +kernel
theorem dL_1508 : decode code 1508 = .ok (.iaload, 1) := by decide +kernel
theorem dL_1509 : decode code 1509 = .ok (.aload_n 0, 1) := by decide +kernel
theorem dL_1510 : decode code 1510 = .ok (.iload_n 3, 1) := by decide +kernel
theorem dL_1511 : decode code 1511 = .ok (.iconst 3, 1) := by decide +kernel
theorem dL_1512 : decode code 1512 = .ok (.iadd, 1) := by decide +kernel
theorem dL_1513 : decode code 1513 = .ok (.iaload, 1) := by decide +kernel
theorem dL_1514 : decode code 1514 = .ok (.invokevirtual 159, 3) := by decide +kernel
theorem dL_1517 : decode code 1517 = .ok (.if_icmp .eq 97, 3) := by decide +kernel
theorem dL_1522 : decode code 1522 = .ok (.aload_n 1, 1) := by decide +kernel
theorem dL_1523 : decode code 1523 = .ok (.aload_n 0, 1) := by decide +kernel
theorem dL_1524 : decode code 1524 = .ok (.iload_n 3, 1) := by decide +kernel
theorem dL_1525 : decode code 1525 = .ok (.iconst 1, 1) := by decide +kernel
theorem dL_1526 : decode code 1526 = .ok (.iadd, 1) := by decide +kernel
theorem dL_1527 : decode code 1527 = .ok (.iaload, 1) := by decide +kernel
theorem dL_1528 : decode code 1528 = .ok (.invokevirtual 160, 3) := by decide +kernel
theorem dL_1531 : decode code 1531 = .ok (.aload_n 2, 1) := by decide +kernel
theorem dL_1532 : decode code 1532 = .ok (.aload_n 0, 1) := by decide +kernel
theorem dL_1533 : decode code 1533 = .ok (.iload_n 3, 1) := by decide +kernel
theorem dL_1534 : decode code 1534 = .ok (.iconst 1, 1) := by decide +kernel
theorem dL_1535 : decode code 1535 = .ok (.iadd, 1) := by decide +kernel
theorem dL_1536 : decode code 1536 = .ok (.iaload, 1) := by decide +kernel
theorem dL_1537 : decode code 1537 = .ok (.invokevirtual 163, 3) := by decide +kernel
theorem dL_1540 : decode code 1540 = .ok (.if_icmp .eq 74, 3) := by decide +kernel
theorem dL_1545 : decode code 1545 = .ok (.aload_n 1, 1) := by decide +kernel
theorem dL_1546 : decode code 1546 = .ok (.aload_n 0, 1) := by decide +kernel
theorem dL_1547 : decode code 1547 = .ok (.iload_n 3, 1) := by decide +kernel
theorem dL_1548 : decode code 1548 = .ok (.iconst 1, 1) := by decide +kernel
theorem dL_1549 : decode code 1549 = .ok (.iadd, 1) := by decide +kernel
theorem dL_1550 : decode code 1550 = .ok (.iaload, 1) := by decide +kernel
theorem dL_1551 : decode code 1551 = .ok (.invokevirtual 164, 3) := by decide +kernel
theorem dL_1554 : decode code 1554 = .ok (.aload_n 2, 1) := by decide +kernel
theorem dL_1555 : decode code 1555 = .ok (.aload_n 0, 1) := by decide +kernel
theorem dL_1556 : decode code 1556 = .ok (.iload_n 3, 1) := by decide +kernel
theorem dL_1557 : decode code 1557 = .ok (.iconst 1, 1) := by decide +kernel
theorem dL_1558 : decode code 1558 = .ok (.iadd, 1) := by decide +kernel
theorem dL_1559 : decode code 1559 = .ok (.iaload, 1) := by decide +kernel
theorem dL_1560 : decode code 1560 = .ok (.invokevirtual 167, 3) := by decide +kernel
theorem dL_1563 : decode code 1563 = .ok (.if_icmp .eq 51, 3) := by decide +kernel
theorem dL_1568 : decode code 1568 = .ok (.aload_n 1, 1) := by decide +kernel
theorem dL_1569 : decode code 1569 = .ok (.aload_n 0, 1) := by decide +kernel
theorem dL_1570 : decode code 1570 = .ok (.iload_n 3, 1) := by decide +kernel
theorem dL_1571 : decode code 1571 = .ok (.iconst 1, 1) := by decide +kernel
theorem dL_1572 : decode code 1572 = .ok (.iadd, 1) := by decide +kernel
theorem dL_1573 : decode code 1573 = .ok (.iaload, 1) := by decide +kernel
theorem dL_1574 : decode code 1574 = .ok (.invokevirtual 168, 3) := by decide +kernel
theorem dL_1577 : decode code 1577 = .ok (.aload_n 2, 1) := by decide +kernel
theorem dL_1578 : decode code 1578 = .ok (.aload_n 0, 1) := by decide +kernel
theorem dL_1579 : decode code 1579 = .ok (.iload_n 3, 1) := by decide +kernel
theorem dL_1580 : decode code 1580 = .ok (.iconst 1, 1) := by decide +kernel
theorem dL_1581 : decode code 1581 = .ok (.iadd, 1) := by decide +kernel
theorem dL_1582 : decode code 1582 = .ok (.iaload, 1) := by decide +kernel
theorem dL_1583 : decode code 1583 = .ok (.invokevirtual 171, 3) := by decide +kernel
theorem dL_1586 : decode code 1586 = .ok (.if_icmp .eq 28, 3) := by decide +kernel
theorem dL_1591 : decode code 1591 = .ok (.aload_n 1, 1) := by decide +kernel
theorem dL_1592 : decode code 1592 = .ok (.aload_n 0, 1) := by decide +kernel
theorem dL_1593 : decode code 1593 = .ok (.iload_n 3, 1) := by decide +kernel
theorem dL_1594 : decode code 1594 = .ok (.iconst 1, 1) := by decide +kernel
theorem dL_1595 : decode code 1595 = .ok (.iadd, 1) := by decide +kernel
theorem dL_1596 : decode code 1596 = .ok (.iaload, 1) := by decide +kernel
theorem dL_1597 : decode code 1597 = .ok (.invokevirtual 172, 3) := by decide +kernel
theorem dL_1600 : decode code 1600 = .ok (.aload_n 2, 1) := by decide +kernel
theorem dL_1601 : decode code 1601 = .ok (.aload_n 0, 1) := by decide +kernel
theorem dL_1602 : decode code 1602 = .ok (.iload_n 3, 1) := by decide +kernel
theorem dL_1603 : decode code 1603 = .ok (.iconst 1, 1) := by decide +kernel
theorem dL_1604 : decode code 1604 = .ok (.iadd, 1) := by decide +kernel
theorem dL_1605 : decode code 1605 = .ok (.iaload, 1) := by decide +kernel
theorem dL_1606 : decode code 1606 = .ok (.invokevirtual 175, 3) := by decide +kernel
theorem dL_1609 : decode code 1609 = .ok (.if_icmp .eq 5, 3) := by decide +kernel
theorem dL_1614 : decode code 1614 = .ok (.iinc 3 8, 3) := by decide +kernel
theorem dL_1617 : decode code 1617 = .ok (.goto (-1599), 3) := by decide +kernel
theorem dL_1620 : decode code 1620 = .ok (.iconst 1, 1) := by decide +kernel
theorem dL_1621 : decode code 1621 = .ok (.ireturn, 1) := by decide +kernel
