theorem dL_law__1387 : decode cL_law_ 1387 = .ok (.iconst 2, 1) := by decide +kernel
theorem dL_law__1388 : decode cL_law_ 1388 = .ok (.iadd, 1) := by decide +kernel
theorem dL_law__1389 : decode cL_law_ 1389 = .ok (.iaload, 1) := by decide +kernel
theorem dL_law__1390 : decode cL_law_ 1390 = .ok (.invokevirtual 190, 3) := by decide +kernel
theorem dL_law__1393 : decode cL_law_ 1393 = .ok (.istore 6, 2) := by decide +kernel
theorem dL_law__1395 : decode cL_law_ 1395 = .ok (.aload_n 2, 1) := by decide +kernel
theorem dL_law__1396 : decode cL_law_ 1396 = .ok (.invokevirtual 128, 3) := by decide +kernel
theorem dL_law__1399 : decode cL_law_ 1399 = .ok (.iload 5, 2) := by decide +kernel
theorem dL_law__1401 : decode cL_law_ 1401 = .ok (.if_icmp .eq 5, 3) := by decide +kernel
theorem dL_law__1404 : decode cL_law_ 1404 = .ok (.iconst 0, 1) := by decide +kernel
theorem dL_law__1405 : decode cL_law_ 1405 = .ok (.ireturn, 1) := by decide +kernel
theorem dL_law__1406 : decode cL_law_ 1406 = .ok (.iload 5, 2) := by decide +kernel
theorem dL_law__1408 : decode cL_law_ 1408 = .ok (.ifCond .ne 15, 3) := by decide +kernel
theorem dL_law__1411 : decode cL_law_ 1411 = .ok (.aload_n 3, 1) := by decide +kernel
theorem dL_law__1412 : decode cL_law_ 1412 = .ok (.iconst 0, 1) := by decide +kernel
theorem dL_law__1413 : decode cL_law_ 1413 = .ok (.laload, 1) := by decide +kernel
theorem dL_law__1414 : decode cL_law_ 1414 = .ok (.iload 6, 2) := by decide +kernel
theorem dL_law__1416 : decode cL_law_ 1416 = .ok (.i2l, 1) := by decide +kernel
theorem dL_law__1417 : decode cL_law_ 1417 = .ok (.lcmp, 1) := by decide +kernel
theorem dL_law__1418 : decode cL_law_ 1418 = .ok (.ifCond .eq 5, 3) := by decide +kernel
theorem dL_law__1421 : decode cL_law_ 1421 = .ok (.iconst 0, 1) := by decide +kernel
theorem dL_law__1422 : decode cL_law_ 1422 = .ok (.ireturn, 1) := by decide +kernel
theorem dL_law__1423 : decode cL_law_ 1423 = .ok (.goto 1162, 3) := by decide +kernel
theorem dL_law__1426 : decode cL_law_ 1426 = .ok (.aload_n 1, 1) := by decide +kernel
theorem dL_law__1427 : decode cL_law_ 1427 = .ok (.aload_n 0, 1) := by decide +kernel
theorem dL_law__1428 : decode cL_law_ 1428 = .ok (.iload 4, 2) := by decide +kernel
theorem dL_law__1430 : decode cL_law_ 1430 = .ok (.iconst 1, 1) := by decide +kernel
theorem dL_law__1431 : decode cL_law_ 1431 = .ok (.iadd, 1) := by decide +kernel
theorem dL_law__1432 : decode cL_law_ 1432 = .ok (.iaload, 1) := by decide +kernel
theorem dL_law__1433 : decode cL_law_ 1433 = .ok (.aload_n 0, 1) := by decide +kernel
theorem dL_law__1434 : decode cL_law_ 1434 = .ok (.iload 4, 2) := by decide +kernel
theorem dL_law__1436 : decode cL_law_ 1436 = .ok (.iconst 2, 1) := by decide +kernel
theorem dL_law__1437 : decode cL_law_ 1437 = .ok (.iadd, 1) := by decide +kernel
theorem dL_law__1438 : decode cL_law_ 1438 = .ok (.iaload, 1) := by decide +kernel
theorem dL_law__1439 : decode cL_law_ 1439 = .ok (.aload_n 3, 1) := by decide +kernel
theorem dL_law__1440 : decode cL_law_ 1440 = .ok (.invokestatic 191, 3) := by decide +kernel
theorem dL_law__1443 : decode cL_law_ 1443 = .ok (.istore 5, 2) := by decide +kernel
theorem dL_law__1445 : decode cL_law_ 1445 = .ok (.aload_n 2, 1) := by decide +kernel
theorem dL_law__1446 : decode cL_law_ 1446 = .ok (.aload_n 0, 1) := by decide +kernel
theorem dL_law__1447 : decode cL_law_ 1447 = .ok (.iload 4, 2) := by decide +kernel
theorem dL_law__1449 : decode cL_law_ 1449 = .ok (.iconst 1, 1) := by decide +kernel
theorem dL_law__1450 : decode cL_law_ 1450 = .ok (.iadd, 1) := by decide +kernel
theorem dL_law__1451 : decode cL_law_ 1451 = .ok (.iaload, 1) := by decide +kernel
theorem dL_law__1452 : decode cL_law_ 1452 = .ok (.aload_n 0, 1) := by decide +kernel
theorem dL_law__1453 : decode cL_law_ 1453 = .ok (.iload 4, 2) := by decide +kernel
theorem dL_law__1455 : decode cL_law_ 1455 = .ok (.iconst 2, 1) := by decide +kernel
theorem dL_law__1456 : decode cL_law_ 1456 = .ok (.iadd, 1) := by decide +kernel
theorem dL_law__1457 : decode cL_law_ 1457 = .ok (.iaload, 1) := by decide +kernel
theorem dL_law__1458 : decode cL_law_ 1458 = .ok (.invokevirtual 193, 3) := by decide +kernel
theorem dL_law__1461 : decode cL_law_ 1461 = .ok (.istore 6, 2) := by decide +kernel
theorem dL_law__1463 : decode cL_law_ 1463 = .ok (.aload_n 2, 1) := by decide +kernel
theorem dL_law__1464 : decode cL_law_ 1464 = .ok (.invokevirtual 128, 3) := by decide +kernel
theorem dL_law__1467 : decode cL_law_ 1467 = .ok (.iload 5, 2) := by decide +kernel
theorem dL_law__1469 : decode cL_law_ 1469 = .ok (.if_icmp .eq 5, 3) := by decide +kernel
theorem dL_law__1472 : decode cL_law_ 1472 = .ok (.iconst 0, 1) := by decide +kernel
theorem dL_law__1473 : decode cL_law_ 1473 = .ok (.ireturn, 1) := by decide +kernel
theorem dL_law__1474 : decode cL_law_ 1474 = .ok (.iload 5, 2) := by decide +kernel
theorem dL_law__1476 : decode cL_law_ 1476 = .ok (.ifCond .ne 15, 3) := by decide +kernel
theorem dL_law__1479 : decode cL_law_ 1479 = .ok (.aload_n 3, 1) := by decide +kernel
theorem dL_law__1480 : decode cL_law_ 1480 = .ok (.iconst 0, 1) := by decide +kernel
theorem dL_law__1481 : decode cL_law_ 1481 = .ok (.laload, 1) := by decide +kernel
theorem dL_law__1482 : decode cL_law_ 1482 = .ok (.iload 6, 2) := by decide +kernel
theorem dL_law__1484 : decode cL_law_ 1484 = .ok (.i2l, 1) := by decide +kernel
theorem dL_law__1485 : decode cL_law_ 1485 = .ok (.lcmp, 1) := by decide +kernel
theorem dL_law__1486 : decode cL_law_ 1486 = .ok (.ifCond .eq 5, 3) := by decide +kernel
theorem dL_law__1489 : decode cL_law_ 1489 = .ok (.iconst 0, 1) := by decide +kernel
theorem dL_law__1490 : decode cL_law_ 1490 = .ok (.ireturn, 1) := by decide +kernel
theorem dL_law__1491 : decode cL_law_ 1491 = .ok (.goto 1094, 3) := by decide +kernel
theorem dL_law__1494 : decode cL_law_ 1494 = .ok (.aload_n 1, 1) := by decide +kernel
theorem dL_law__1495 : decode cL_law_ 1495 = .ok (.aload_n 0, 1) := by decide +kernel
theorem dL_law__1496 : decode cL_law_ 1496 = .ok (.iload 4, 2) := by decide +kernel
theorem dL_law__1498 : decode cL_law_ 1498 = .ok (.iconst 1, 1) := by decide +kernel
theorem dL_law__1499 : decode cL_law_ 1499 = .ok (.iadd, 1) := by decide +kernel
theorem dL_law__1500 : decode cL_law_ 1500 = .ok (.iaload, 1) := by decide +kernel
theorem dL_law__1501 : decode cL_law_ 1501 = .ok (.aload_n 0, 1) := by decide +kernel
theorem dL_law__1502 : decode cL_law_ 1502 = .ok (.iload 4, 2) := by decide +kernel
theorem dL_law__1504 : decode cL_law_ 1504 = .ok (.iconst 2, 1) := by decide +kernel
theorem dL_law__1505 : decode cL_law_ 1505 = .ok (.iadd, 1) := by decide +kernel
theorem dL_law__1506 : decode cL_law_ 1506 = .ok (.iaload, 1) := by decide +kernel
theorem dL_law__1507 : decode cL_law_ 1507 = .ok (.aload_n 3, 1) := by decide +kernel
theorem dL_law__1508 : decode cL_law_ 1508 = .ok (.invokestatic 194, 3) := by decide +kernel
theorem dL_law__1511 : decode cL_law_ 1511 = .ok (.istore 5, 2) := by decide +kernel
theorem dL_law__1513 : decode cL_law_ 1513 = .ok (.aload_n 2, 1) := by decide +kernel
theorem dL_law__1514 : decode cL_law_ 1514 = .ok (.aload_n 0, 1) := by decide +kernel
theorem dL_law__1515 : decode cL_law_ 1515 = .ok (.iload 4, 2) := by decide +kernel
theorem dL_law__1517 : decode cL_law_ 1517 = .ok (.iconst 1, 1) := by decide +kernel
theorem dL_law__1518 : decode cL_law_ 1518 = .ok (.iadd, 1) := by decide +kernel
theorem dL_law__1519 : decode cL_law_ 1519 = .ok (.iaload, 1) := by decide +kernel
theorem dL_law__1520 : decode cL_law_ 1520 = .ok (.aload_n 0, 1) := by decide +kernel
theorem dL_law__1521 : decode cL_law_ 1521 = .ok (.iload 4, 2) := by decide +kernel
theorem dL_law__1523 : decode cL_law_ 1523 = .ok (.iconst 2, 1) := by decide +kernel
theorem dL_law__1524 : decode cL_law_ 1524 = .ok (.iadd, 1) := by decide +kernel
theorem dL_law__1525 : decode cL_law_ 1525 = .ok (.iaload, 1) := by decide +kernel
theorem dL_law__1526 : decode cL_law_ 1526 = .ok (.invokevirtual 196, 3) := by decide +kernel
theorem dL_law__1529 : decode cL_law_ 1529 = .ok (.istore 6, 2) := by decide +kernel
theorem dL_law__1531 : decode cL_law_ 1531 = .ok (.aload_n 2, 1) := by decide +kernel
theorem dL_law__1532 : decode cL_law_ 1532 = .ok (.invokevirtual 128, 3) := by decide +kernel
theorem dL_law__1535 : decode cL_law_ 1535 = .ok (.iload 5, 2) := by decide +kernel
theorem dL_law__1537 : decode cL_law_ 1537 = .ok (.if_icmp .eq 5, 3) := by decide +kernel
theorem dL_law__1540 : decode cL_law_ 1540 = .ok (.iconst 0, 1) := by decide +kernel
theorem dL_law__1541 : decode cL_law_ 1541 = .ok (.ireturn, 1) := by decide +kernel
theorem dL_law__1542 : decode cL_law_ 1542 = .ok (.iload 5, 2) := by decide +kernel
theorem dL_law__1544 : decode cL_law_ 1544 = .ok (.ifCond .ne 15, 3) := by decide +kernel
theorem dL_law__1547 : decode cL_law_ 1547 = .ok (.aload_n 3, 1) := by decide +kernel
theorem dL_law__1548 : decode cL_law_ 1548 = .ok (.iconst 0, 1) := by decide +kernel
theorem dL_law__1549 : decode cL_law_ 1549 = .ok (.laload, 1) := by decide +kernel
theorem dL_law__1550 : decode cL_law_ 1550 = .ok (.iload 6, 2) := by decide +kernel
theorem dL_law__1552 : decode cL_law_ 1552 = .ok (.i2l, 1) := by decide +kernel
theorem dL_law__1553 : decode cL_law_ 1553 = .ok (.lcmp, 1) := by decide +kernel
theorem dL_law__1554 : decode cL_law_ 1554 = .ok (.ifCond .eq 5, 3) := by decide +kernel
theorem dL_law__1557 : decode cL_law_ 1557 = .ok (.iconst 0, 1) := by decide +kernel
theorem dL_law__1558 : decode cL_law_ 1558 = .ok (.ireturn, 1) := by decide +kernel
theorem dL_law__1559 : decode cL_law_ 1559 = .ok (.goto 1026, 3) := by decide +kernel
theorem dL_law__1562 : decode cL_law_ 1562 = .ok (.aload_n 1, 1) := by decide +kernel
theorem dL_law__1563 : decode cL_law_ 1563 = .ok (.aload_n 0, 1) := by decide +kernel
theorem dL_law__1564 : decode cL_law_ 1564 = .ok (.iload 4, 2) := by decide +kernel
theorem dL_law__1566 : decode cL_law_ 1566 = .ok (.iconst 1, 1) := by decide +kernel
theorem dL_law__1567 : decode cL_law_ 1567 = .ok (.iadd, 1) := by decide +kernel
theorem dL_law__1568 : decode cL_law_ 1568 = .ok (.iaload, 1) := by decide +kernel
theorem dL_law__1569 : decode cL_law_ 1569 = .ok (.aload_n 0, 1) := by decide +kernel
theorem dL_law__1570 : decode cL_law_ 1570 = .ok (.iload 4, 2) := by decide +kernel
theorem dL_law__1572 : decode cL_law_ 1572 = .ok (.iconst 2, 1) := by decide +kernel
theorem dL_law__1573 : decode cL_law_ 1573 = .ok (.iadd, 1) := by decide +kernel
theorem dL_law__1574 : decode cL_law_ 1574 = .ok (.iaload, 1) := by decide +kernel
theorem dL_law__1575 : decode cL_law_ 1575 = .ok (.aload_n 0, 1) := by decide +kernel
theorem dL_law__1576 : decode cL_law_ 1576 = .ok (.iload 4, 2) := by decide +kernel
theorem dL_law__1578 : decode cL_law_ 1578 = .ok (.iconst 3, 1) := by decide +kernel
theorem dL_law__1579 : decode cL_law_ 1579 = .ok (.iadd, 1) := by decide +kernel
theorem dL_law__1580 : decode cL_law_ 1580 = .ok (.iaload, 1) := by decide +kernel
theorem dL_law__1581 : decode cL_law_ 1581 = .ok (.aload_n 3, 1) := by decide +kernel
theorem dL_law__1582 : decode cL_law_ 1582 = .ok (.invokestatic 197, 3) := by decide +kernel
theorem dL_law__1585 : decode cL_law_ 1585 = .ok (.istore 5, 2) := by decide +kernel
theorem dL_law__1587 : decode cL_law_ 1587 = .ok (.aload_n 2, 1) := by decide +kernel
theorem dL_law__1588 : decode cL_law_ 1588 = .ok (.aload_n 0, 1) := by decide +kernel
theorem dL_law__1589 : decode cL_law_ 1589 = .ok (.iload 4, 2) := by decide +kernel
theorem dL_law__1591 : decode cL_law_ 1591 = .ok (.iconst 1, 1) := by decide +kernel
theorem dL_law__1592 : decode cL_law_ 1592 = .ok (.iadd, 1) := by decide +kernel
theorem dL_law__1593 : decode cL_law_ 1593 = .ok (.iaload, 1) := by decide +kernel
theorem dL_law__1594 : decode cL_law_ 1594 = .ok (.aload_n 0, 1) := by decide +kernel
theorem dL_law__1595 : decode cL_law_ 1595 = .ok (.iload 4, 2) := by decide +kernel
theorem dL_law__1597 : decode cL_law_ 1597 = .ok (.iconst 2, 1) := by decide +kernel
theorem dL_law__1598 : decode cL_law_ 1598 = .ok (.iadd, 1) := by decide +kernel
theorem dL_law__1599 : decode cL_law_ 1599 = .ok (.iaload, 1) := by decide +kernel
theorem dL_law__1600 : decode cL_law_ 1600 = .ok (.aload_n 0, 1) := by decide +kernel
theorem dL_law__1601 : decode cL_law_ 1601 = .ok (.iload 4, 2) := by decide +kernel
theorem dL_law__1603 : decode cL_law_ 1603 = .ok (.iconst 3, 1) := by decide +kernel
theorem dL_law__1604 : decode cL_law_ 1604 = .ok (.iadd, 1) := by decide +kernel
theorem dL_law__1605 : decode cL_law_ 1605 = .ok (.iaload, 1) := by decide +kernel
theorem dL_law__1606 : decode cL_law_ 1606 = .ok (.invokevirtual 200, 3) := by decide +kernel
theorem dL_law__1609 : decode cL_law_ 1609 = .ok (.istore 6, 2) := by decide +kernel
theorem dL_law__1611 : decode cL_law_ 1611 = .ok (.aload_n 2, 1) := by decide +kernel
theorem dL_law__1612 : decode cL_law_ 1612 = .ok (.invokevirtual 128, 3) := by decide +kernel
theorem dL_law__1615 : decode cL_law_ 1615 = .ok (.iload 5, 2) := by decide +kernel
theorem dL_law__1617 : decode cL_law_ 1617 = .ok (.if_icmp .eq 5, 3) := by decide +kernel
theorem dL_law__1620 : decode cL_law_ 1620 = .ok (.iconst 0, 1) := by decide +kernel
theorem dL_law__1621 : decode cL_law_ 1621 = .ok (.ireturn, 1) := by decide +kernel
theorem dL_law__1622 : decode cL_law_ 1622 = .ok (.iload 5, 2) := by decide +kernel
theorem dL_law__1624 : decode cL_law_ 1624 = .ok (.ifCond .ne 15, 3) := by decide +kernel
theorem dL_law__1627 : decode cL_law_ 1627 = .ok (.aload_n 3, 1) := by decide +kernel
theorem dL_law__1628 : decode cL_law_ 1628 = .ok (.iconst 0, 1) := by decide +kernel
theorem dL_law__1629 : decode cL_law_ 1629 = .ok (.laload, 1) := by decide +kernel
theorem dL_law__1630 : decode cL_law_ 1630 = .ok (.iload 6, 2) := by decide +kernel
theorem dL_law__1632 : decode cL_law_ 1632 = .ok (.i2l, 1) := by decide +kernel
theorem dL_law__1633 : decode cL_law_ 1633 = .ok (.lcmp, 1) := by decide +kernel
theorem dL_law__1634 : decode cL_law_ 1634 = .ok (.ifCond .eq 5, 3) := by decide +kernel
theorem dL_law__1637 : decode cL_law_ 1637 = .ok (.iconst 0, 1) := by decide +kernel
theorem dL_law__1638 : decode cL_law_ 1638 = .ok (.ireturn, 1) := by decide +kernel
theorem dL_law__1639 : decode cL_law_ 1639 = .ok (.goto 946, 3) := by decide +kernel
theorem dL_law__1642 : decode cL_law_ 1642 = .ok (.aload_n 1, 1) := by decide +kernel
theorem dL_law__1643 : decode cL_law_ 1643 = .ok (.aload_n 0, 1) := by decide +kernel
theorem dL_law__1644 : decode cL_law_ 1644 = .ok (.iload 4, 2) := by decide +kernel
theorem dL_law__1646 : decode cL_law_ 1646 = .ok (.iconst 1, 1) := by decide +kernel
theorem dL_law__1647 : decode cL_law_ 1647 = .ok (.iadd, 1) := by decide +kernel
theorem dL_law__1648 : decode cL_law_ 1648 = .ok (.iaload, 1) := by decide +kernel
theorem dL_law__1649 : decode cL_law_ 1649 = .ok (.aload_n 0, 1) := by decide +kernel
theorem dL_law__1650 : decode cL_law_ 1650 = .ok (.iload 4, 2) := by decide +kernel
theorem dL_law__1652 : decode cL_law_ 1652 = .ok (.iconst 2, 1) := by decide +kernel
theorem dL_law__1653 : decode cL_law_ 1653 = .ok (.iadd, 1) := by decide +kernel
theorem dL_law__1654 : decode cL_law_ 1654 = .ok (.iaload, 1) := by decide +kernel
theorem dL_law__1655 : decode cL_law_ 1655 = .ok (.aload_n 0, 1) := by decide +kernel
theorem dL_law__1656 : decode cL_law_ 1656 = .ok (.iload 4, 2) := by decide +kernel
theorem dL_law__1658 : decode cL_law_ 1658 = .ok (.iconst 3, 1) := by decide +kernel
theorem dL_law__1659 : decode cL_law_ 1659 = .ok (.iadd, 1) := by decide +kernel
theorem dL_law__1660 : decode cL_law_ 1660 = .ok (.iaload, 1) := by decide +kernel
theorem dL_law__1661 : decode cL_law_ 1661 = .ok (.aload_n 0, 1) := by decide +kernel
theorem dL_law__1662 : decode cL_law_ 1662 = .ok (.iload 4, 2) := by decide +kernel
theorem dL_law__1664 : decode cL_law_ 1664 = .ok (.iconst 4, 1) := by decide +kernel
theorem dL_law__1665 : decode cL_law_ 1665 = .ok (.iadd, 1) := by decide +kernel
theorem dL_law__1666 : decode cL_law_ 1666 = .ok (.iaload, 1) := by decide +kernel
theorem dL_law__1667 : decode cL_law_ 1667 = .ok (.aload_n 3, 1) := by decide +kernel
theorem dL_law__1668 : decode cL_law_ 1668 = .ok (.invokestatic 201, 3) := by decide +kernel
theorem dL_law__1671 : decode cL_law_ 1671 = .ok (.istore 5, 2) := by decide +kernel
theorem dL_law__1673 : decode cL_law_ 1673 = .ok (.aload_n 2, 1) := by decide +kernel
theorem dL_law__1674 : decode cL_law_ 1674 = .ok (.aload_n 0, 1) := by decide +kernel
theorem dL_law__1675 : decode cL_law_ 1675 = .ok (.iload 4, 2) := by decide +kernel
theorem dL_law__1677 : decode cL_law_ 1677 = .ok (.iconst 1, 1) := by decide +kernel
theorem dL_law__1678 : decode cL_law_ 1678 = .ok (.iadd, 1) := by decide +kernel
theorem dL_law__1679 : decode cL_law_ 1679 = .ok (.iaload, 1) := by decide +kernel
theorem dL_law__1680 : decode cL_law_ 1680 = .ok (.aload_n 0, 1) := by decide +kernel
theorem dL_law__1681 : decode cL_law_ 1681 = .ok (.iload 4, 2) := by decide +kernel
theorem dL_law__1683 : decode cL_law_ 1683 = .ok (.iconst 2, 1) := by decide +kernel
theorem dL_law__1684 : decode cL_law_ 1684 = .ok (.iadd, 1) := by decide +kernel
theorem dL_law__1685 : decode cL_law_ 1685 = .ok (.iaload, 1) := by decide +kernel
theorem dL_law__1686 : decode cL_law_ 1686 = .ok (.aload_n 0, 1) := by decide +kernel
theorem dL_law__1687 : decode cL_law_ 1687 = .ok (.iload 4, 2) := by decide +kernel
theorem dL_law__1689 : decode cL_law_ 1689 = .ok (.iconst 3, 1) := by decide +kernel
theorem dL_law__1690 : decode cL_law_ 1690 = .ok (.iadd, 1) := by decide +kernel
theorem dL_law__1691 : decode cL_law_ 1691 = .ok (.iaload, 1) := by decide +kernel
theorem dL_law__1692 : decode cL_law_ 1692 = .ok (.aload_n 0, 1) := by decide +kernel
theorem dL_law__1693 : decode cL_law_ 1693 = .ok (.iload 4, 2) := by decide +kernel
theorem dL_law__1695 : decode cL_law_ 1695 = .ok (.iconst 4, 1) := by decide +kernel
theorem dL_law__1696 : decode cL_law_ 1696 = .ok (.iadd, 1) := by decide +kernel
theorem dL_law__1697 : decode cL_law_ 1697 = .ok (.iaload, 1) := by decide +kernel
theorem dL_law__1698 : decode cL_law_ 1698 = .ok (.invokevirtual 204, 3) := by decide +kernel
theorem dL_law__1701 : decode cL_law_ 1701 = .ok (.lstore 6, 2) := by decide +kernel
theorem dL_law__1703 : decode cL_law_ 1703 = .ok (.aload_n 2, 1) := by decide +kernel
theorem dL_law__1704 : decode cL_law_ 1704 = .ok (.invokevirtual 128, 3) := by decide +kernel
theorem dL_law__1707 : decode cL_law_ 1707 = .ok (.iload 5, 2) := by decide +kernel
theorem dL_law__1709 : decode cL_law_ 1709 = .ok (.if_icmp .eq 5, 3) := by decide +kernel
theorem dL_law__1712 : decode cL_law_ 1712 = .ok (.iconst 0, 1) := by decide +kernel
theorem dL_law__1713 : decode cL_law_ 1713 = .ok (.ireturn, 1) := by decide +kernel
theorem dL_law__1714 : decode cL_law_ 1714 = .ok (.iload 5, 2) := by decide +kernel
theorem dL_law__1716 : decode cL_law_ 1716 = .ok (.ifCond .ne 14, 3) := by decide +kernel
theorem dL_law__1719 : decode cL_law_ 1719 = .ok (.aload_n 3, 1) := by decide +kernel
theorem dL_law__1720 : decode cL_law_ 1720 = .ok (.iconst 0, 1) := by decide +kernel
theorem dL_law__1721 : decode cL_law_ 1721 = .ok (.laload, 1) := by decide +kernel
theorem dL_law__1722 : decode cL_law_ 1722 = .ok (.lload 6, 2) := by decide +kernel
theorem dL_law__1724 : decode cL_law_ 1724 = .ok (.lcmp, 1) := by decide +kernel
theorem dL_law__1725 : decode cL_law_ 1725 = .ok (.ifCond .eq 5, 3) := by decide +kernel
theorem dL_law__1728 : decode cL_law_ 1728 = .ok (.iconst 0, 1) := by decide +kernel
theorem dL_law__1729 : decode cL_law_ 1729 = .ok (.ireturn, 1) := by decide +kernel
theorem dL_law__1730 : decode cL_law_ 1730 = .ok (.goto 855, 3) := by decide +kernel
theorem dL_law__1733 : decode cL_law_ 1733 = .ok (.aload_n 1, 1) := by decide +kernel
theorem dL_law__1734 : decode cL_law_ 1734 = .ok (.aload_n 0, 1) := by decide +kernel
theorem dL_law__1735 : decode cL_law_ 1735 = .ok (.iload 4, 2) := by decide +kernel
theorem dL_law__1737 : decode cL_law_ 1737 = .ok (.iconst 1, 1) := by decide +kernel
theorem dL_law__1738 : decode cL_law_ 1738 = .ok (.iadd, 1) := by decide +kernel
theorem dL_law__1739 : decode cL_law_ 1739 = .ok (.iaload, 1) := by decide +kernel
theorem dL_law__1740 : decode cL_law_ 1740 = .ok (.aload_n 0, 1) := by decide +kernel
theorem dL_law__1741 : decode cL_law_ 1741 = .ok (.iload 4, 2) := by decide +kernel
theorem dL_law__1743 : decode cL_law_ 1743 = .ok (.iconst 2, 1) := by decide +kernel
theorem dL_law__1744 : decode cL_law_ 1744 = .ok (.iadd, 1) := by decide +kernel
theorem dL_law__1745 : decode cL_law_ 1745 = .ok (.iaload, 1) := by decide +kernel
theorem dL_law__1746 : decode cL_law_ 1746 = .ok (.aload_n 0, 1) := by decide +kernel
theorem dL_law__1747 : decode cL_law_ 1747 = .ok (.iload 4, 2) := by decide +kernel
theorem dL_law__1749 : decode cL_law_ 1749 = .ok (.iconst 3, 1) := by decide +kernel
theorem dL_law__1750 : decode cL_law_ 1750 = .ok (.iadd, 1) := by decide +kernel
theorem dL_law__1751 : decode cL_law_ 1751 = .ok (.iaload, 1) := by decide +kernel
theorem dL_law__1752 : decode cL_law_ 1752 = .ok (.aload_n 3, 1) := by decide +kernel
theorem dL_law__1753 : decode cL_law_ 1753 = .ok (.invokestatic 205, 3) := by decide +kernel
theorem dL_law__1756 : decode cL_law_ 1756 = .ok (.istore 5, 2) := by decide +kernel
theorem dL_law__1758 : decode cL_law_ 1758 = .ok (.aload_n 2, 1) := by decide +kernel
theorem dL_law__1759 : decode cL_law_ 1759 = .ok (.aload_n 0, 1) := by decide +kernel
theorem dL_law__1760 : decode cL_law_ 1760 = .ok (.iload 4, 2) := by decide +kernel
theorem dL_law__1762 : decode cL_law_ 1762 = .ok (.iconst 1, 1) := by decide +kernel
theorem dL_law__1763 : decode cL_law_ 1763 = .ok (.iadd, 1) := by decide +kernel
theorem dL_law__1764 : decode cL_law_ 1764 = .ok (.iaload, 1) := by decide +kernel
theorem dL_law__1765 : decode cL_law_ 1765 = .ok (.aload_n 0, 1) := by decide +kernel
theorem dL_law__1766 : decode cL_law_ 1766 = .ok (.iload 4, 2) := by decide +kernel
theorem dL_law__1768 : decode cL_law_ 1768 = .ok (.iconst 2, 1) := by decide +kernel
theorem dL_law__1769 : decode cL_law_ 1769 = .ok (.iadd, 1) := by decide +kernel
theorem dL_law__1770 : decode cL_law_ 1770 = .ok (.iaload, 1) := by decide +kernel
theorem dL_law__1771 : decode cL_law_ 1771 = .ok (.aload_n 0, 1) := by decide +kernel
theorem dL_law__1772 : decode cL_law_ 1772 = .ok (.iload 4, 2) := by decide +kernel
theorem dL_law__1774 : decode cL_law_ 1774 = .ok (.iconst 3, 1) := by decide +kernel
theorem dL_law__1775 : decode cL_law_ 1775 = .ok (.iadd, 1) := by decide +kernel
theorem dL_law__1776 : decode cL_law_ 1776 = .ok (.iaload, 1) := by decide +kernel
theorem dL_law__1777 : decode cL_law_ 1777 = .ok (.invokevirtual 207, 3) := by decide +kernel
theorem dL_law__1780 : decode cL_law_ 1780 = .ok (.istore 6, 2) := by decide +kernel
theorem dL_law__1782 : decode cL_law_ 1782 = .ok (.aload_n 2, 1) := by decide +kernel
theorem dL_law__1783 : decode cL_law_ 1783 = .ok (.invokevirtual 128, 3) := by decide +kernel
theorem dL_law__1786 : decode cL_law_ 1786 = .ok (.iload 5, 2) := by decide +kernel
theorem dL_law__1788 : decode cL_law_ 1788 = .ok (.if_icmp .eq 5, 3) := by decide +kernel
theorem dL_law__1791 : decode cL_law_ 1791 = .ok (.iconst 0, 1) := by decide +kernel
theorem dL_law__1792 : decode cL_law_ 1792 = .ok (.ireturn, 1) := by decide +kernel
theorem dL_law__1793 : decode cL_law_ 1793 = .ok (.iload 5, 2) := by decide +kernel
theorem dL_law__1795 : decode cL_law_ 1795 = .ok (.ifCond .ne 15, 3) := by decide +kernel
theorem dL_law__1798 : decode cL_law_ 1798 = .ok (.aload_n 3, 1) := by decide +kernel
theorem dL_law__1799 : decode cL_law_ 1799 = .ok (.iconst 0, 1) := by decide +kernel
theorem dL_law__1800 : decode cL_law_ 1800 = .ok (.laload, 1) := by decide +kernel
theorem dL_law__1801 : decode cL_law_ 1801 = .ok (.iload 6, 2) := by decide +kernel
theorem dL_law__1803 : decode cL_law_ 1803 = .ok (.i2l, 1) := by decide +kernel
theorem dL_law__1804 : decode cL_law_ 1804 = .ok (.lcmp, 1) := by decide +kernel
theorem dL_law__1805 : decode cL_law_ 1805 = .ok (.ifCond .eq 5, 3) := by decide +kernel
theorem dL_law__1808 : decode cL_law_ 1808 = .ok (.iconst 0, 1) := by decide +kernel
theorem dL_law__1809 : decode cL_law_ 1809 = .ok (.ireturn, 1) := by decide +kernel
theorem dL_law__1810 : decode cL_law_ 1810 = .ok (.goto 775, 3) := by decide +kernel
theorem dL_law__1813 : decode cL_law_ 1813 = .ok (.aload_n 1, 1) := by decide +kernel
theorem dL_law__1814 : decode cL_law_ 1814 = .ok (.aload_n 0, 1) := by decide +kernel
theorem dL_law__1815 : decode cL_law_ 1815 = .ok (.iload 4, 2) := by decide +kernel
theorem dL_law__1817 : decode cL_law_ 1817 = .ok (.iconst 1, 1) := by decide +kernel
theorem dL_law__1818 : decode cL_law_ 1818 = .ok (.iadd, 1) := by decide +kernel
theorem dL_law__1819 : decode cL_law_ 1819 = .ok (.iaload, 1) := by decide +kernel
theorem dL_law__1820 : decode cL_law_ 1820 = .ok (.aload_n 3, 1) := by decide +kernel
theorem dL_law__1821 : decode cL_law_ 1821 = .ok (.invokestatic 208, 3) := by decide +kernel
theorem dL_law__1824 : decode cL_law_ 1824 = .ok (.istore 5, 2) := by decide +kernel
theorem dL_law__1826 : decode cL_law_ 1826 = .ok (.aload_n 2, 1) := by decide +kernel
theorem dL_law__1827 : decode cL_law_ 1827 = .ok (.aload_n 0, 1) := by decide +kernel
theorem dL_law__1828 : decode cL_law_ 1828 = .ok (.iload 4, 2) := by decide +kernel
theorem dL_law__1830 : decode cL_law_ 1830 = .ok (.iconst 1, 1) := by decide +kernel
theorem dL_law__1831 : decode cL_law_ 1831 = .ok (.iadd, 1) := by decide +kernel
theorem dL_law__1832 : decode cL_law_ 1832 = .ok (.iaload, 1) := by decide +kernel
theorem dL_law__1833 : decode cL_law_ 1833 = .ok (.invokevirtual 210, 3) := by decide +kernel
theorem dL_law__1836 : decode cL_law_ 1836 = .ok (.istore 6, 2) := by decide +kernel
theorem dL_law__1838 : decode cL_law_ 1838 = .ok (.aload_n 2, 1) := by decide +kernel
theorem dL_law__1839 : decode cL_law_ 1839 = .ok (.invokevirtual 128, 3) := by decide +kernel
theorem dL_law__1842 : decode cL_law_ 1842 = .ok (.iload 5, 2) := by decide +kernel
theorem dL_law__1844 : decode cL_law_ 1844 = .ok (.if_icmp .eq 5, 3) := by decide +kernel
theorem dL_law__1847 : decode cL_law_ 1847 = .ok (.iconst 0, 1) := by decide +kernel
theorem dL_law__1848 : decode cL_law_ 1848 = .ok (.ireturn, 1) := by decide +kernel
theorem dL_law__1849 : decode cL_law_ 1849 = .ok (.iload 5, 2) := by decide +kernel
theorem dL_law__1851 : decode cL_law_ 1851 = .ok (.ifCond .ne 15, 3) := by decide +kernel
theorem dL_law__1854 : decode cL_law_ 1854 = .ok (.aload_n 3, 1) := by decide +kernel
theorem dL_law__1855 : decode cL_law_ 1855 = .ok (.iconst 0, 1) := by decide +kernel
theorem dL_law__1856 : decode cL_law_ 1856 = .ok (.laload, 1) := by decide +kernel
theorem dL_law__1857 : decode cL_law_ 1857 = .ok (.iload 6, 2) := by decide +kernel
theorem dL_law__1859 : decode cL_law_ 1859 = .ok (.i2l, 1) := by decide +kernel
theorem dL_law__1860 : decode cL_law_ 1860 = .ok (.lcmp, 1) := by decide +kernel
theorem dL_law__1861 : decode cL_law_ 1861 = .ok (.ifCond .eq 5, 3) := by decide +kernel
theorem dL_law__1864 : decode cL_law_ 1864 = .ok (.iconst 0, 1) := by decide +kernel
theorem dL_law__1865 : decode cL_law_ 1865 = .ok (.ireturn, 1) := by decide +kernel
theorem dL_law__1866 : decode cL_law_ 1866 = .ok (.goto 719, 3) := by decide +kernel
theorem dL_law__1869 : decode cL_law_ 1869 = .ok (.aload_n 1, 1) := by decide +kernel
theorem dL_law__1870 : decode cL_law_ 1870 = .ok (.aload_n 0, 1) := by decide +kernel
theorem dL_law__1871 : decode cL_law_ 1871 = .ok (.iload 4, 2) := by decide +kernel
theorem dL_law__1873 : decode cL_law_ 1873 = .ok (.iconst 1, 1) := by decide +kernel
theorem dL_law__1874 : decode cL_law_ 1874 = .ok (.iadd, 1) := by decide +kernel
theorem dL_law__1875 : decode cL_law_ 1875 = .ok (.iaload, 1) := by decide +kernel
theorem dL_law__1876 : decode cL_law_ 1876 = .ok (.aload_n 3, 1) := by decide +kernel
theorem dL_law__1877 : decode cL_law_ 1877 = .ok (.invokestatic 211, 3) := by decide +kernel
theorem dL_law__1880 : decode cL_law_ 1880 = .ok (.istore 5, 2) := by decide +kernel
theorem dL_law__1882 : decode cL_law_ 1882 = .ok (.aload_n 2, 1) := by decide +kernel
theorem dL_law__1883 : decode cL_law_ 1883 = .ok (.aload_n 0, 1) := by decide +kernel
theorem dL_law__1884 : decode cL_law_ 1884 = .ok (.iload 4, 2) := by decide +kernel
theorem dL_law__1886 : decode cL_law_ 1886 = .ok (.iconst 1, 1) := by decide +kernel
theorem dL_law__1887 : decode cL_law_ 1887 = .ok (.iadd, 1) := by decide +kernel
theorem dL_law__1888 : decode cL_law_ 1888 = .ok (.iaload, 1) := by decide +kernel
theorem dL_law__1889 : decode cL_law_ 1889 = .ok (.invokevirtual 213, 3) := by decide +kernel
theorem dL_law__1892 : decode cL_law_ 1892 = .ok (.istore 6, 2) := by decide +kernel
theorem dL_law__1894 : decode cL_law_ 1894 = .ok (.aload_n 2, 1) := by decide +kernel
theorem dL_law__1895 : decode cL_law_ 1895 = .ok (.invokevirtual 128, 3) := by decide +kernel
theorem dL_law__1898 : decode cL_law_ 1898 = .ok (.iload 5, 2) := by decide +kernel
theorem dL_law__1900 : decode cL_law_ 1900 = .ok (.if_icmp .eq 5, 3) := by decide +kernel
theorem dL_law__1903 : decode cL_law_ 1903 = .ok (.iconst 0, 1) := by decide +kernel
theorem dL_law__1904 : decode cL_law_ 1904 = .ok (.ireturn, 1) := by decide +kernel
theorem dL_law__1905 : decode cL_law_ 1905 = .ok (.iload 5, 2) := by decide +kernel
theorem dL_law__1907 : decode cL_law_ 1907 = .ok (.ifCond .ne 15, 3) := by decide +kernel
theorem dL_law__1910 : decode cL_law_ 1910 = .ok (.aload_n 3, 1) := by decide +kernel
theorem dL_law__1911 : decode cL_law_ 1911 = .ok (.iconst 0, 1) := by decide +kernel
theorem dL_law__1912 : decode cL_law_ 1912 = .ok (.laload, 1) := by decide +kernel
theorem dL_law__1913 : decode cL_law_ 1913 = .ok (.iload 6, 2) := by decide +kernel
theorem dL_law__1915 : decode cL_law_ 1915 = .ok (.i2l, 1) := by decide +kernel
theorem dL_law__1916 : decode cL_law_ 1916 = .ok (.lcmp, 1) := by decide +kernel
theorem dL_law__1917 : decode cL_law_ 1917 = .ok (.ifCond .eq 5, 3) := by decide +kernel
theorem dL_law__1920 : decode cL_law_ 1920 = .ok (.iconst 0, 1) := by decide +kernel
theorem dL_law__1921 : decode cL_law_ 1921 = .ok (.ireturn, 1) := by decide +kernel
theorem dL_law__1922 : decode cL_law_ 1922 = .ok (.goto 663, 3) := by decide +kernel
theorem dL_law__1925 : decode cL_law_ 1925 = .ok (.aload_n 1, 1) := by decide +kernel
theorem dL_law__1926 : decode cL_law_ 1926 = .ok (.invokevirtual 214, 3) := by decide +kernel
theorem dL_law__1929 : decode cL_law_ 1929 = .ok (.aload_n 2, 1) := by decide +kernel
theorem dL_law__1930 : decode cL_law_ 1930 = .ok (.invokevirtual 217, 3) := by decide +kernel
theorem dL_law__1933 : decode cL_law_ 1933 = .ok (.if_icmp .eq 652, 3) := by decide +kernel
theorem dL_law__1936 : decode cL_law_ 1936 = .ok (.iconst 0, 1) := by decide +kernel
theorem dL_law__1937 : decode cL_law_ 1937 = .ok (.ireturn, 1) := by decide +kernel
theorem dL_law__1938 : decode cL_law_ 1938 = .ok (.aload_n 1, 1) := by decide +kernel
theorem dL_law__1939 : decode cL_law_ 1939 = .ok (.aload_n 0, 1) := by decide +kernel
theorem dL_law__1940 : decode cL_law_ 1940 = .ok (.iload 4, 2) := by decide +kernel
theorem dL_law__1942 : decode cL_law_ 1942 = .ok (.iconst 1, 1) := by decide +kernel
theorem dL_law__1943 : decode cL_law_ 1943 = .ok (.iadd, 1) := by decide +kernel
theorem dL_law__1944 : decode cL_law_ 1944 = .ok (.iaload, 1) := by decide +kernel
theorem dL_law__1945 : decode cL_law_ 1945 = .ok (.aload_n 3, 1) := by decide +kernel
theorem dL_law__1946 : decode cL_law_ 1946 = .ok (.invokestatic 218, 3) := by decide +kernel
theorem dL_law__1949 : decode cL_law_ 1949 = .ok (.istore 5, 2) := by decide +kernel
theorem dL_law__1951 : decode cL_law_ 1951 = .ok (.aload_n 2, 1) := by decide +kernel
theorem dL_law__1952 : decode cL_law_ 1952 = .ok (.aload_n 0, 1) := by decide +kernel
theorem dL_law__1953 : decode cL_law_ 1953 = .ok (.iload 4, 2) := by decide +kernel
theorem dL_law__1955 : decode cL_law_ 1955 = .ok (.iconst 1, 1) := by decide +kernel
theorem dL_law__1956 : decode cL_law_ 1956 = .ok (.iadd, 1) := by decide +kernel
theorem dL_law__1957 : decode cL_law_ 1957 = .ok (.iaload, 1) := by decide +kernel
theorem dL_law__1958 : decode cL_law_ 1958 = .ok (.invokevirtual 220, 3) := by decide +kernel
theorem dL_law__1961 : decode cL_law_ 1961 = .ok (.istore 6, 2) := by decide +kernel
theorem dL_law__1963 : decode cL_law_ 1963 = .ok (.aload_n 2, 1) := by decide +kernel
theorem dL_law__1964 : decode cL_law_ 1964 = .ok (.invokevirtual 128, 3) := by decide +kernel
theorem dL_law__1967 : decode cL_law_ 1967 = .ok (.iload 5, 2) := by decide +kernel
theorem dL_law__1969 : decode cL_law_ 1969 = .ok (.if_icmp .eq 5, 3) := by decide +kernel
theorem dL_law__1972 : decode cL_law_ 1972 = .ok (.iconst 0, 1) := by decide +kernel
theorem dL_law__1973 : decode cL_law_ 1973 = .ok (.ireturn, 1) := by decide +kernel
theorem dL_law__1974 : decode cL_law_ 1974 = .ok (.iload 5, 2) := by decide +kernel
theorem dL_law__1976 : decode cL_law_ 1976 = .ok (.ifCond .ne 15, 3) := by decide +kernel
theorem dL_law__1979 : decode cL_law_ 1979 = .ok (.aload_n 3, 1) := by decide +kernel
theorem dL_law__1980 : decode cL_law_ 1980 = .ok (.iconst 0, 1) := by decide +kernel
theorem dL_law__1981 : decode cL_law_ 1981 = .ok (.laload, 1) := by decide +kernel
theorem dL_law__1982 : decode cL_law_ 1982 = .ok (.iload 6, 2) := by decide +kernel
theorem dL_law__1984 : decode cL_law_ 1984 = .ok (.i2l, 1) := by decide +kernel
theorem dL_law__1985 : decode cL_law_ 1985 = .ok (.lcmp, 1) := by decide +kernel
theorem dL_law__1986 : decode cL_law_ 1986 = .ok (.ifCond .eq 5, 3) := by decide +kernel
theorem dL_law__1989 : decode cL_law_ 1989 = .ok (.iconst 0, 1) := by decide +kernel
theorem dL_law__1990 : decode cL_law_ 1990 = .ok (.ireturn, 1) := by decide +kernel
theorem dL_law__1991 : decode cL_law_ 1991 = .ok (.goto 594, 3) := by decide +kernel
theorem dL_law__1994 : decode cL_law_ 1994 = .ok (.aload_n 1, 1) := by decide +kernel
