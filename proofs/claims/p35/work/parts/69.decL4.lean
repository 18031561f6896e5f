theorem dL_keeps_1301 : decode cL_keeps 1301 = .ok (.invokestatic 184, 3) := by decide +kernel
theorem dL_keeps_1304 : decode cL_keeps 1304 = .ok (.istore 32, 2) := by decide +kernel
theorem dL_keeps_1306 : decode cL_keeps 1306 = .ok (.aload_n 3, 1) := by decide +kernel
theorem dL_keeps_1307 : decode cL_keeps 1307 = .ok (.aload 5, 2) := by decide +kernel
theorem dL_keeps_1309 : decode cL_keeps 1309 = .ok (.aload 6, 2) := by decide +kernel
theorem dL_keeps_1311 : decode cL_keeps 1311 = .ok (.aload 7, 2) := by decide +kernel
theorem dL_keeps_1313 : decode cL_keeps 1313 = .ok (.aload 8, 2) := by decide +kernel
theorem dL_keeps_1315 : decode cL_keeps 1315 = .ok (.iload 16, 2) := by decide +kernel
theorem dL_keeps_1317 : decode cL_keeps 1317 = .ok (.iload 17, 2) := by decide +kernel
theorem dL_keeps_1319 : decode cL_keeps 1319 = .ok (.invokestatic 167, 3) := by decide +kernel
theorem dL_keeps_1322 : decode cL_keeps 1322 = .ok (.bipush 8, 2) := by decide +kernel
theorem dL_keeps_1324 : decode cL_keeps 1324 = .ok (.iload 17, 2) := by decide +kernel
theorem dL_keeps_1326 : decode cL_keeps 1326 = .ok (.imul, 1) := by decide +kernel
theorem dL_keeps_1327 : decode cL_keeps 1327 = .ok (.iconst 2, 1) := by decide +kernel
theorem dL_keeps_1328 : decode cL_keeps 1328 = .ok (.iadd, 1) := by decide +kernel
theorem dL_keeps_1329 : decode cL_keeps 1329 = .ok (.invokestatic 73, 3) := by decide +kernel
theorem dL_keeps_1332 : decode cL_keeps 1332 = .ok (.iadd, 1) := by decide +kernel
theorem dL_keeps_1333 : decode cL_keeps 1333 = .ok (.iload 32, 2) := by decide +kernel
theorem dL_keeps_1335 : decode cL_keeps 1335 = .ok (.invokestatic 73, 3) := by decide +kernel
theorem dL_keeps_1338 : decode cL_keeps 1338 = .ok (.iadd, 1) := by decide +kernel
theorem dL_keeps_1339 : decode cL_keeps 1339 = .ok (.iload 32, 2) := by decide +kernel
theorem dL_keeps_1341 : decode cL_keeps 1341 = .ok (.iadd, 1) := by decide +kernel
theorem dL_keeps_1342 : decode cL_keeps 1342 = .ok (.bipush 120, 2) := by decide +kernel
theorem dL_keeps_1344 : decode cL_keeps 1344 = .ok (.if_icmp .le 24, 3) := by decide +kernel
theorem dL_keeps_1347 : decode cL_keeps 1347 = .ok (.aload_n 0, 1) := by decide +kernel
theorem dL_keeps_1348 : decode cL_keeps 1348 = .ok (.iload 16, 2) := by decide +kernel
theorem dL_keeps_1350 : decode cL_keeps 1350 = .ok (.iload 17, 2) := by decide +kernel
theorem dL_keeps_1352 : decode cL_keeps 1352 = .ok (.iload 20, 2) := by decide +kernel
theorem dL_keeps_1354 : decode cL_keeps 1354 = .ok (.invokestatic 182, 3) := by decide +kernel
theorem dL_keeps_1357 : decode cL_keeps 1357 = .ok (.bipush (-73), 2) := by decide +kernel
theorem dL_keeps_1359 : decode cL_keeps 1359 = .ok (.if_icmp .ne 7, 3) := by decide +kernel
theorem dL_keeps_1362 : decode cL_keeps 1362 = .ok (.iconst 1, 1) := by decide +kernel
theorem dL_keeps_1363 : decode cL_keeps 1363 = .ok (.goto 4, 3) := by decide +kernel
theorem dL_keeps_1366 : decode cL_keeps 1366 = .ok (.iconst 0, 1) := by decide +kernel
theorem dL_keeps_1367 : decode cL_keeps 1367 = .ok (.ireturn, 1) := by decide +kernel
theorem dL_keeps_1368 : decode cL_keeps 1368 = .ok (.iload 32, 2) := by decide +kernel
theorem dL_keeps_1370 : decode cL_keeps 1370 = .ok (.bipush 16, 2) := by decide +kernel
theorem dL_keeps_1372 : decode cL_keeps 1372 = .ok (.if_icmp .gt 22, 3) := by decide +kernel
theorem dL_keeps_1375 : decode cL_keeps 1375 = .ok (.aload_n 3, 1) := by decide +kernel
theorem dL_keeps_1376 : decode cL_keeps 1376 = .ok (.aload 5, 2) := by decide +kernel
theorem dL_keeps_1378 : decode cL_keeps 1378 = .ok (.aload 6, 2) := by decide +kernel
theorem dL_keeps_1380 : decode cL_keeps 1380 = .ok (.aload 7, 2) := by decide +kernel
theorem dL_keeps_1382 : decode cL_keeps 1382 = .ok (.iload 16, 2) := by decide +kernel
theorem dL_keeps_1384 : decode cL_keeps 1384 = .ok (.iload 17, 2) := by decide +kernel
theorem dL_keeps_1386 : decode cL_keeps 1386 = .ok (.invokestatic 171, 3) := by decide +kernel
theorem dL_keeps_1389 : decode cL_keeps 1389 = .ok (.bipush 12, 2) := by decide +kernel
theorem dL_keeps_1391 : decode cL_keeps 1391 = .ok (.if_icmp .ne 23, 3) := by decide +kernel
theorem dL_keeps_1394 : decode cL_keeps 1394 = .ok (.aload_n 0, 1) := by decide +kernel
theorem dL_keeps_1395 : decode cL_keeps 1395 = .ok (.iconst 5, 1) := by decide +kernel
theorem dL_keeps_1396 : decode cL_keeps 1396 = .ok (.iload 17, 2) := by decide +kernel
theorem dL_keeps_1398 : decode cL_keeps 1398 = .ok (.iload 20, 2) := by decide +kernel
theorem dL_keeps_1400 : decode cL_keeps 1400 = .ok (.invokestatic 182, 3) := by decide +kernel
theorem dL_keeps_1403 : decode cL_keeps 1403 = .ok (.bipush (-71), 2) := by decide +kernel
theorem dL_keeps_1405 : decode cL_keeps 1405 = .ok (.if_icmp .ne 7, 3) := by decide +kernel
theorem dL_keeps_1408 : decode cL_keeps 1408 = .ok (.iconst 1, 1) := by decide +kernel
theorem dL_keeps_1409 : decode cL_keeps 1409 = .ok (.goto 4, 3) := by decide +kernel
theorem dL_keeps_1412 : decode cL_keeps 1412 = .ok (.iconst 0, 1) := by decide +kernel
theorem dL_keeps_1413 : decode cL_keeps 1413 = .ok (.ireturn, 1) := by decide +kernel
theorem dL_keeps_1414 : decode cL_keeps 1414 = .ok (.lconst 0, 1) := by decide +kernel
theorem dL_keeps_1415 : decode cL_keeps 1415 = .ok (.lstore 33, 2) := by decide +kernel
theorem dL_keeps_1417 : decode cL_keeps 1417 = .ok (.lconst 0, 1) := by decide +kernel
theorem dL_keeps_1418 : decode cL_keeps 1418 = .ok (.lstore 35, 2) := by decide +kernel
theorem dL_keeps_1420 : decode cL_keeps 1420 = .ok (.iconst 0, 1) := by decide +kernel
theorem dL_keeps_1421 : decode cL_keeps 1421 = .ok (.istore 37, 2) := by decide +kernel
theorem dL_keeps_1423 : decode cL_keeps 1423 = .ok (.iload 37, 2) := by decide +kernel
theorem dL_keeps_1425 : decode cL_keeps 1425 = .ok (.iload 32, 2) := by decide +kernel
theorem dL_keeps_1427 : decode cL_keeps 1427 = .ok (.if_icmp .ge 56, 3) := by decide +kernel
theorem dL_keeps_1430 : decode cL_keeps 1430 = .ok (.iload 37, 2) := by decide +kernel
theorem dL_keeps_1432 : decode cL_keeps 1432 = .ok (.bipush 8, 2) := by decide +kernel
theorem dL_keeps_1434 : decode cL_keeps 1434 = .ok (.if_icmp .ge 23, 3) := by decide +kernel
theorem dL_keeps_1437 : decode cL_keeps 1437 = .ok (.lload 33, 2) := by decide +kernel
theorem dL_keeps_1439 : decode cL_keeps 1439 = .ok (.aload 12, 2) := by decide +kernel
theorem dL_keeps_1441 : decode cL_keeps 1441 = .ok (.iload 37, 2) := by decide +kernel
theorem dL_keeps_1443 : decode cL_keeps 1443 = .ok (.iaload, 1) := by decide +kernel
theorem dL_keeps_1444 : decode cL_keeps 1444 = .ok (.i2l, 1) := by decide +kernel
theorem dL_keeps_1445 : decode cL_keeps 1445 = .ok (.bipush 8, 2) := by decide +kernel
theorem dL_keeps_1447 : decode cL_keeps 1447 = .ok (.iload 37, 2) := by decide +kernel
theorem dL_keeps_1449 : decode cL_keeps 1449 = .ok (.imul, 1) := by decide +kernel
theorem dL_keeps_1450 : decode cL_keeps 1450 = .ok (.lshl, 1) := by decide +kernel
theorem dL_keeps_1451 : decode cL_keeps 1451 = .ok (.lor, 1) := by decide +kernel
theorem dL_keeps_1452 : decode cL_keeps 1452 = .ok (.lstore 33, 2) := by decide +kernel
theorem dL_keeps_1454 : decode cL_keeps 1454 = .ok (.goto 23, 3) := by decide +kernel
theorem dL_keeps_1457 : decode cL_keeps 1457 = .ok (.lload 35, 2) := by decide +kernel
theorem dL_keeps_1459 : decode cL_keeps 1459 = .ok (.aload 12, 2) := by decide +kernel
theorem dL_keeps_1461 : decode cL_keeps 1461 = .ok (.iload 37, 2) := by decide +kernel
theorem dL_keeps_1463 : decode cL_keeps 1463 = .ok (.iaload, 1) := by decide +kernel
theorem dL_keeps_1464 : decode cL_keeps 1464 = .ok (.i2l, 1) := by decide +kernel
theorem dL_keeps_1465 : decode cL_keeps 1465 = .ok (.bipush 8, 2) := by decide +kernel
theorem dL_keeps_1467 : decode cL_keeps 1467 = .ok (.iload 37, 2) := by decide +kernel
theorem dL_keeps_1469 : decode cL_keeps 1469 = .ok (.bipush 8, 2) := by decide +kernel
theorem dL_keeps_1471 : decode cL_keeps 1471 = .ok (.isub, 1) := by decide +kernel
theorem dL_keeps_1472 : decode cL_keeps 1472 = .ok (.imul, 1) := by decide +kernel
theorem dL_keeps_1473 : decode cL_keeps 1473 = .ok (.lshl, 1) := by decide +kernel
theorem dL_keeps_1474 : decode cL_keeps 1474 = .ok (.lor, 1) := by decide +kernel
theorem dL_keeps_1475 : decode cL_keeps 1475 = .ok (.lstore 35, 2) := by decide +kernel
theorem dL_keeps_1477 : decode cL_keeps 1477 = .ok (.iinc 37 1, 3) := by decide +kernel
theorem dL_keeps_1480 : decode cL_keeps 1480 = .ok (.goto (-57), 3) := by decide +kernel
theorem dL_keeps_1483 : decode cL_keeps 1483 = .ok (.aload_n 3, 1) := by decide +kernel
theorem dL_keeps_1484 : decode cL_keeps 1484 = .ok (.aload 5, 2) := by decide +kernel
theorem dL_keeps_1486 : decode cL_keeps 1486 = .ok (.aload 6, 2) := by decide +kernel
theorem dL_keeps_1488 : decode cL_keeps 1488 = .ok (.aload 7, 2) := by decide +kernel
theorem dL_keeps_1490 : decode cL_keeps 1490 = .ok (.aload 8, 2) := by decide +kernel
theorem dL_keeps_1492 : decode cL_keeps 1492 = .ok (.aload 9, 2) := by decide +kernel
theorem dL_keeps_1494 : decode cL_keeps 1494 = .ok (.aload 10, 2) := by decide +kernel
theorem dL_keeps_1496 : decode cL_keeps 1496 = .ok (.iload 16, 2) := by decide +kernel
theorem dL_keeps_1498 : decode cL_keeps 1498 = .ok (.bipush 8, 2) := by decide +kernel
theorem dL_keeps_1500 : decode cL_keeps 1500 = .ok (.iload 17, 2) := by decide +kernel
theorem dL_keeps_1502 : decode cL_keeps 1502 = .ok (.imul, 1) := by decide +kernel
theorem dL_keeps_1503 : decode cL_keeps 1503 = .ok (.iconst 2, 1) := by decide +kernel
theorem dL_keeps_1504 : decode cL_keeps 1504 = .ok (.iadd, 1) := by decide +kernel
theorem dL_keeps_1505 : decode cL_keeps 1505 = .ok (.iload 32, 2) := by decide +kernel
theorem dL_keeps_1507 : decode cL_keeps 1507 = .ok (.lload 33, 2) := by decide +kernel
theorem dL_keeps_1509 : decode cL_keeps 1509 = .ok (.lload 35, 2) := by decide +kernel
theorem dL_keeps_1511 : decode cL_keeps 1511 = .ok (.invokestatic 174, 3) := by decide +kernel
theorem dL_keeps_1514 : decode cL_keeps 1514 = .ok (.aload_n 0, 1) := by decide +kernel
theorem dL_keeps_1515 : decode cL_keeps 1515 = .ok (.iload 16, 2) := by decide +kernel
theorem dL_keeps_1517 : decode cL_keeps 1517 = .ok (.iload 17, 2) := by decide +kernel
theorem dL_keeps_1519 : decode cL_keeps 1519 = .ok (.iload 20, 2) := by decide +kernel
theorem dL_keeps_1521 : decode cL_keeps 1521 = .ok (.invokestatic 182, 3) := by decide +kernel
theorem dL_keeps_1524 : decode cL_keeps 1524 = .ok (.iload 32, 2) := by decide +kernel
theorem dL_keeps_1526 : decode cL_keeps 1526 = .ok (.if_icmp .ne 7, 3) := by decide +kernel
theorem dL_keeps_1529 : decode cL_keeps 1529 = .ok (.iconst 1, 1) := by decide +kernel
theorem dL_keeps_1530 : decode cL_keeps 1530 = .ok (.goto 4, 3) := by decide +kernel
theorem dL_keeps_1533 : decode cL_keeps 1533 = .ok (.iconst 0, 1) := by decide +kernel
theorem dL_keeps_1534 : decode cL_keeps 1534 = .ok (.ireturn, 1) := by decide +kernel
theorem dL_keeps_1535 : decode cL_keeps 1535 = .ok (.iconst 0, 1) := by decide +kernel
theorem dL_keeps_1536 : decode cL_keeps 1536 = .ok (.istore 37, 2) := by decide +kernel
theorem dL_keeps_1538 : decode cL_keeps 1538 = .ok (.bipush 12, 2) := by decide +kernel
theorem dL_keeps_1540 : decode cL_keeps 1540 = .ok (.iload 16, 2) := by decide +kernel
theorem dL_keeps_1542 : decode cL_keeps 1542 = .ok (.imul, 1) := by decide +kernel
theorem dL_keeps_1543 : decode cL_keeps 1543 = .ok (.aload 6, 2) := by decide +kernel
theorem dL_keeps_1545 : decode cL_keeps 1545 = .ok (.iload 16, 2) := by decide +kernel
theorem dL_keeps_1547 : decode cL_keeps 1547 = .ok (.iaload, 1) := by decide +kernel
theorem dL_keeps_1548 : decode cL_keeps 1548 = .ok (.iadd, 1) := by decide +kernel
theorem dL_keeps_1549 : decode cL_keeps 1549 = .ok (.iconst 1, 1) := by decide +kernel
theorem dL_keeps_1550 : decode cL_keeps 1550 = .ok (.isub, 1) := by decide +kernel
theorem dL_keeps_1551 : decode cL_keeps 1551 = .ok (.istore 38, 2) := by decide +kernel
theorem dL_keeps_1553 : decode cL_keeps 1553 = .ok (.iload 38, 2) := by decide +kernel
theorem dL_keeps_1555 : decode cL_keeps 1555 = .ok (.bipush 12, 2) := by decide +kernel
theorem dL_keeps_1557 : decode cL_keeps 1557 = .ok (.iload 16, 2) := by decide +kernel
theorem dL_keeps_1559 : decode cL_keeps 1559 = .ok (.imul, 1) := by decide +kernel
theorem dL_keeps_1560 : decode cL_keeps 1560 = .ok (.if_icmp .lt 45, 3) := by decide +kernel
theorem dL_keeps_1563 : decode cL_keeps 1563 = .ok (.aload 7, 2) := by decide +kernel
theorem dL_keeps_1565 : decode cL_keeps 1565 = .ok (.iload 38, 2) := by decide +kernel
theorem dL_keeps_1567 : decode cL_keeps 1567 = .ok (.iaload, 1) := by decide +kernel
theorem dL_keeps_1568 : decode cL_keeps 1568 = .ok (.bipush 8, 2) := by decide +kernel
theorem dL_keeps_1570 : decode cL_keeps 1570 = .ok (.idiv, 1) := by decide +kernel
theorem dL_keeps_1571 : decode cL_keeps 1571 = .ok (.iload 17, 2) := by decide +kernel
theorem dL_keeps_1573 : decode cL_keeps 1573 = .ok (.if_icmp .eq 6, 3) := by decide +kernel
theorem dL_keeps_1576 : decode cL_keeps 1576 = .ok (.goto 23, 3) := by decide +kernel
theorem dL_keeps_1579 : decode cL_keeps 1579 = .ok (.aload 6, 2) := by decide +kernel
theorem dL_keeps_1581 : decode cL_keeps 1581 = .ok (.aload 7, 2) := by decide +kernel
theorem dL_keeps_1583 : decode cL_keeps 1583 = .ok (.aload 8, 2) := by decide +kernel
theorem dL_keeps_1585 : decode cL_keeps 1585 = .ok (.aload 9, 2) := by decide +kernel
theorem dL_keeps_1587 : decode cL_keeps 1587 = .ok (.aload 10, 2) := by decide +kernel
theorem dL_keeps_1589 : decode cL_keeps 1589 = .ok (.iload 16, 2) := by decide +kernel
theorem dL_keeps_1591 : decode cL_keeps 1591 = .ok (.iload 38, 2) := by decide +kernel
theorem dL_keeps_1593 : decode cL_keeps 1593 = .ok (.invokestatic 115, 3) := by decide +kernel
theorem dL_keeps_1596 : decode cL_keeps 1596 = .ok (.iinc 37 1, 3) := by decide +kernel
theorem dL_keeps_1599 : decode cL_keeps 1599 = .ok (.iinc 38 (-1), 3) := by decide +kernel
theorem dL_keeps_1602 : decode cL_keeps 1602 = .ok (.goto (-49), 3) := by decide +kernel
theorem dL_keeps_1605 : decode cL_keeps 1605 = .ok (.aload_n 0, 1) := by decide +kernel
theorem dL_keeps_1606 : decode cL_keeps 1606 = .ok (.iload 16, 2) := by decide +kernel
theorem dL_keeps_1608 : decode cL_keeps 1608 = .ok (.iload 17, 2) := by decide +kernel
theorem dL_keeps_1610 : decode cL_keeps 1610 = .ok (.invokevirtual 188, 3) := by decide +kernel
theorem dL_keeps_1613 : decode cL_keeps 1613 = .ok (.iload 37, 2) := by decide +kernel
theorem dL_keeps_1615 : decode cL_keeps 1615 = .ok (.if_icmp .ne 18, 3) := by decide +kernel
theorem dL_keeps_1618 : decode cL_keeps 1618 = .ok (.aload_n 0, 1) := by decide +kernel
theorem dL_keeps_1619 : decode cL_keeps 1619 = .ok (.iload 16, 2) := by decide +kernel
theorem dL_keeps_1621 : decode cL_keeps 1621 = .ok (.iload 17, 2) := by decide +kernel
theorem dL_keeps_1623 : decode cL_keeps 1623 = .ok (.invokevirtual 191, 3) := by decide +kernel
theorem dL_keeps_1626 : decode cL_keeps 1626 = .ok (.ifCond .ne 7, 3) := by decide +kernel
theorem dL_keeps_1629 : decode cL_keeps 1629 = .ok (.iconst 1, 1) := by decide +kernel
theorem dL_keeps_1630 : decode cL_keeps 1630 = .ok (.goto 4, 3) := by decide +kernel
theorem dL_keeps_1633 : decode cL_keeps 1633 = .ok (.iconst 0, 1) := by decide +kernel
theorem dL_keeps_1634 : decode cL_keeps 1634 = .ok (.ireturn, 1) := by decide +kernel
theorem dL_keeps_1635 : decode cL_keeps 1635 = .ok (.aload_n 3, 1) := by decide +kernel
theorem dL_keeps_1636 : decode cL_keeps 1636 = .ok (.aload 4, 2) := by decide +kernel
theorem dL_keeps_1638 : decode cL_keeps 1638 = .ok (.aload 5, 2) := by decide +kernel
theorem dL_keeps_1640 : decode cL_keeps 1640 = .ok (.aload 6, 2) := by decide +kernel
theorem dL_keeps_1642 : decode cL_keeps 1642 = .ok (.aload 7, 2) := by decide +kernel
theorem dL_keeps_1644 : decode cL_keeps 1644 = .ok (.aload 8, 2) := by decide +kernel
theorem dL_keeps_1646 : decode cL_keeps 1646 = .ok (.aload 9, 2) := by decide +kernel
theorem dL_keeps_1648 : decode cL_keeps 1648 = .ok (.aload 10, 2) := by decide +kernel
theorem dL_keeps_1650 : decode cL_keeps 1650 = .ok (.aload 12, 2) := by decide +kernel
theorem dL_keeps_1652 : decode cL_keeps 1652 = .ok (.aload 13, 2) := by decide +kernel
theorem dL_keeps_1654 : decode cL_keeps 1654 = .ok (.iload 16, 2) := by decide +kernel
theorem dL_keeps_1656 : decode cL_keeps 1656 = .ok (.invokestatic 184, 3) := by decide +kernel
theorem dL_keeps_1659 : decode cL_keeps 1659 = .ok (.istore 38, 2) := by decide +kernel
theorem dL_keeps_1661 : decode cL_keeps 1661 = .ok (.iload 38, 2) := by decide +kernel
theorem dL_keeps_1663 : decode cL_keeps 1663 = .ok (.bipush 64, 2) := by decide +kernel
theorem dL_keeps_1665 : decode cL_keeps 1665 = .ok (.if_icmp .le 20, 3) := by decide +kernel
theorem dL_keeps_1668 : decode cL_keeps 1668 = .ok (.aload_n 0, 1) := by decide +kernel
theorem dL_keeps_1669 : decode cL_keeps 1669 = .ok (.invokevirtual 195, 3) := by decide +kernel
theorem dL_keeps_1672 : decode cL_keeps 1672 = .ok (.aload 13, 2) := by decide +kernel
theorem dL_keeps_1674 : decode cL_keeps 1674 = .ok (.iconst 1, 1) := by decide +kernel
theorem dL_keeps_1675 : decode cL_keeps 1675 = .ok (.iaload, 1) := by decide +kernel
theorem dL_keeps_1676 : decode cL_keeps 1676 = .ok (.if_icmp .ne 7, 3) := by decide +kernel
theorem dL_keeps_1679 : decode cL_keeps 1679 = .ok (.iconst 1, 1) := by decide +kernel
theorem dL_keeps_1680 : decode cL_keeps 1680 = .ok (.goto 4, 3) := by decide +kernel
theorem dL_keeps_1683 : decode cL_keeps 1683 = .ok (.iconst 0, 1) := by decide +kernel
theorem dL_keeps_1684 : decode cL_keeps 1684 = .ok (.ireturn, 1) := by decide +kernel
theorem dL_keeps_1685 : decode cL_keeps 1685 = .ok (.aload 13, 2) := by decide +kernel
theorem dL_keeps_1687 : decode cL_keeps 1687 = .ok (.iconst 1, 1) := by decide +kernel
theorem dL_keeps_1688 : decode cL_keeps 1688 = .ok (.iload 38, 2) := by decide +kernel
theorem dL_keeps_1690 : decode cL_keeps 1690 = .ok (.iastore, 1) := by decide +kernel
theorem dL_keeps_1691 : decode cL_keeps 1691 = .ok (.iconst 0, 1) := by decide +kernel
theorem dL_keeps_1692 : decode cL_keeps 1692 = .ok (.istore 39, 2) := by decide +kernel
theorem dL_keeps_1694 : decode cL_keeps 1694 = .ok (.iload 39, 2) := by decide +kernel
theorem dL_keeps_1696 : decode cL_keeps 1696 = .ok (.iload 38, 2) := by decide +kernel
theorem dL_keeps_1698 : decode cL_keeps 1698 = .ok (.if_icmp .ge 19, 3) := by decide +kernel
theorem dL_keeps_1701 : decode cL_keeps 1701 = .ok (.aload 11, 2) := by decide +kernel
theorem dL_keeps_1703 : decode cL_keeps 1703 = .ok (.iload 39, 2) := by decide +kernel
theorem dL_keeps_1705 : decode cL_keeps 1705 = .ok (.aload 12, 2) := by decide +kernel
theorem dL_keeps_1707 : decode cL_keeps 1707 = .ok (.iload 39, 2) := by decide +kernel
theorem dL_keeps_1709 : decode cL_keeps 1709 = .ok (.iaload, 1) := by decide +kernel
theorem dL_keeps_1710 : decode cL_keeps 1710 = .ok (.iastore, 1) := by decide +kernel
theorem dL_keeps_1711 : decode cL_keeps 1711 = .ok (.iinc 39 1, 3) := by decide +kernel
theorem dL_keeps_1714 : decode cL_keeps 1714 = .ok (.goto (-20), 3) := by decide +kernel
theorem dL_keeps_1717 : decode cL_keeps 1717 = .ok (.aload_n 0, 1) := by decide +kernel
theorem dL_keeps_1718 : decode cL_keeps 1718 = .ok (.iload 16, 2) := by decide +kernel
theorem dL_keeps_1720 : decode cL_keeps 1720 = .ok (.invokevirtual 198, 3) := by decide +kernel
theorem dL_keeps_1723 : decode cL_keeps 1723 = .ok (.iload 38, 2) := by decide +kernel
theorem dL_keeps_1725 : decode cL_keeps 1725 = .ok (.if_icmp .ne 7, 3) := by decide +kernel
theorem dL_keeps_1728 : decode cL_keeps 1728 = .ok (.iconst 1, 1) := by decide +kernel
theorem dL_keeps_1729 : decode cL_keeps 1729 = .ok (.goto 4, 3) := by decide +kernel
theorem dL_keeps_1732 : decode cL_keeps 1732 = .ok (.iconst 0, 1) := by decide +kernel
theorem dL_keeps_1733 : decode cL_keeps 1733 = .ok (.ireturn, 1) := by decide +kernel
theorem dL_keeps_1734 : decode cL_keeps 1734 = .ok (.iload_n 2, 1) := by decide +kernel
theorem dL_keeps_1735 : decode cL_keeps 1735 = .ok (.sipush 28672, 3) := by decide +kernel
theorem dL_keeps_1738 : decode cL_keeps 1738 = .ok (.iand, 1) := by decide +kernel
theorem dL_keeps_1739 : decode cL_keeps 1739 = .ok (.ifCond .ne 79, 3) := by decide +kernel
theorem dL_keeps_1742 : decode cL_keeps 1742 = .ok (.iload_n 2, 1) := by decide +kernel
theorem dL_keeps_1743 : decode cL_keeps 1743 = .ok (.bipush 15, 2) := by decide +kernel
theorem dL_keeps_1745 : decode cL_keeps 1745 = .ok (.ishr, 1) := by decide +kernel
theorem dL_keeps_1746 : decode cL_keeps 1746 = .ok (.aload 13, 2) := by decide +kernel
theorem dL_keeps_1748 : decode cL_keeps 1748 = .ok (.iconst 1, 1) := by decide +kernel
theorem dL_keeps_1749 : decode cL_keeps 1749 = .ok (.iaload, 1) := by decide +kernel
theorem dL_keeps_1750 : decode cL_keeps 1750 = .ok (.iconst 1, 1) := by decide +kernel
theorem dL_keeps_1751 : decode cL_keeps 1751 = .ok (.iadd, 1) := by decide +kernel
theorem dL_keeps_1752 : decode cL_keeps 1752 = .ok (.invokestatic 129, 3) := by decide +kernel
theorem dL_keeps_1755 : decode cL_keeps 1755 = .ok (.istore 39, 2) := by decide +kernel
theorem dL_keeps_1757 : decode cL_keeps 1757 = .ok (.aload 13, 2) := by decide +kernel
theorem dL_keeps_1759 : decode cL_keeps 1759 = .ok (.iconst 1, 1) := by decide +kernel
theorem dL_keeps_1760 : decode cL_keeps 1760 = .ok (.iaload, 1) := by decide +kernel
theorem dL_keeps_1761 : decode cL_keeps 1761 = .ok (.iload 39, 2) := by decide +kernel
theorem dL_keeps_1763 : decode cL_keeps 1763 = .ok (.isub, 1) := by decide +kernel
theorem dL_keeps_1764 : decode cL_keeps 1764 = .ok (.istore 40, 2) := by decide +kernel
theorem dL_keeps_1766 : decode cL_keeps 1766 = .ok (.aload 13, 2) := by decide +kernel
theorem dL_keeps_1768 : decode cL_keeps 1768 = .ok (.iconst 1, 1) := by decide +kernel
theorem dL_keeps_1769 : decode cL_keeps 1769 = .ok (.iaload, 1) := by decide +kernel
theorem dL_keeps_1770 : decode cL_keeps 1770 = .ok (.istore 41, 2) := by decide +kernel
theorem dL_keeps_1772 : decode cL_keeps 1772 = .ok (.aload 13, 2) := by decide +kernel
theorem dL_keeps_1774 : decode cL_keeps 1774 = .ok (.iconst 1, 1) := by decide +kernel
theorem dL_keeps_1775 : decode cL_keeps 1775 = .ok (.iload 39, 2) := by decide +kernel
theorem dL_keeps_1777 : decode cL_keeps 1777 = .ok (.iastore, 1) := by decide +kernel
theorem dL_keeps_1778 : decode cL_keeps 1778 = .ok (.aload_n 0, 1) := by decide +kernel
theorem dL_keeps_1779 : decode cL_keeps 1779 = .ok (.iload 41, 2) := by decide +kernel
theorem dL_keeps_1781 : decode cL_keeps 1781 = .ok (.iconst 1, 1) := by decide +kernel
theorem dL_keeps_1782 : decode cL_keeps 1782 = .ok (.iadd, 1) := by decide +kernel
theorem dL_keeps_1783 : decode cL_keeps 1783 = .ok (.invokestatic 201, 3) := by decide +kernel
theorem dL_keeps_1786 : decode cL_keeps 1786 = .ok (.bipush (-71), 2) := by decide +kernel
theorem dL_keeps_1788 : decode cL_keeps 1788 = .ok (.if_icmp .ne 28, 3) := by decide +kernel
theorem dL_keeps_1791 : decode cL_keeps 1791 = .ok (.aload_n 0, 1) := by decide +kernel
theorem dL_keeps_1792 : decode cL_keeps 1792 = .ok (.iconst (-1), 1) := by decide +kernel
theorem dL_keeps_1793 : decode cL_keeps 1793 = .ok (.invokestatic 201, 3) := by decide +kernel
theorem dL_keeps_1796 : decode cL_keeps 1796 = .ok (.bipush (-71), 2) := by decide +kernel
theorem dL_keeps_1798 : decode cL_keeps 1798 = .ok (.if_icmp .ne 18, 3) := by decide +kernel
theorem dL_keeps_1801 : decode cL_keeps 1801 = .ok (.aload_n 0, 1) := by decide +kernel
theorem dL_keeps_1802 : decode cL_keeps 1802 = .ok (.iload 39, 2) := by decide +kernel
theorem dL_keeps_1804 : decode cL_keeps 1804 = .ok (.invokestatic 201, 3) := by decide +kernel
theorem dL_keeps_1807 : decode cL_keeps 1807 = .ok (.iload 40, 2) := by decide +kernel
theorem dL_keeps_1809 : decode cL_keeps 1809 = .ok (.if_icmp .ne 7, 3) := by decide +kernel
theorem dL_keeps_1812 : decode cL_keeps 1812 = .ok (.iconst 1, 1) := by decide +kernel
theorem dL_keeps_1813 : decode cL_keeps 1813 = .ok (.goto 4, 3) := by decide +kernel
theorem dL_keeps_1816 : decode cL_keeps 1816 = .ok (.iconst 0, 1) := by decide +kernel
theorem dL_keeps_1817 : decode cL_keeps 1817 = .ok (.ireturn, 1) := by decide +kernel
theorem dL_keeps_1818 : decode cL_keeps 1818 = .ok (.aload 13, 2) := by decide +kernel
theorem dL_keeps_1820 : decode cL_keeps 1820 = .ok (.iconst 1, 1) := by decide +kernel
theorem dL_keeps_1821 : decode cL_keeps 1821 = .ok (.iaload, 1) := by decide +kernel
theorem dL_keeps_1822 : decode cL_keeps 1822 = .ok (.bipush 64, 2) := by decide +kernel
theorem dL_keeps_1824 : decode cL_keeps 1824 = .ok (.if_icmp .ne 20, 3) := by decide +kernel
theorem dL_keeps_1827 : decode cL_keeps 1827 = .ok (.aload_n 0, 1) := by decide +kernel
theorem dL_keeps_1828 : decode cL_keeps 1828 = .ok (.bipush 65, 2) := by decide +kernel
theorem dL_keeps_1830 : decode cL_keeps 1830 = .ok (.invokestatic 201, 3) := by decide +kernel
theorem dL_keeps_1833 : decode cL_keeps 1833 = .ok (.bipush (-71), 2) := by decide +kernel
theorem dL_keeps_1835 : decode cL_keeps 1835 = .ok (.if_icmp .ne 7, 3) := by decide +kernel
theorem dL_keeps_1838 : decode cL_keeps 1838 = .ok (.iconst 1, 1) := by decide +kernel
theorem dL_keeps_1839 : decode cL_keeps 1839 = .ok (.goto 4, 3) := by decide +kernel
theorem dL_keeps_1842 : decode cL_keeps 1842 = .ok (.iconst 0, 1) := by decide +kernel
theorem dL_keeps_1843 : decode cL_keeps 1843 = .ok (.ireturn, 1) := by decide +kernel
theorem dL_keeps_1844 : decode cL_keeps 1844 = .ok (.aload 11, 2) := by decide +kernel
theorem dL_keeps_1846 : decode cL_keeps 1846 = .ok (.aload 13, 2) := by decide +kernel
theorem dL_keeps_1848 : decode cL_keeps 1848 = .ok (.iconst 1, 1) := by decide +kernel
theorem dL_keeps_1849 : decode cL_keeps 1849 = .ok (.iaload, 1) := by decide +kernel
theorem dL_keeps_1850 : decode cL_keeps 1850 = .ok (.iload_n 2, 1) := by decide +kernel
theorem dL_keeps_1851 : decode cL_keeps 1851 = .ok (.ldc 203, 2) := by decide +kernel
theorem dL_keeps_1853 : decode cL_keeps 1853 = .ok (.iand, 1) := by decide +kernel
theorem dL_keeps_1854 : decode cL_keeps 1854 = .ok (.ifCond .ne 14, 3) := by decide +kernel
theorem dL_keeps_1857 : decode cL_keeps 1857 = .ok (.iload_n 2, 1) := by decide +kernel
theorem dL_keeps_1858 : decode cL_keeps 1858 = .ok (.bipush 16, 2) := by decide +kernel
theorem dL_keeps_1860 : decode cL_keeps 1860 = .ok (.ishr, 1) := by decide +kernel
theorem dL_keeps_1861 : decode cL_keeps 1861 = .ok (.sipush 255, 3) := by decide +kernel
theorem dL_keeps_1864 : decode cL_keeps 1864 = .ok (.iand, 1) := by decide +kernel
theorem dL_keeps_1865 : decode cL_keeps 1865 = .ok (.goto 39, 3) := by decide +kernel
theorem dL_keeps_1868 : decode cL_keeps 1868 = .ok (.iload_n 2, 1) := by decide +kernel
theorem dL_keeps_1869 : decode cL_keeps 1869 = .ok (.ldc 204, 2) := by decide +kernel
theorem dL_keeps_1871 : decode cL_keeps 1871 = .ok (.iand, 1) := by decide +kernel
theorem dL_keeps_1872 : decode cL_keeps 1872 = .ok (.ifCond .ne 23, 3) := by decide +kernel
theorem dL_keeps_1875 : decode cL_keeps 1875 = .ok (.bipush 8, 2) := by decide +kernel
theorem dL_keeps_1877 : decode cL_keeps 1877 = .ok (.iload 17, 2) := by decide +kernel
theorem dL_keeps_1879 : decode cL_keeps 1879 = .ok (.imul, 1) := by decide +kernel
theorem dL_keeps_1880 : decode cL_keeps 1880 = .ok (.iload_n 2, 1) := by decide +kernel
theorem dL_keeps_1881 : decode cL_keeps 1881 = .ok (.bipush 17, 2) := by decide +kernel
theorem dL_keeps_1883 : decode cL_keeps 1883 = .ok (.ishr, 1) := by decide +kernel
theorem dL_keeps_1884 : decode cL_keeps 1884 = .ok (.bipush 7, 2) := by decide +kernel
theorem dL_keeps_1886 : decode cL_keeps 1886 = .ok (.iand, 1) := by decide +kernel
theorem dL_keeps_1887 : decode cL_keeps 1887 = .ok (.iadd, 1) := by decide +kernel
theorem dL_keeps_1888 : decode cL_keeps 1888 = .ok (.sipush 255, 3) := by decide +kernel
theorem dL_keeps_1891 : decode cL_keeps 1891 = .ok (.iand, 1) := by decide +kernel
theorem dL_keeps_1892 : decode cL_keeps 1892 = .ok (.goto 12, 3) := by decide +kernel
theorem dL_keeps_1895 : decode cL_keeps 1895 = .ok (.iload_n 2, 1) := by decide +kernel
theorem dL_keeps_1896 : decode cL_keeps 1896 = .ok (.bipush 17, 2) := by decide +kernel
theorem dL_keeps_1898 : decode cL_keeps 1898 = .ok (.ishr, 1) := by decide +kernel
theorem dL_keeps_1899 : decode cL_keeps 1899 = .ok (.bipush 8, 2) := by decide +kernel
theorem dL_keeps_1901 : decode cL_keeps 1901 = .ok (.invokestatic 129, 3) := by decide +kernel
theorem dL_keeps_1904 : decode cL_keeps 1904 = .ok (.iastore, 1) := by decide +kernel
theorem dL_keeps_1905 : decode cL_keeps 1905 = .ok (.aload 13, 2) := by decide +kernel
theorem dL_keeps_1907 : decode cL_keeps 1907 = .ok (.iconst 1, 1) := by decide +kernel
theorem dL_keeps_1908 : decode cL_keeps 1908 = .ok (.dup2, 1) := by decide +kernel
theorem dL_keeps_1909 : decode cL_keeps 1909 = .ok (.iaload, 1) := by decide +kernel
theorem dL_keeps_1910 : decode cL_keeps 1910 = .ok (.iconst 1, 1) := by decide +kernel
theorem dL_keeps_1911 : decode cL_keeps 1911 = .ok (.iadd, 1) := by decide +kernel
theorem dL_keeps_1912 : decode cL_keeps 1912 = .ok (.iastore, 1) := by decide +kernel
theorem dL_keeps_1913 : decode cL_keeps 1913 = .ok (.aload_n 0, 1) := by decide +kernel
theorem dL_keeps_1914 : decode cL_keeps 1914 = .ok (.aload 11, 2) := by decide +kernel
theorem dL_keeps_1916 : decode cL_keeps 1916 = .ok (.aload 13, 2) := by decide +kernel
theorem dL_keeps_1918 : decode cL_keeps 1918 = .ok (.iconst 1, 1) := by decide +kernel
theorem dL_keeps_1919 : decode cL_keeps 1919 = .ok (.iaload, 1) := by decide +kernel
theorem dL_keeps_1920 : decode cL_keeps 1920 = .ok (.iconst 1, 1) := by decide +kernel
theorem dL_keeps_1921 : decode cL_keeps 1921 = .ok (.isub, 1) := by decide +kernel
theorem dL_keeps_1922 : decode cL_keeps 1922 = .ok (.iaload, 1) := by decide +kernel
theorem dL_keeps_1923 : decode cL_keeps 1923 = .ok (.i2b, 1) := by decide +kernel
theorem dL_keeps_1924 : decode cL_keeps 1924 = .ok (.invokevirtual 205, 3) := by decide +kernel
theorem dL_keeps_1927 : decode cL_keeps 1927 = .ok (.aload 13, 2) := by decide +kernel
theorem dL_keeps_1929 : decode cL_keeps 1929 = .ok (.iconst 1, 1) := by decide +kernel
theorem dL_keeps_1930 : decode cL_keeps 1930 = .ok (.iaload, 1) := by decide +kernel
theorem dL_keeps_1931 : decode cL_keeps 1931 = .ok (.if_icmp .ne 7, 3) := by decide +kernel
theorem dL_keeps_1934 : decode cL_keeps 1934 = .ok (.iconst 1, 1) := by decide +kernel
theorem dL_keeps_1935 : decode cL_keeps 1935 = .ok (.goto 4, 3) := by decide +kernel
theorem dL_keeps_1938 : decode cL_keeps 1938 = .ok (.iconst 0, 1) := by decide +kernel
theorem dL_keeps_1939 : decode cL_keeps 1939 = .ok (.ireturn, 1) := by decide +kernel
theorem dL_keeps_1940 : decode cL_keeps 1940 = .ok (.iload 14, 2) := by decide +kernel
theorem dL_keeps_1942 : decode cL_keeps 1942 = .ok (.ifCond .ge 22, 3) := by decide +kernel
theorem dL_keeps_1945 : decode cL_keeps 1945 = .ok (.aload_n 0, 1) := by decide +kernel
theorem dL_keeps_1946 : decode cL_keeps 1946 = .ok (.aload 13, 2) := by decide +kernel
theorem dL_keeps_1948 : decode cL_keeps 1948 = .ok (.iconst 0, 1) := by decide +kernel
theorem dL_keeps_1949 : decode cL_keeps 1949 = .ok (.iaload, 1) := by decide +kernel
theorem dL_keeps_1950 : decode cL_keeps 1950 = .ok (.invokestatic 209, 3) := by decide +kernel
theorem dL_keeps_1953 : decode cL_keeps 1953 = .ok (.bipush (-71), 2) := by decide +kernel
theorem dL_keeps_1955 : decode cL_keeps 1955 = .ok (.if_icmp .ne 7, 3) := by decide +kernel
theorem dL_keeps_1958 : decode cL_keeps 1958 = .ok (.iconst 1, 1) := by decide +kernel
theorem dL_keeps_1959 : decode cL_keeps 1959 = .ok (.goto 4, 3) := by decide +kernel
theorem dL_keeps_1962 : decode cL_keeps 1962 = .ok (.iconst 0, 1) := by decide +kernel
theorem dL_keeps_1963 : decode cL_keeps 1963 = .ok (.ireturn, 1) := by decide +kernel
theorem dL_keeps_1964 : decode cL_keeps 1964 = .ok (.aload 11, 2) := by decide +kernel
theorem dL_keeps_1966 : decode cL_keeps 1966 = .ok (.aload 13, 2) := by decide +kernel
theorem dL_keeps_1968 : decode cL_keeps 1968 = .ok (.iconst 1, 1) := by decide +kernel
theorem dL_keeps_1969 : decode cL_keeps 1969 = .ok (.iaload, 1) := by decide +kernel
theorem dL_keeps_1970 : decode cL_keeps 1970 = .ok (.aload 6, 2) := by decide +kernel
theorem dL_keeps_1972 : decode cL_keeps 1972 = .ok (.aload 7, 2) := by decide +kernel
theorem dL_keeps_1974 : decode cL_keeps 1974 = .ok (.aload 8, 2) := by decide +kernel
theorem dL_keeps_1976 : decode cL_keeps 1976 = .ok (.aload 9, 2) := by decide +kernel
theorem dL_keeps_1978 : decode cL_keeps 1978 = .ok (.aload 10, 2) := by decide +kernel
theorem dL_keeps_1980 : decode cL_keeps 1980 = .ok (.aload 13, 2) := by decide +kernel
theorem dL_keeps_1982 : decode cL_keeps 1982 = .ok (.iload 14, 2) := by decide +kernel
theorem dL_keeps_1984 : decode cL_keeps 1984 = .ok (.invokestatic 211, 3) := by decide +kernel
theorem dL_keeps_1987 : decode cL_keeps 1987 = .ok (.istore 39, 2) := by decide +kernel
theorem dL_keeps_1989 : decode cL_keeps 1989 = .ok (.iload 39, 2) := by decide +kernel
theorem dL_keeps_1991 : decode cL_keeps 1991 = .ok (.bipush 9, 2) := by decide +kernel
theorem dL_keeps_1993 : decode cL_keeps 1993 = .ok (.if_icmp .ne 16, 3) := by decide +kernel
theorem dL_keeps_1996 : decode cL_keeps 1996 = .ok (.aload_n 0, 1) := by decide +kernel
theorem dL_keeps_1997 : decode cL_keeps 1997 = .ok (.invokevirtual 215, 3) := by decide +kernel
theorem dL_keeps_2000 : decode cL_keeps 2000 = .ok (.ifCond .ne 7, 3) := by decide +kernel
theorem dL_keeps_2003 : decode cL_keeps 2003 = .ok (.iconst 1, 1) := by decide +kernel
theorem dL_keeps_2004 : decode cL_keeps 2004 = .ok (.goto 4, 3) := by decide +kernel
theorem dL_keeps_2007 : decode cL_keeps 2007 = .ok (.iconst 0, 1) := by decide +kernel
theorem dL_keeps_2008 : decode cL_keeps 2008 = .ok (.ireturn, 1) := by decide +kernel
theorem dL_keeps_2009 : decode cL_keeps 2009 = .ok (.iload 39, 2) := by decide +kernel
theorem dL_keeps_2011 : decode cL_keeps 2011 = .ok (.ifCond .ne 12, 3) := by decide +kernel
theorem dL_keeps_2014 : decode cL_keeps 2014 = .ok (.aload 5, 2) := by decide +kernel
theorem dL_keeps_2016 : decode cL_keeps 2016 = .ok (.iload 14, 2) := by decide +kernel
theorem dL_keeps_2018 : decode cL_keeps 2018 = .ok (.iload 15, 2) := by decide +kernel
theorem dL_keeps_2020 : decode cL_keeps 2020 = .ok (.iconst 1, 1) := by decide +kernel
theorem dL_keeps_2021 : decode cL_keeps 2021 = .ok (.iadd, 1) := by decide +kernel
theorem dL_keeps_2022 : decode cL_keeps 2022 = .ok (.iastore, 1) := by decide +kernel
theorem dL_keeps_2023 : decode cL_keeps 2023 = .ok (.aload_n 0, 1) := by decide +kernel
theorem dL_keeps_2024 : decode cL_keeps 2024 = .ok (.iload 15, 2) := by decide +kernel
theorem dL_keeps_2026 : decode cL_keeps 2026 = .ok (.invokestatic 209, 3) := by decide +kernel
theorem dL_keeps_2029 : decode cL_keeps 2029 = .ok (.iload 39, 2) := by decide +kernel
theorem dL_keeps_2031 : decode cL_keeps 2031 = .ok (.ifCond .ne 8, 3) := by decide +kernel
theorem dL_keeps_2034 : decode cL_keeps 2034 = .ok (.iload 14, 2) := by decide +kernel
theorem dL_keeps_2036 : decode cL_keeps 2036 = .ok (.goto 5, 3) := by decide +kernel
theorem dL_keeps_2039 : decode cL_keeps 2039 = .ok (.bipush (-72), 2) := by decide +kernel
theorem dL_keeps_2041 : decode cL_keeps 2041 = .ok (.if_icmp .ne 7, 3) := by decide +kernel
theorem dL_keeps_2044 : decode cL_keeps 2044 = .ok (.iconst 1, 1) := by decide +kernel
theorem dL_keeps_2045 : decode cL_keeps 2045 = .ok (.goto 4, 3) := by decide +kernel
theorem dL_keeps_2048 : decode cL_keeps 2048 = .ok (.iconst 0, 1) := by decide +kernel
theorem dL_keeps_2049 : decode cL_keeps 2049 = .ok (.ireturn, 1) := by decide +kernel
theorem dL_keeps_2050 : decode cL_keeps 2050 = .ok (.iload 18, 2) := by decide +kernel
theorem dL_keeps_2052 : decode cL_keeps 2052 = .ok (.iconst 4, 1) := by decide +kernel
theorem dL_keeps_2053 : decode cL_keeps 2053 = .ok (.if_icmp .eq 35, 3) := by decide +kernel
theorem dL_keeps_2056 : decode cL_keeps 2056 = .ok (.aload_n 0, 1) := by decide +kernel
theorem dL_keeps_2057 : decode cL_keeps 2057 = .ok (.iload 16, 2) := by decide +kernel
theorem dL_keeps_2059 : decode cL_keeps 2059 = .ok (.iload 17, 2) := by decide +kernel
theorem dL_keeps_2061 : decode cL_keeps 2061 = .ok (.invokestatic 218, 3) := by decide +kernel
theorem dL_keeps_2064 : decode cL_keeps 2064 = .ok (.bipush (-72), 2) := by decide +kernel
theorem dL_keeps_2066 : decode cL_keeps 2066 = .ok (.if_icmp .ne 20, 3) := by decide +kernel
theorem dL_keeps_2069 : decode cL_keeps 2069 = .ok (.aload_n 0, 1) := by decide +kernel
theorem dL_keeps_2070 : decode cL_keeps 2070 = .ok (.bipush 12, 2) := by decide +kernel
theorem dL_keeps_2072 : decode cL_keeps 2072 = .ok (.iload 17, 2) := by decide +kernel
theorem dL_keeps_2074 : decode cL_keeps 2074 = .ok (.invokestatic 218, 3) := by decide +kernel
theorem dL_keeps_2077 : decode cL_keeps 2077 = .ok (.bipush (-71), 2) := by decide +kernel
theorem dL_keeps_2079 : decode cL_keeps 2079 = .ok (.if_icmp .ne 7, 3) := by decide +kernel
theorem dL_keeps_2082 : decode cL_keeps 2082 = .ok (.iconst 1, 1) := by decide +kernel
theorem dL_keeps_2083 : decode cL_keeps 2083 = .ok (.goto 4, 3) := by decide +kernel
theorem dL_keeps_2086 : decode cL_keeps 2086 = .ok (.iconst 0, 1) := by decide +kernel
theorem dL_keeps_2087 : decode cL_keeps 2087 = .ok (.ireturn, 1) := by decide +kernel
theorem dL_keeps_2088 : decode cL_keeps 2088 = .ok (.iload 19, 2) := by decide +kernel
theorem dL_keeps_2090 : decode cL_keeps 2090 = .ok (.ifCond .ge 22, 3) := by decide +kernel
theorem dL_keeps_2093 : decode cL_keeps 2093 = .ok (.aload_n 0, 1) := by decide +kernel
theorem dL_keeps_2094 : decode cL_keeps 2094 = .ok (.iload 16, 2) := by decide +kernel
theorem dL_keeps_2096 : decode cL_keeps 2096 = .ok (.iload 17, 2) := by decide +kernel
theorem dL_keeps_2098 : decode cL_keeps 2098 = .ok (.invokestatic 218, 3) := by decide +kernel
theorem dL_keeps_2101 : decode cL_keeps 2101 = .ok (.bipush (-74), 2) := by decide +kernel
theorem dL_keeps_2103 : decode cL_keeps 2103 = .ok (.if_icmp .ne 7, 3) := by decide +kernel
theorem dL_keeps_2106 : decode cL_keeps 2106 = .ok (.iconst 1, 1) := by decide +kernel
theorem dL_keeps_2107 : decode cL_keeps 2107 = .ok (.goto 4, 3) := by decide +kernel
theorem dL_keeps_2110 : decode cL_keeps 2110 = .ok (.iconst 0, 1) := by decide +kernel
theorem dL_keeps_2111 : decode cL_keeps 2111 = .ok (.ireturn, 1) := by decide +kernel
theorem dL_keeps_2112 : decode cL_keeps 2112 = .ok (.iconst 0, 1) := by decide +kernel
theorem dL_keeps_2113 : decode cL_keeps 2113 = .ok (.istore 40, 2) := by decide +kernel
theorem dL_keeps_2115 : decode cL_keeps 2115 = .ok (.iload 40, 2) := by decide +kernel
theorem dL_keeps_2117 : decode cL_keeps 2117 = .ok (.aload 8, 2) := by decide +kernel
theorem dL_keeps_2119 : decode cL_keeps 2119 = .ok (.iload 19, 2) := by decide +kernel
theorem dL_keeps_2121 : decode cL_keeps 2121 = .ok (.iaload, 1) := by decide +kernel
theorem dL_keeps_2122 : decode cL_keeps 2122 = .ok (.if_icmp .ge 25, 3) := by decide +kernel
theorem dL_keeps_2125 : decode cL_keeps 2125 = .ok (.aload 12, 2) := by decide +kernel
theorem dL_keeps_2127 : decode cL_keeps 2127 = .ok (.iload 40, 2) := by decide +kernel
theorem dL_keeps_2129 : decode cL_keeps 2129 = .ok (.aload 9, 2) := by decide +kernel
theorem dL_keeps_2131 : decode cL_keeps 2131 = .ok (.aload 10, 2) := by decide +kernel
theorem dL_keeps_2133 : decode cL_keeps 2133 = .ok (.iload 19, 2) := by decide +kernel
theorem dL_keeps_2135 : decode cL_keeps 2135 = .ok (.iload 40, 2) := by decide +kernel
theorem dL_keeps_2137 : decode cL_keeps 2137 = .ok (.invokestatic 103, 3) := by decide +kernel
theorem dL_keeps_2140 : decode cL_keeps 2140 = .ok (.iastore, 1) := by decide +kernel
theorem dL_keeps_2141 : decode cL_keeps 2141 = .ok (.iinc 40 1, 3) := by decide +kernel
theorem dL_keeps_2144 : decode cL_keeps 2144 = .ok (.goto (-29), 3) := by decide +kernel
theorem dL_keeps_2147 : decode cL_keeps 2147 = .ok (.iload 14, 2) := by decide +kernel
theorem dL_keeps_2149 : decode cL_keeps 2149 = .ok (.ifCond .ge 48, 3) := by decide +kernel
theorem dL_keeps_2152 : decode cL_keeps 2152 = .ok (.aload 12, 2) := by decide +kernel
theorem dL_keeps_2154 : decode cL_keeps 2154 = .ok (.aload 8, 2) := by decide +kernel
theorem dL_keeps_2156 : decode cL_keeps 2156 = .ok (.iload 19, 2) := by decide +kernel
theorem dL_keeps_2158 : decode cL_keeps 2158 = .ok (.iaload, 1) := by decide +kernel
theorem dL_keeps_2159 : decode cL_keeps 2159 = .ok (.aload 6, 2) := by decide +kernel
theorem dL_keeps_2161 : decode cL_keeps 2161 = .ok (.aload 7, 2) := by decide +kernel
theorem dL_keeps_2163 : decode cL_keeps 2163 = .ok (.aload 8, 2) := by decide +kernel
theorem dL_keeps_2165 : decode cL_keeps 2165 = .ok (.aload 9, 2) := by decide +kernel
theorem dL_keeps_2167 : decode cL_keeps 2167 = .ok (.aload 10, 2) := by decide +kernel
theorem dL_keeps_2169 : decode cL_keeps 2169 = .ok (.aload 13, 2) := by decide +kernel
theorem dL_keeps_2171 : decode cL_keeps 2171 = .ok (.iconst (-1), 1) := by decide +kernel
theorem dL_keeps_2172 : decode cL_keeps 2172 = .ok (.invokestatic 211, 3) := by decide +kernel
theorem dL_keeps_2175 : decode cL_keeps 2175 = .ok (.ifCond .eq 16, 3) := by decide +kernel
theorem dL_keeps_2178 : decode cL_keeps 2178 = .ok (.aload_n 0, 1) := by decide +kernel
theorem dL_keeps_2179 : decode cL_keeps 2179 = .ok (.iload 16, 2) := by decide +kernel
theorem dL_keeps_2181 : decode cL_keeps 2181 = .ok (.iload 17, 2) := by decide +kernel
theorem dL_keeps_2183 : decode cL_keeps 2183 = .ok (.invokestatic 218, 3) := by decide +kernel
theorem dL_keeps_2186 : decode cL_keeps 2186 = .ok (.bipush (-73), 2) := by decide +kernel
theorem dL_keeps_2188 : decode cL_keeps 2188 = .ok (.if_icmp .ne 7, 3) := by decide +kernel
theorem dL_keeps_2191 : decode cL_keeps 2191 = .ok (.iconst 1, 1) := by decide +kernel
theorem dL_keeps_2192 : decode cL_keeps 2192 = .ok (.goto 4, 3) := by decide +kernel
theorem dL_keeps_2195 : decode cL_keeps 2195 = .ok (.iconst 0, 1) := by decide +kernel
theorem dL_keeps_2196 : decode cL_keeps 2196 = .ok (.ireturn, 1) := by decide +kernel
theorem dL_keeps_2197 : decode cL_keeps 2197 = .ok (.aload 12, 2) := by decide +kernel
theorem dL_keeps_2199 : decode cL_keeps 2199 = .ok (.aload 8, 2) := by decide +kernel
theorem dL_keeps_2201 : decode cL_keeps 2201 = .ok (.iload 19, 2) := by decide +kernel
theorem dL_keeps_2203 : decode cL_keeps 2203 = .ok (.iaload, 1) := by decide +kernel
theorem dL_keeps_2204 : decode cL_keeps 2204 = .ok (.aload 6, 2) := by decide +kernel
theorem dL_keeps_2206 : decode cL_keeps 2206 = .ok (.aload 7, 2) := by decide +kernel
theorem dL_keeps_2208 : decode cL_keeps 2208 = .ok (.aload 8, 2) := by decide +kernel
theorem dL_keeps_2210 : decode cL_keeps 2210 = .ok (.aload 9, 2) := by decide +kernel
theorem dL_keeps_2212 : decode cL_keeps 2212 = .ok (.aload 10, 2) := by decide +kernel
theorem dL_keeps_2214 : decode cL_keeps 2214 = .ok (.aload 13, 2) := by decide +kernel
theorem dL_keeps_2216 : decode cL_keeps 2216 = .ok (.iload 14, 2) := by decide +kernel
theorem dL_keeps_2218 : decode cL_keeps 2218 = .ok (.invokestatic 211, 3) := by decide +kernel
theorem dL_keeps_2221 : decode cL_keeps 2221 = .ok (.istore 40, 2) := by decide +kernel
theorem dL_keeps_2223 : decode cL_keeps 2223 = .ok (.iload 40, 2) := by decide +kernel
theorem dL_keeps_2225 : decode cL_keeps 2225 = .ok (.ifCond .le 22, 3) := by decide +kernel
theorem dL_keeps_2228 : decode cL_keeps 2228 = .ok (.aload_n 0, 1) := by decide +kernel
theorem dL_keeps_2229 : decode cL_keeps 2229 = .ok (.iload 16, 2) := by decide +kernel
theorem dL_keeps_2231 : decode cL_keeps 2231 = .ok (.iload 17, 2) := by decide +kernel
theorem dL_keeps_2233 : decode cL_keeps 2233 = .ok (.invokestatic 218, 3) := by decide +kernel
theorem dL_keeps_2236 : decode cL_keeps 2236 = .ok (.bipush (-73), 2) := by decide +kernel
theorem dL_keeps_2238 : decode cL_keeps 2238 = .ok (.if_icmp .ne 7, 3) := by decide +kernel
theorem dL_keeps_2241 : decode cL_keeps 2241 = .ok (.iconst 1, 1) := by decide +kernel
theorem dL_keeps_2242 : decode cL_keeps 2242 = .ok (.goto 4, 3) := by decide +kernel
theorem dL_keeps_2245 : decode cL_keeps 2245 = .ok (.iconst 0, 1) := by decide +kernel
theorem dL_keeps_2246 : decode cL_keeps 2246 = .ok (.ireturn, 1) := by decide +kernel
theorem dL_keeps_2247 : decode cL_keeps 2247 = .ok (.aload 5, 2) := by decide +kernel
theorem dL_keeps_2249 : decode cL_keeps 2249 = .ok (.iload 14, 2) := by decide +kernel
theorem dL_keeps_2251 : decode cL_keeps 2251 = .ok (.iconst 1, 1) := by decide +kernel
theorem dL_keeps_2252 : decode cL_keeps 2252 = .ok (.aload_n 3, 1) := by decide +kernel
theorem dL_keeps_2253 : decode cL_keeps 2253 = .ok (.aload 5, 2) := by decide +kernel
theorem dL_keeps_2255 : decode cL_keeps 2255 = .ok (.iload 16, 2) := by decide +kernel
theorem dL_keeps_2257 : decode cL_keeps 2257 = .ok (.iaload, 1) := by decide +kernel
theorem dL_keeps_2258 : decode cL_keeps 2258 = .ok (.iconst 1, 1) := by decide +kernel
theorem dL_keeps_2259 : decode cL_keeps 2259 = .ok (.isub, 1) := by decide +kernel
theorem dL_keeps_2260 : decode cL_keeps 2260 = .ok (.iload 17, 2) := by decide +kernel
theorem dL_keeps_2262 : decode cL_keeps 2262 = .ok (.invokestatic 93, 3) := by decide +kernel
theorem dL_keeps_2265 : decode cL_keeps 2265 = .ok (.iaload, 1) := by decide +kernel
theorem dL_keeps_2266 : decode cL_keeps 2266 = .ok (.bipush 8, 2) := by decide +kernel
theorem dL_keeps_2268 : decode cL_keeps 2268 = .ok (.idiv, 1) := by decide +kernel
theorem dL_keeps_2269 : decode cL_keeps 2269 = .ok (.iadd, 1) := by decide +kernel
theorem dL_keeps_2270 : decode cL_keeps 2270 = .ok (.iastore, 1) := by decide +kernel
theorem dL_keeps_2271 : decode cL_keeps 2271 = .ok (.aload_n 0, 1) := by decide +kernel
theorem dL_keeps_2272 : decode cL_keeps 2272 = .ok (.iload 16, 2) := by decide +kernel
theorem dL_keeps_2274 : decode cL_keeps 2274 = .ok (.iload 17, 2) := by decide +kernel
theorem dL_keeps_2276 : decode cL_keeps 2276 = .ok (.invokestatic 218, 3) := by decide +kernel
theorem dL_keeps_2279 : decode cL_keeps 2279 = .ok (.iload 14, 2) := by decide +kernel
theorem dL_keeps_2281 : decode cL_keeps 2281 = .ok (.if_icmp .ne 7, 3) := by decide +kernel
theorem dL_keeps_2284 : decode cL_keeps 2284 = .ok (.iconst 1, 1) := by decide +kernel
theorem dL_keeps_2285 : decode cL_keeps 2285 = .ok (.goto 4, 3) := by decide +kernel
theorem dL_keeps_2288 : decode cL_keeps 2288 = .ok (.iconst 0, 1) := by decide +kernel
theorem dL_keeps_2289 : decode cL_keeps 2289 = .ok (.ireturn, 1) := by decide +kernel
