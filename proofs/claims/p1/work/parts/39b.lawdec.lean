theorem d_L_1354 : decode code 1354 = .ok (.aload_n 0, 1) := by decide +kernel
theorem d_L_1355 : decode code 1355 = .ok (.iload 4, 2) := by decide +kernel
theorem d_L_1357 : decode code 1357 = .ok (.iconst 1, 1) := by decide +kernel
theorem d_L_1358 : decode code 1358 = .ok (.iadd, 1) := by decide +kernel
theorem d_L_1359 : decode code 1359 = .ok (.iaload, 1) := by decide +kernel
theorem d_L_1360 : decode code 1360 = .ok (.aload_n 0, 1) := by decide +kernel
theorem d_L_1361 : decode code 1361 = .ok (.iload 4, 2) := by decide +kernel
theorem d_L_1363 : decode code 1363 = .ok (.iconst 2, 1) := by decide +kernel
theorem d_L_1364 : decode code 1364 = .ok (.iadd, 1) := by decide +kernel
theorem d_L_1365 : decode code 1365 = .ok (.iaload, 1) := by decide +kernel
theorem d_L_1366 : decode code 1366 = .ok (.aload_n 0, 1) := by decide +kernel
theorem d_L_1367 : decode code 1367 = .ok (.iload 4, 2) := by decide +kernel
theorem d_L_1369 : decode code 1369 = .ok (.iconst 3, 1) := by decide +kernel
theorem d_L_1370 : decode code 1370 = .ok (.iadd, 1) := by decide +kernel
theorem d_L_1371 : decode code 1371 = .ok (.iaload, 1) := by decide +kernel
theorem d_L_1372 : decode code 1372 = .ok (.aload_n 0, 1) := by decide +kernel
theorem d_L_1373 : decode code 1373 = .ok (.iload 4, 2) := by decide +kernel
theorem d_L_1375 : decode code 1375 = .ok (.iconst 4, 1) := by decide +kernel
theorem d_L_1376 : decode code 1376 = .ok (.iadd, 1) := by decide +kernel
theorem d_L_1377 : decode code 1377 = .ok (.iaload, 1) := by decide +kernel
theorem d_L_1378 : decode code 1378 = .ok (.ifCond .eq 7, 3) := by decide +kernel
theorem d_L_1381 : decode code 1381 = .ok (.iconst 1, 1) := by decide +kernel
theorem d_L_1382 : decode code 1382 = .ok (.goto 4, 3) := by decide +kernel
theorem d_L_1385 : decode code 1385 = .ok (.iconst 0, 1) := by decide +kernel
theorem d_L_1386 : decode code 1386 = .ok (.invokevirtual 140, 3) := by decide +kernel
theorem d_L_1389 : decode code 1389 = .ok (.if_icmp .eq 1045, 3) := by decide +kernel
theorem d_L_1392 : decode code 1392 = .ok (.iconst 0, 1) := by decide +kernel
theorem d_L_1393 : decode code 1393 = .ok (.ireturn, 1) := by decide +kernel
theorem d_L_1394 : decode code 1394 = .ok (.aload_n 1, 1) := by decide +kernel
theorem d_L_1395 : decode code 1395 = .ok (.aload_n 0, 1) := by decide +kernel
theorem d_L_1396 : decode code 1396 = .ok (.iload 4, 2) := by decide +kernel
theorem d_L_1398 : decode code 1398 = .ok (.iconst 1, 1) := by decide +kernel
theorem d_L_1399 : decode code 1399 = .ok (.iadd, 1) := by decide +kernel
theorem d_L_1400 : decode code 1400 = .ok (.iaload, 1) := by decide +kernel
theorem d_L_1401 : decode code 1401 = .ok (.invokevirtual 141, 3) := by decide +kernel
theorem d_L_1404 : decode code 1404 = .ok (.aload_n 2, 1) := by decide +kernel
theorem d_L_1405 : decode code 1405 = .ok (.aload_n 0, 1) := by decide +kernel
theorem d_L_1406 : decode code 1406 = .ok (.iload 4, 2) := by decide +kernel
theorem d_L_1408 : decode code 1408 = .ok (.iconst 1, 1) := by decide +kernel
theorem d_L_1409 : decode code 1409 = .ok (.iadd, 1) := by decide +kernel
theorem d_L_1410 : decode code 1410 = .ok (.iaload, 1) := by decide +kernel
theorem d_L_1411 : decode code 1411 = .ok (.invokevirtual 144, 3) := by decide +kernel
theorem d_L_1414 : decode code 1414 = .ok (.if_icmp .eq 1020, 3) := by decide +kernel
theorem d_L_1417 : decode code 1417 = .ok (.iconst 0, 1) := by decide +kernel
theorem d_L_1418 : decode code 1418 = .ok (.ireturn, 1) := by decide +kernel
theorem d_L_1419 : decode code 1419 = .ok (.aload_n 1, 1) := by decide +kernel
theorem d_L_1420 : decode code 1420 = .ok (.aload_n 0, 1) := by decide +kernel
theorem d_L_1421 : decode code 1421 = .ok (.iload 4, 2) := by decide +kernel
theorem d_L_1423 : decode code 1423 = .ok (.iconst 1, 1) := by decide +kernel
theorem d_L_1424 : decode code 1424 = .ok (.iadd, 1) := by decide +kernel
theorem d_L_1425 : decode code 1425 = .ok (.iaload, 1) := by decide +kernel
theorem d_L_1426 : decode code 1426 = .ok (.aload_n 0, 1) := by decide +kernel
theorem d_L_1427 : decode code 1427 = .ok (.iload 4, 2) := by decide +kernel
theorem d_L_1429 : decode code 1429 = .ok (.iconst 2, 1) := by decide +kernel
theorem d_L_1430 : decode code 1430 = .ok (.iadd, 1) := by decide +kernel
theorem d_L_1431 : decode code 1431 = .ok (.iaload, 1) := by decide +kernel
theorem d_L_1432 : decode code 1432 = .ok (.aload_n 0, 1) := by decide +kernel
theorem d_L_1433 : decode code 1433 = .ok (.iload 4, 2) := by decide +kernel
theorem d_L_1435 : decode code 1435 = .ok (.iconst 3, 1) := by decide +kernel
theorem d_L_1436 : decode code 1436 = .ok (.iadd, 1) := by decide +kernel
theorem d_L_1437 : decode code 1437 = .ok (.iaload, 1) := by decide +kernel
theorem d_L_1438 : decode code 1438 = .ok (.invokevirtual 145, 3) := by decide +kernel
theorem d_L_1441 : decode code 1441 = .ok (.aload_n 2, 1) := by decide +kernel
theorem d_L_1442 : decode code 1442 = .ok (.aload_n 0, 1) := by decide +kernel
theorem d_L_1443 : decode code 1443 = .ok (.iload 4, 2) := by decide +kernel
theorem d_L_1445 : decode code 1445 = .ok (.iconst 1, 1) := by decide +kernel
theorem d_L_1446 : decode code 1446 = .ok (.iadd, 1) := by decide +kernel
theorem d_L_1447 : decode code 1447 = .ok (.iaload, 1) := by decide +kernel
theorem d_L_1448 : decode code 1448 = .ok (.aload_n 0, 1) := by decide +kernel
theorem d_L_1449 : decode code 1449 = .ok (.iload 4, 2) := by decide +kernel
theorem d_L_1451 : decode code 1451 = .ok (.iconst 2, 1) := by decide +kernel
theorem d_L_1452 : decode code 1452 = .ok (.iadd, 1) := by decide +kernel
theorem d_L_1453 : decode code 1453 = .ok (.iaload, 1) := by decide +kernel
theorem d_L_1454 : decode code 1454 = .ok (.aload_n 0, 1) := by decide +kernel
theorem d_L_1455 : decode code 1455 = .ok (.iload 4, 2) := by decide +kernel
theorem d_L_1457 : decode code 1457 = .ok (.iconst 3, 1) := by decide +kernel
theorem d_L_1458 : decode code 1458 = .ok (.iadd, 1) := by decide +kernel
theorem d_L_1459 : decode code 1459 = .ok (.iaload, 1) := by decide +kernel
theorem d_L_1460 : decode code 1460 = .ok (.invokevirtual 148, 3) := by decide +kernel
theorem d_L_1463 : decode code 1463 = .ok (.if_icmp .eq 971, 3) := by decide +kernel
theorem d_L_1466 : decode code 1466 = .ok (.iconst 0, 1) := by decide +kernel
theorem d_L_1467 : decode code 1467 = .ok (.ireturn, 1) := by decide +kernel
theorem d_L_1468 : decode code 1468 = .ok (.aload_n 1, 1) := by decide +kernel
theorem d_L_1469 : decode code 1469 = .ok (.aload_n 0, 1) := by decide +kernel
theorem d_L_1470 : decode code 1470 = .ok (.iload 4, 2) := by decide +kernel
theorem d_L_1472 : decode code 1472 = .ok (.iconst 1, 1) := by decide +kernel
theorem d_L_1473 : decode code 1473 = .ok (.iadd, 1) := by decide +kernel
theorem d_L_1474 : decode code 1474 = .ok (.iaload, 1) := by decide +kernel
theorem d_L_1475 : decode code 1475 = .ok (.aload_n 0, 1) := by decide +kernel
theorem d_L_1476 : decode code 1476 = .ok (.iload 4, 2) := by decide +kernel
theorem d_L_1478 : decode code 1478 = .ok (.iconst 2, 1) := by decide +kernel
theorem d_L_1479 : decode code 1479 = .ok (.iadd, 1) := by decide +kernel
theorem d_L_1480 : decode code 1480 = .ok (.iaload, 1) := by decide +kernel
theorem d_L_1481 : decode code 1481 = .ok (.aload_n 0, 1) := by decide +kernel
theorem d_L_1482 : decode code 1482 = .ok (.iload 4, 2) := by decide +kernel
theorem d_L_1484 : decode code 1484 = .ok (.iconst 3, 1) := by decide +kernel
theorem d_L_1485 : decode code 1485 = .ok (.iadd, 1) := by decide +kernel
theorem d_L_1486 : decode code 1486 = .ok (.iaload, 1) := by decide +kernel
theorem d_L_1487 : decode code 1487 = .ok (.invokevirtual 149, 3) := by decide +kernel
theorem d_L_1490 : decode code 1490 = .ok (.aload_n 2, 1) := by decide +kernel
theorem d_L_1491 : decode code 1491 = .ok (.aload_n 0, 1) := by decide +kernel
theorem d_L_1492 : decode code 1492 = .ok (.iload 4, 2) := by decide +kernel
theorem d_L_1494 : decode code 1494 = .ok (.iconst 1, 1) := by decide +kernel
theorem d_L_1495 : decode code 1495 = .ok (.iadd, 1) := by decide +kernel
theorem d_L_1496 : decode code 1496 = .ok (.iaload, 1) := by decide +kernel
theorem d_L_1497 : decode code 1497 = .ok (.aload_n 0, 1) := by decide +kernel
theorem d_L_1498 : decode code 1498 = .ok (.iload 4, 2) := by decide +kernel
theorem d_L_1500 : decode code 1500 = .ok (.iconst 2, 1) := by decide +kernel
theorem d_L_1501 : decode code 1501 = .ok (.iadd, 1) := by decide +kernel
theorem d_L_1502 : decode code 1502 = .ok (.iaload, 1) := by decide +kernel
theorem d_L_1503 : decode code 1503 = .ok (.aload_n 0, 1) := by decide +kernel
theorem d_L_1504 : decode code 1504 = .ok (.iload 4, 2) := by decide +kernel
theorem d_L_1506 : decode code 1506 = .ok (.iconst 3, 1) := by decide +kernel
theorem d_L_1507 : decode code 1507 = .ok (.iadd, 1) := by decide +kernel
theorem d_L_1508 : decode code 1508 = .ok (.iaload, 1) := by decide +kernel
theorem d_L_1509 : decode code 1509 = .ok (.invokevirtual 152, 3) := by decide +kernel
theorem d_L_1512 : decode code 1512 = .ok (.if_icmp .eq 922, 3) := by decide +kernel
theorem d_L_1515 : decode code 1515 = .ok (.iconst 0, 1) := by decide +kernel
theorem d_L_1516 : decode code 1516 = .ok (.ireturn, 1) := by decide +kernel
theorem d_L_1517 : decode code 1517 = .ok (.aload_n 1, 1) := by decide +kernel
theorem d_L_1518 : decode code 1518 = .ok (.aload_n 0, 1) := by decide +kernel
theorem d_L_1519 : decode code 1519 = .ok (.iload 4, 2) := by decide +kernel
theorem d_L_1521 : decode code 1521 = .ok (.iconst 1, 1) := by decide +kernel
theorem d_L_1522 : decode code 1522 = .ok (.iadd, 1) := by decide +kernel
theorem d_L_1523 : decode code 1523 = .ok (.iaload, 1) := by decide +kernel
theorem d_L_1524 : decode code 1524 = .ok (.aload_n 0, 1) := by decide +kernel
theorem d_L_1525 : decode code 1525 = .ok (.iload 4, 2) := by decide +kernel
theorem d_L_1527 : decode code 1527 = .ok (.iconst 2, 1) := by decide +kernel
theorem d_L_1528 : decode code 1528 = .ok (.iadd, 1) := by decide +kernel
theorem d_L_1529 : decode code 1529 = .ok (.iaload, 1) := by decide +kernel
theorem d_L_1530 : decode code 1530 = .ok (.aload_n 0, 1) := by decide +kernel
theorem d_L_1531 : decode code 1531 = .ok (.iload 4, 2) := by decide +kernel
theorem d_L_1533 : decode code 1533 = .ok (.iconst 3, 1) := by decide +kernel
theorem d_L_1534 : decode code 1534 = .ok (.iadd, 1) := by decide +kernel
theorem d_L_1535 : decode code 1535 = .ok (.iaload, 1) := by decide +kernel
theorem d_L_1536 : decode code 1536 = .ok (.invokevirtual 153, 3) := by decide +kernel
theorem d_L_1539 : decode code 1539 = .ok (.aload_n 2, 1) := by decide +kernel
theorem d_L_1540 : decode code 1540 = .ok (.aload_n 0, 1) := by decide +kernel
theorem d_L_1541 : decode code 1541 = .ok (.iload 4, 2) := by decide +kernel
theorem d_L_1543 : decode code 1543 = .ok (.iconst 1, 1) := by decide +kernel
theorem d_L_1544 : decode code 1544 = .ok (.iadd, 1) := by decide +kernel
theorem d_L_1545 : decode code 1545 = .ok (.iaload, 1) := by decide +kernel
theorem d_L_1546 : decode code 1546 = .ok (.aload_n 0, 1) := by decide +kernel
theorem d_L_1547 : decode code 1547 = .ok (.iload 4, 2) := by decide +kernel
theorem d_L_1549 : decode code 1549 = .ok (.iconst 2, 1) := by decide +kernel
theorem d_L_1550 : decode code 1550 = .ok (.iadd, 1) := by decide +kernel
theorem d_L_1551 : decode code 1551 = .ok (.iaload, 1) := by decide +kernel
theorem d_L_1552 : decode code 1552 = .ok (.aload_n 0, 1) := by decide +kernel
theorem d_L_1553 : decode code 1553 = .ok (.iload 4, 2) := by decide +kernel
theorem d_L_1555 : decode code 1555 = .ok (.iconst 3, 1) := by decide +kernel
theorem d_L_1556 : decode code 1556 = .ok (.iadd, 1) := by decide +kernel
theorem d_L_1557 : decode code 1557 = .ok (.iaload, 1) := by decide +kernel
theorem d_L_1558 : decode code 1558 = .ok (.invokevirtual 156, 3) := by decide +kernel
theorem d_L_1561 : decode code 1561 = .ok (.if_icmp .eq 873, 3) := by decide +kernel
theorem d_L_1564 : decode code 1564 = .ok (.iconst 0, 1) := by decide +kernel
theorem d_L_1565 : decode code 1565 = .ok (.ireturn, 1) := by decide +kernel
theorem d_L_1566 : decode code 1566 = .ok (.aload_n 1, 1) := by decide +kernel
theorem d_L_1567 : decode code 1567 = .ok (.aload_n 0, 1) := by decide +kernel
theorem d_L_1568 : decode code 1568 = .ok (.iload 4, 2) := by decide +kernel
theorem d_L_1570 : decode code 1570 = .ok (.iconst 1, 1) := by decide +kernel
theorem d_L_1571 : decode code 1571 = .ok (.iadd, 1) := by decide +kernel
theorem d_L_1572 : decode code 1572 = .ok (.iaload, 1) := by decide +kernel
theorem d_L_1573 : decode code 1573 = .ok (.invokevirtual 157, 3) := by decide +kernel
theorem d_L_1576 : decode code 1576 = .ok (.aload_n 2, 1) := by decide +kernel
theorem d_L_1577 : decode code 1577 = .ok (.aload_n 0, 1) := by decide +kernel
theorem d_L_1578 : decode code 1578 = .ok (.iload 4, 2) := by decide +kernel
theorem d_L_1580 : decode code 1580 = .ok (.iconst 1, 1) := by decide +kernel
theorem d_L_1581 : decode code 1581 = .ok (.iadd, 1) := by decide +kernel
theorem d_L_1582 : decode code 1582 = .ok (.iaload, 1) := by decide +kernel
theorem d_L_1583 : decode code 1583 = .ok (.invokevirtual 160, 3) := by decide +kernel
theorem d_L_1586 : decode code 1586 = .ok (.if_icmp .eq 848, 3) := by decide +kernel
theorem d_L_1589 : decode code 1589 = .ok (.iconst 0, 1) := by decide +kernel
theorem d_L_1590 : decode code 1590 = .ok (.ireturn, 1) := by decide +kernel
theorem d_L_1591 : decode code 1591 = .ok (.aload_n 1, 1) := by decide +kernel
theorem d_L_1592 : decode code 1592 = .ok (.aload_n 0, 1) := by decide +kernel
theorem d_L_1593 : decode code 1593 = .ok (.iload 4, 2) := by decide +kernel
theorem d_L_1595 : decode code 1595 = .ok (.iconst 1, 1) := by decide +kernel
theorem d_L_1596 : decode code 1596 = .ok (.iadd, 1) := by decide +kernel
theorem d_L_1597 : decode code 1597 = .ok (.iaload, 1) := by decide +kernel
theorem d_L_1598 : decode code 1598 = .ok (.ifCond .eq 7, 3) := by decide +kernel
theorem d_L_1601 : decode code 1601 = .ok (.iconst 1, 1) := by decide +kernel
theorem d_L_1602 : decode code 1602 = .ok (.goto 4, 3) := by decide +kernel
theorem d_L_1605 : decode code 1605 = .ok (.iconst 0, 1) := by decide +kernel
theorem d_L_1606 : decode code 1606 = .ok (.aload_n 0, 1) := by decide +kernel
theorem d_L_1607 : decode code 1607 = .ok (.iload 4, 2) := by decide +kernel
theorem d_L_1609 : decode code 1609 = .ok (.iconst 2, 1) := by decide +kernel
theorem d_L_1610 : decode code 1610 = .ok (.iadd, 1) := by decide +kernel
theorem d_L_1611 : decode code 1611 = .ok (.iaload, 1) := by decide +kernel
theorem d_L_1612 : decode code 1612 = .ok (.invokevirtual 161, 3) := by decide +kernel
theorem d_L_1615 : decode code 1615 = .ok (.aload_n 2, 1) := by decide +kernel
theorem d_L_1616 : decode code 1616 = .ok (.aload_n 0, 1) := by decide +kernel
theorem d_L_1617 : decode code 1617 = .ok (.iload 4, 2) := by decide +kernel
theorem d_L_1619 : decode code 1619 = .ok (.iconst 1, 1) := by decide +kernel
theorem d_L_1620 : decode code 1620 = .ok (.iadd, 1) := by decide +kernel
theorem d_L_1621 : decode code 1621 = .ok (.iaload, 1) := by decide +kernel
theorem d_L_1622 : decode code 1622 = .ok (.ifCond .eq 7, 3) := by decide +kernel
theorem d_L_1625 : decode code 1625 = .ok (.iconst 1, 1) := by decide +kernel
theorem d_L_1626 : decode code 1626 = .ok (.goto 4, 3) := by decide +kernel
theorem d_L_1629 : decode code 1629 = .ok (.iconst 0, 1) := by decide +kernel
theorem d_L_1630 : decode code 1630 = .ok (.aload_n 0, 1) := by decide +kernel
theorem d_L_1631 : decode code 1631 = .ok (.iload 4, 2) := by decide +kernel
theorem d_L_1633 : decode code 1633 = .ok (.iconst 2, 1) := by decide +kernel
theorem d_L_1634 : decode code 1634 = .ok (.iadd, 1) := by decide +kernel
theorem d_L_1635 : decode code 1635 = .ok (.iaload, 1) := by decide +kernel
theorem d_L_1636 : decode code 1636 = .ok (.invokevirtual 165, 3) := by decide +kernel
theorem d_L_1639 : decode code 1639 = .ok (.if_icmp .eq 795, 3) := by decide +kernel
theorem d_L_1642 : decode code 1642 = .ok (.iconst 0, 1) := by decide +kernel
theorem d_L_1643 : decode code 1643 = .ok (.ireturn, 1) := by decide +kernel
theorem d_L_1644 : decode code 1644 = .ok (.aload_n 1, 1) := by decide +kernel
theorem d_L_1645 : decode code 1645 = .ok (.aload_n 0, 1) := by decide +kernel
theorem d_L_1646 : decode code 1646 = .ok (.iload 4, 2) := by decide +kernel
theorem d_L_1648 : decode code 1648 = .ok (.iconst 1, 1) := by decide +kernel
theorem d_L_1649 : decode code 1649 = .ok (.iadd, 1) := by decide +kernel
theorem d_L_1650 : decode code 1650 = .ok (.iaload, 1) := by decide +kernel
theorem d_L_1651 : decode code 1651 = .ok (.invokevirtual 166, 3) := by decide +kernel
theorem d_L_1654 : decode code 1654 = .ok (.aload_n 2, 1) := by decide +kernel
theorem d_L_1655 : decode code 1655 = .ok (.aload_n 0, 1) := by decide +kernel
theorem d_L_1656 : decode code 1656 = .ok (.iload 4, 2) := by decide +kernel
theorem d_L_1658 : decode code 1658 = .ok (.iconst 1, 1) := by decide +kernel
theorem d_L_1659 : decode code 1659 = .ok (.iadd, 1) := by decide +kernel
theorem d_L_1660 : decode code 1660 = .ok (.iaload, 1) := by decide +kernel
theorem d_L_1661 : decode code 1661 = .ok (.invokevirtual 169, 3) := by decide +kernel
theorem d_L_1664 : decode code 1664 = .ok (.if_icmp .eq 770, 3) := by decide +kernel
theorem d_L_1667 : decode code 1667 = .ok (.iconst 0, 1) := by decide +kernel
theorem d_L_1668 : decode code 1668 = .ok (.ireturn, 1) := by decide +kernel
theorem d_L_1669 : decode code 1669 = .ok (.aload_n 1, 1) := by decide +kernel
theorem d_L_1670 : decode code 1670 = .ok (.invokevirtual 170, 3) := by decide +kernel
theorem d_L_1673 : decode code 1673 = .ok (.aload_n 2, 1) := by decide +kernel
theorem d_L_1674 : decode code 1674 = .ok (.invokevirtual 173, 3) := by decide +kernel
theorem d_L_1677 : decode code 1677 = .ok (.if_icmp .eq 757, 3) := by decide +kernel
theorem d_L_1680 : decode code 1680 = .ok (.iconst 0, 1) := by decide +kernel
theorem d_L_1681 : decode code 1681 = .ok (.ireturn, 1) := by decide +kernel
theorem d_L_1682 : decode code 1682 = .ok (.aload_n 1, 1) := by decide +kernel
theorem d_L_1683 : decode code 1683 = .ok (.aload_n 0, 1) := by decide +kernel
theorem d_L_1684 : decode code 1684 = .ok (.iload 4, 2) := by decide +kernel
theorem d_L_1686 : decode code 1686 = .ok (.iconst 1, 1) := by decide +kernel
theorem d_L_1687 : decode code 1687 = .ok (.iadd, 1) := by decide +kernel
theorem d_L_1688 : decode code 1688 = .ok (.iaload, 1) := by decide +kernel
theorem d_L_1689 : decode code 1689 = .ok (.invokevirtual 174, 3) := by decide +kernel
theorem d_L_1692 : decode code 1692 = .ok (.aload_n 2, 1) := by decide +kernel
theorem d_L_1693 : decode code 1693 = .ok (.aload_n 0, 1) := by decide +kernel
theorem d_L_1694 : decode code 1694 = .ok (.iload 4, 2) := by decide +kernel
theorem d_L_1696 : decode code 1696 = .ok (.iconst 1, 1) := by decide +kernel
theorem d_L_1697 : decode code 1697 = .ok (.iadd, 1) := by decide +kernel
theorem d_L_1698 : decode code 1698 = .ok (.iaload, 1) := by decide +kernel
theorem d_L_1699 : decode code 1699 = .ok (.invokevirtual 177, 3) := by decide +kernel
theorem d_L_1702 : decode code 1702 = .ok (.if_icmp .eq 732, 3) := by decide +kernel
theorem d_L_1705 : decode code 1705 = .ok (.iconst 0, 1) := by decide +kernel
theorem d_L_1706 : decode code 1706 = .ok (.ireturn, 1) := by decide +kernel
theorem d_L_1707 : decode code 1707 = .ok (.aload_n 1, 1) := by decide +kernel
theorem d_L_1708 : decode code 1708 = .ok (.aload_n 0, 1) := by decide +kernel
theorem d_L_1709 : decode code 1709 = .ok (.iload 4, 2) := by decide +kernel
theorem d_L_1711 : decode code 1711 = .ok (.iconst 1, 1) := by decide +kernel
theorem d_L_1712 : decode code 1712 = .ok (.iadd, 1) := by decide +kernel
theorem d_L_1713 : decode code 1713 = .ok (.iaload, 1) := by decide +kernel
theorem d_L_1714 : decode code 1714 = .ok (.invokevirtual 178, 3) := by decide +kernel
theorem d_L_1717 : decode code 1717 = .ok (.aload_n 2, 1) := by decide +kernel
theorem d_L_1718 : decode code 1718 = .ok (.aload_n 0, 1) := by decide +kernel
theorem d_L_1719 : decode code 1719 = .ok (.iload 4, 2) := by decide +kernel
theorem d_L_1721 : decode code 1721 = .ok (.iconst 1, 1) := by decide +kernel
theorem d_L_1722 : decode code 1722 = .ok (.iadd, 1) := by decide +kernel
theorem d_L_1723 : decode code 1723 = .ok (.iaload, 1) := by decide +kernel
theorem d_L_1724 : decode code 1724 = .ok (.invokevirtual 181, 3) := by decide +kernel
theorem d_L_1727 : decode code 1727 = .ok (.if_icmp .eq 707, 3) := by decide +kernel
theorem d_L_1730 : decode code 1730 = .ok (.iconst 0, 1) := by decide +kernel
theorem d_L_1731 : decode code 1731 = .ok (.ireturn, 1) := by decide +kernel
theorem d_L_1732 : decode code 1732 = .ok (.aload_n 1, 1) := by decide +kernel
theorem d_L_1733 : decode code 1733 = .ok (.aload_n 0, 1) := by decide +kernel
theorem d_L_1734 : decode code 1734 = .ok (.iload 4, 2) := by decide +kernel
theorem d_L_1736 : decode code 1736 = .ok (.iconst 1, 1) := by decide +kernel
theorem d_L_1737 : decode code 1737 = .ok (.iadd, 1) := by decide +kernel
theorem d_L_1738 : decode code 1738 = .ok (.iaload, 1) := by decide +kernel
theorem d_L_1739 : decode code 1739 = .ok (.invokevirtual 182, 3) := by decide +kernel
theorem d_L_1742 : decode code 1742 = .ok (.aload_n 2, 1) := by decide +kernel
theorem d_L_1743 : decode code 1743 = .ok (.aload_n 0, 1) := by decide +kernel
theorem d_L_1744 : decode code 1744 = .ok (.iload 4, 2) := by decide +kernel
theorem d_L_1746 : decode code 1746 = .ok (.iconst 1, 1) := by decide +kernel
theorem d_L_1747 : decode code 1747 = .ok (.iadd, 1) := by decide +kernel
theorem d_L_1748 : decode code 1748 = .ok (.iaload, 1) := by decide +kernel
theorem d_L_1749 : decode code 1749 = .ok (.invokevirtual 185, 3) := by decide +kernel
theorem d_L_1752 : decode code 1752 = .ok (.if_icmp .eq 682, 3) := by decide +kernel
theorem d_L_1755 : decode code 1755 = .ok (.iconst 0, 1) := by decide +kernel
theorem d_L_1756 : decode code 1756 = .ok (.ireturn, 1) := by decide +kernel
theorem d_L_1757 : decode code 1757 = .ok (.aload_n 1, 1) := by decide +kernel
theorem d_L_1758 : decode code 1758 = .ok (.aload_n 0, 1) := by decide +kernel
theorem d_L_1759 : decode code 1759 = .ok (.iload 4, 2) := by decide +kernel
theorem d_L_1761 : decode code 1761 = .ok (.iconst 1, 1) := by decide +kernel
theorem d_L_1762 : decode code 1762 = .ok (.iadd, 1) := by decide +kernel
theorem d_L_1763 : decode code 1763 = .ok (.iaload, 1) := by decide +kernel
theorem d_L_1764 : decode code 1764 = .ok (.aload_n 0, 1) := by decide +kernel
theorem d_L_1765 : decode code 1765 = .ok (.iload 4, 2) := by decide +kernel
theorem d_L_1767 : decode code 1767 = .ok (.iconst 2, 1) := by decide +kernel
theorem d_L_1768 : decode code 1768 = .ok (.iadd, 1) := by decide +kernel
theorem d_L_1769 : decode code 1769 = .ok (.iaload, 1) := by decide +kernel
theorem d_L_1770 : decode code 1770 = .ok (.aload_n 0, 1) := by decide +kernel
theorem d_L_1771 : decode code 1771 = .ok (.iload 4, 2) := by decide +kernel
theorem d_L_1773 : decode code 1773 = .ok (.iconst 3, 1) := by decide +kernel
theorem d_L_1774 : decode code 1774 = .ok (.iadd, 1) := by decide +kernel
theorem d_L_1775 : decode code 1775 = .ok (.iaload, 1) := by decide +kernel
theorem d_L_1776 : decode code 1776 = .ok (.invokevirtual 186, 3) := by decide +kernel
theorem d_L_1779 : decode code 1779 = .ok (.aload_n 2, 1) := by decide +kernel
theorem d_L_1780 : decode code 1780 = .ok (.aload_n 0, 1) := by decide +kernel
theorem d_L_1781 : decode code 1781 = .ok (.iload 4, 2) := by decide +kernel
theorem d_L_1783 : decode code 1783 = .ok (.iconst 1, 1) := by decide +kernel
theorem d_L_1784 : decode code 1784 = .ok (.iadd, 1) := by decide +kernel
theorem d_L_1785 : decode code 1785 = .ok (.iaload, 1) := by decide +kernel
theorem d_L_1786 : decode code 1786 = .ok (.aload_n 0, 1) := by decide +kernel
theorem d_L_1787 : decode code 1787 = .ok (.iload 4, 2) := by decide +kernel
theorem d_L_1789 : decode code 1789 = .ok (.iconst 2, 1) := by decide +kernel
theorem d_L_1790 : decode code 1790 = .ok (.iadd, 1) := by decide +kernel
theorem d_L_1791 : decode code 1791 = .ok (.iaload, 1) := by decide +kernel
theorem d_L_1792 : decode code 1792 = .ok (.aload_n 0, 1) := by decide +kernel
theorem d_L_1793 : decode code 1793 = .ok (.iload 4, 2) := by decide +kernel
theorem d_L_1795 : decode code 1795 = .ok (.iconst 3, 1) := by decide +kernel
theorem d_L_1796 : decode code 1796 = .ok (.iadd, 1) := by decide +kernel
theorem d_L_1797 : decode code 1797 = .ok (.iaload, 1) := by decide +kernel
theorem d_L_1798 : decode code 1798 = .ok (.invokevirtual 189, 3) := by decide +kernel
theorem d_L_1801 : decode code 1801 = .ok (.if_icmp .eq 633, 3) := by decide +kernel
theorem d_L_1804 : decode code 1804 = .ok (.iconst 0, 1) := by decide +kernel
theorem d_L_1805 : decode code 1805 = .ok (.ireturn, 1) := by decide +kernel
theorem d_L_1806 : decode code 1806 = .ok (.aload_n 1, 1) := by decide +kernel
theorem d_L_1807 : decode code 1807 = .ok (.aload_n 0, 1) := by decide +kernel
theorem d_L_1808 : decode code 1808 = .ok (.iload 4, 2) := by decide +kernel
theorem d_L_1810 : decode code 1810 = .ok (.iconst 1, 1) := by decide +kernel
theorem d_L_1811 : decode code 1811 = .ok (.iadd, 1) := by decide +kernel
theorem d_L_1812 : decode code 1812 = .ok (.iaload, 1) := by decide +kernel
theorem d_L_1813 : decode code 1813 = .ok (.aload_n 0, 1) := by decide +kernel
theorem d_L_1814 : decode code 1814 = .ok (.iload 4, 2) := by decide +kernel
theorem d_L_1816 : decode code 1816 = .ok (.iconst 2, 1) := by decide +kernel
theorem d_L_1817 : decode code 1817 = .ok (.iadd, 1) := by decide +kernel
theorem d_L_1818 : decode code 1818 = .ok (.iaload, 1) := by decide +kernel
theorem d_L_1819 : decode code 1819 = .ok (.invokevirtual 190, 3) := by decide +kernel
theorem d_L_1822 : decode code 1822 = .ok (.aload_n 2, 1) := by decide +kernel
theorem d_L_1823 : decode code 1823 = .ok (.aload_n 0, 1) := by decide +kernel
theorem d_L_1824 : decode code 1824 = .ok (.iload 4, 2) := by decide +kernel
theorem d_L_1826 : decode code 1826 = .ok (.iconst 1, 1) := by decide +kernel
theorem d_L_1827 : decode code 1827 = .ok (.iadd, 1) := by decide +kernel
theorem d_L_1828 : decode code 1828 = .ok (.iaload, 1) := by decide +kernel
theorem d_L_1829 : decode code 1829 = .ok (.aload_n 0, 1) := by decide +kernel
theorem d_L_1830 : decode code 1830 = .ok (.iload 4, 2) := by decide +kernel
theorem d_L_1832 : decode code 1832 = .ok (.iconst 2, 1) := by decide +kernel
theorem d_L_1833 : decode code 1833 = .ok (.iadd, 1) := by decide +kernel
theorem d_L_1834 : decode code 1834 = .ok (.iaload, 1) := by decide +kernel
theorem d_L_1835 : decode code 1835 = .ok (.invokevirtual 193, 3) := by decide +kernel
theorem d_L_1838 : decode code 1838 = .ok (.if_icmp .eq 596, 3) := by decide +kernel
theorem d_L_1841 : decode code 1841 = .ok (.iconst 0, 1) := by decide +kernel
theorem d_L_1842 : decode code 1842 = .ok (.ireturn, 1) := by decide +kernel
theorem d_L_1843 : decode code 1843 = .ok (.aload_n 1, 1) := by decide +kernel
theorem d_L_1844 : decode code 1844 = .ok (.aload_n 0, 1) := by decide +kernel
theorem d_L_1845 : decode code 1845 = .ok (.iload 4, 2) := by decide +kernel
theorem d_L_1847 : decode code 1847 = .ok (.iconst 1, 1) := by decide +kernel
theorem d_L_1848 : decode code 1848 = .ok (.iadd, 1) := by decide +kernel
theorem d_L_1849 : decode code 1849 = .ok (.iaload, 1) := by decide +kernel
theorem d_L_1850 : decode code 1850 = .ok (.invokevirtual 194, 3) := by decide +kernel
theorem d_L_1853 : decode code 1853 = .ok (.aload_n 2, 1) := by decide +kernel
theorem d_L_1854 : decode code 1854 = .ok (.aload_n 0, 1) := by decide +kernel
theorem d_L_1855 : decode code 1855 = .ok (.iload 4, 2) := by decide +kernel
theorem d_L_1857 : decode code 1857 = .ok (.iconst 1, 1) := by decide +kernel
theorem d_L_1858 : decode code 1858 = .ok (.iadd, 1) := by decide +kernel
theorem d_L_1859 : decode code 1859 = .ok (.iaload, 1) := by decide +kernel
theorem d_L_1860 : decode code 1860 = .ok (.invokevirtual 197, 3) := by decide +kernel
theorem d_L_1863 : decode code 1863 = .ok (.if_icmp .eq 571, 3) := by decide +kernel
theorem d_L_1866 : decode code 1866 = .ok (.iconst 0, 1) := by decide +kernel
theorem d_L_1867 : decode code 1867 = .ok (.ireturn, 1) := by decide +kernel
theorem d_L_1868 : decode code 1868 = .ok (.aload_n 1, 1) := by decide +kernel
theorem d_L_1869 : decode code 1869 = .ok (.aload_n 0, 1) := by decide +kernel
theorem d_L_1870 : decode code 1870 = .ok (.iload 4, 2) := by decide +kernel
theorem d_L_1872 : decode code 1872 = .ok (.iconst 1, 1) := by decide +kernel
theorem d_L_1873 : decode code 1873 = .ok (.iadd, 1) := by decide +kernel
theorem d_L_1874 : decode code 1874 = .ok (.iaload, 1) := by decide +kernel
theorem d_L_1875 : decode code 1875 = .ok (.aload_n 0, 1) := by decide +kernel
theorem d_L_1876 : decode code 1876 = .ok (.iload 4, 2) := by decide +kernel
theorem d_L_1878 : decode code 1878 = .ok (.iconst 2, 1) := by decide +kernel
theorem d_L_1879 : decode code 1879 = .ok (.iadd, 1) := by decide +kernel
theorem d_L_1880 : decode code 1880 = .ok (.iaload, 1) := by decide +kernel
theorem d_L_1881 : decode code 1881 = .ok (.invokevirtual 198, 3) := by decide +kernel
theorem d_L_1884 : decode code 1884 = .ok (.aload_n 2, 1) := by decide +kernel
theorem d_L_1885 : decode code 1885 = .ok (.aload_n 0, 1) := by decide +kernel
theorem d_L_1886 : decode code 1886 = .ok (.iload 4, 2) := by decide +kernel
theorem d_L_1888 : decode code 1888 = .ok (.iconst 1, 1) := by decide +kernel
theorem d_L_1889 : decode code 1889 = .ok (.iadd, 1) := by decide +kernel
theorem d_L_1890 : decode code 1890 = .ok (.iaload, 1) := by decide +kernel
theorem d_L_1891 : decode code 1891 = .ok (.aload_n 0, 1) := by decide +kernel
theorem d_L_1892 : decode code 1892 = .ok (.iload 4, 2) := by decide +kernel
theorem d_L_1894 : decode code 1894 = .ok (.iconst 2, 1) := by decide +kernel
theorem d_L_1895 : decode code 1895 = .ok (.iadd, 1) := by decide +kernel
theorem d_L_1896 : decode code 1896 = .ok (.iaload, 1) := by decide +kernel
theorem d_L_1897 : decode code 1897 = .ok (.invokevirtual 201, 3) := by decide +kernel
theorem d_L_1900 : decode code 1900 = .ok (.if_icmp .eq 534, 3) := by decide +kernel
theorem d_L_1903 : decode code 1903 = .ok (.iconst 0, 1) := by decide +kernel
theorem d_L_1904 : decode code 1904 = .ok (.ireturn, 1) := by decide +kernel
theorem d_L_1905 : decode code 1905 = .ok (.aload_n 1, 1) := by decide +kernel
theorem d_L_1906 : decode code 1906 = .ok (.aload_n 0, 1) := by decide +kernel
theorem d_L_1907 : decode code 1907 = .ok (.iload 4, 2) := by decide +kernel
theorem d_L_1909 : decode code 1909 = .ok (.iconst 1, 1) := by decide +kernel
theorem d_L_1910 : decode code 1910 = .ok (.iadd, 1) := by decide +kernel
theorem d_L_1911 : decode code 1911 = .ok (.iaload, 1) := by decide +kernel
theorem d_L_1912 : decode code 1912 = .ok (.aload_n 0, 1) := by decide +kernel
theorem d_L_1913 : decode code 1913 = .ok (.iload 4, 2) := by decide +kernel
theorem d_L_1915 : decode code 1915 = .ok (.iconst 2, 1) := by decide +kernel
theorem d_L_1916 : decode code 1916 = .ok (.iadd, 1) := by decide +kernel
theorem d_L_1917 : decode code 1917 = .ok (.iaload, 1) := by decide +kernel
theorem d_L_1918 : decode code 1918 = .ok (.aload_n 0, 1) := by decide +kernel
theorem d_L_1919 : decode code 1919 = .ok (.iload 4, 2) := by decide +kernel
theorem d_L_1921 : decode code 1921 = .ok (.iconst 3, 1) := by decide +kernel
theorem d_L_1922 : decode code 1922 = .ok (.iadd, 1) := by decide +kernel
theorem d_L_1923 : decode code 1923 = .ok (.iaload, 1) := by decide +kernel
theorem d_L_1924 : decode code 1924 = .ok (.invokevirtual 202, 3) := by decide +kernel
theorem d_L_1927 : decode code 1927 = .ok (.aload_n 2, 1) := by decide +kernel
theorem d_L_1928 : decode code 1928 = .ok (.aload_n 0, 1) := by decide +kernel
theorem d_L_1929 : decode code 1929 = .ok (.iload 4, 2) := by decide +kernel
theorem d_L_1931 : decode code 1931 = .ok (.iconst 1, 1) := by decide +kernel
theorem d_L_1932 : decode code 1932 = .ok (.iadd, 1) := by decide +kernel
theorem d_L_1933 : decode code 1933 = .ok (.iaload, 1) := by decide +kernel
theorem d_L_1934 : decode code 1934 = .ok (.aload_n 0, 1) := by decide +kernel
theorem d_L_1935 : decode code 1935 = .ok (.iload 4, 2) := by decide +kernel
theorem d_L_1937 : decode code 1937 = .ok (.iconst 2, 1) := by decide +kernel
theorem d_L_1938 : decode code 1938 = .ok (.iadd, 1) := by decide +kernel
theorem d_L_1939 : decode code 1939 = .ok (.iaload, 1) := by decide +kernel
theorem d_L_1940 : decode code 1940 = .ok (.aload_n 0, 1) := by decide +kernel
theorem d_L_1941 : decode code 1941 = .ok (.iload 4, 2) := by decide +kernel
theorem d_L_1943 : decode code 1943 = .ok (.iconst 3, 1) := by decide +kernel
theorem d_L_1944 : decode code 1944 = .ok (.iadd, 1) := by decide +kernel
theorem d_L_1945 : decode code 1945 = .ok (.iaload, 1) := by decide +kernel
theorem d_L_1946 : decode code 1946 = .ok (.invokevirtual 205, 3) := by decide +kernel
theorem d_L_1949 : decode code 1949 = .ok (.if_icmp .eq 485, 3) := by decide +kernel
theorem d_L_1952 : decode code 1952 = .ok (.iconst 0, 1) := by decide +kernel
theorem d_L_1953 : decode code 1953 = .ok (.ireturn, 1) := by decide +kernel
theorem d_L_1954 : decode code 1954 = .ok (.aload_n 1, 1) := by decide +kernel
theorem d_L_1955 : decode code 1955 = .ok (.aload_n 0, 1) := by decide +kernel
theorem d_L_1956 : decode code 1956 = .ok (.iload 4, 2) := by decide +kernel
theorem d_L_1958 : decode code 1958 = .ok (.iconst 1, 1) := by decide +kernel
theorem d_L_1959 : decode code 1959 = .ok (.iadd, 1) := by decide +kernel
theorem d_L_1960 : decode code 1960 = .ok (.iaload, 1) := by decide +kernel
theorem d_L_1961 : decode code 1961 = .ok (.invokevirtual 206, 3) := by decide +kernel
theorem d_L_1964 : decode code 1964 = .ok (.aload_n 2, 1) := by decide +kernel
theorem d_L_1965 : decode code 1965 = .ok (.aload_n 0, 1) := by decide +kernel
theorem d_L_1966 : decode code 1966 = .ok (.iload 4, 2) := by decide +kernel
theorem d_L_1968 : decode code 1968 = .ok (.iconst 1, 1) := by decide +kernel
theorem d_L_1969 : decode code 1969 = .ok (.iadd, 1) := by decide +kernel
theorem d_L_1970 : decode code 1970 = .ok (.iaload, 1) := by decide +kernel
theorem d_L_1971 : decode code 1971 = .ok (.invokevirtual 209, 3) := by decide +kernel
theorem d_L_1974 : decode code 1974 = .ok (.if_icmp .eq 460, 3) := by decide +kernel
theorem d_L_1977 : decode code 1977 = .ok (.iconst 0, 1) := by decide +kernel
theorem d_L_1978 : decode code 1978 = .ok (.ireturn, 1) := by decide +kernel
theorem d_L_1979 : decode code 1979 = .ok (.aload_n 1, 1) := by decide +kernel
theorem d_L_1980 : decode code 1980 = .ok (.aload_n 0, 1) := by decide +kernel
theorem d_L_1981 : decode code 1981 = .ok (.iload 4, 2) := by decide +kernel
theorem d_L_1983 : decode code 1983 = .ok (.iconst 1, 1) := by decide +kernel
theorem d_L_1984 : decode code 1984 = .ok (.iadd, 1) := by decide +kernel
theorem d_L_1985 : decode code 1985 = .ok (.iaload, 1) := by decide +kernel
theorem d_L_1986 : decode code 1986 = .ok (.invokevirtual 210, 3) := by decide +kernel
theorem d_L_1989 : decode code 1989 = .ok (.aload_n 2, 1) := by decide +kernel
theorem d_L_1990 : decode code 1990 = .ok (.aload_n 0, 1) := by decide +kernel
theorem d_L_1991 : decode code 1991 = .ok (.iload 4, 2) := by decide +kernel
theorem d_L_1993 : decode code 1993 = .ok (.iconst 1, 1) := by decide +kernel
theorem d_L_1994 : decode code 1994 = .ok (.iadd, 1) := by decide +kernel
theorem d_L_1995 : decode code 1995 = .ok (.iaload, 1) := by decide +kernel
theorem d_L_1996 : decode code 1996 = .ok (.invokevirtual 213, 3) := by decide +kernel
theorem d_L_1999 : decode code 1999 = .ok (.if_icmp .eq 435, 3) := by decide +kernel
theorem d_L_2002 : decode code 2002 = .ok (.iconst 0, 1) := by decide +kernel
theorem d_L_2003 : decode code 2003 = .ok (.ireturn, 1) := by decide +kernel
theorem d_L_2004 : decode code 2004 = .ok (.aload_n 1, 1) := by decide +kernel
theorem d_L_2005 : decode code 2005 = .ok (.invokevirtual 214, 3) := by decide +kernel
theorem d_L_2008 : decode code 2008 = .ok (.aload_n 2, 1) := by decide +kernel
theorem d_L_2009 : decode code 2009 = .ok (.invokevirtual 217, 3) := by decide +kernel
theorem d_L_2012 : decode code 2012 = .ok (.goto 422, 3) := by decide +kernel
theorem d_L_2015 : decode code 2015 = .ok (.aload_n 1, 1) := by decide +kernel
theorem d_L_2016 : decode code 2016 = .ok (.aload_n 0, 1) := by decide +kernel
theorem d_L_2017 : decode code 2017 = .ok (.iload 4, 2) := by decide +kernel
theorem d_L_2019 : decode code 2019 = .ok (.iconst 1, 1) := by decide +kernel
theorem d_L_2020 : decode code 2020 = .ok (.iadd, 1) := by decide +kernel
theorem d_L_2021 : decode code 2021 = .ok (.iaload, 1) := by decide +kernel
theorem d_L_2022 : decode code 2022 = .ok (.invokevirtual 218, 3) := by decide +kernel
theorem d_L_2025 : decode code 2025 = .ok (.aload_n 2, 1) := by decide +kernel
theorem d_L_2026 : decode code 2026 = .ok (.aload_n 0, 1) := by decide +kernel
theorem d_L_2027 : decode code 2027 = .ok (.iload 4, 2) := by decide +kernel
theorem d_L_2029 : decode code 2029 = .ok (.iconst 1, 1) := by decide +kernel
theorem d_L_2030 : decode code 2030 = .ok (.iadd, 1) := by decide +kernel
theorem d_L_2031 : decode code 2031 = .ok (.iaload, 1) := by decide +kernel
theorem d_L_2032 : decode code 2032 = .ok (.invokevirtual 221, 3) := by decide +kernel
theorem d_L_2035 : decode code 2035 = .ok (.if_icmp .eq 399, 3) := by decide +kernel
theorem d_L_2038 : decode code 2038 = .ok (.iconst 0, 1) := by decide +kernel
theorem d_L_2039 : decode code 2039 = .ok (.ireturn, 1) := by decide +kernel
theorem d_L_2040 : decode code 2040 = .ok (.aload_n 1, 1) := by decide +kernel
theorem d_L_2041 : decode code 2041 = .ok (.aload_n 0, 1) := by decide +kernel
theorem d_L_2042 : decode code 2042 = .ok (.iload 4, 2) := by decide +kernel
theorem d_L_2044 : decode code 2044 = .ok (.iconst 1, 1) := by decide +kernel
theorem d_L_2045 : decode code 2045 = .ok (.iadd, 1) := by decide +kernel
theorem d_L_2046 : decode code 2046 = .ok (.iaload, 1) := by decide +kernel
theorem d_L_2047 : decode code 2047 = .ok (.aload_n 0, 1) := by decide +kernel
theorem d_L_2048 : decode code 2048 = .ok (.iload 4, 2) := by decide +kernel
theorem d_L_2050 : decode code 2050 = .ok (.iconst 2, 1) := by decide +kernel
theorem d_L_2051 : decode code 2051 = .ok (.iadd, 1) := by decide +kernel
theorem d_L_2052 : decode code 2052 = .ok (.iaload, 1) := by decide +kernel
theorem d_L_2053 : decode code 2053 = .ok (.aload_n 0, 1) := by decide +kernel
theorem d_L_2054 : decode code 2054 = .ok (.iload 4, 2) := by decide +kernel
theorem d_L_2056 : decode code 2056 = .ok (.iconst 3, 1) := by decide +kernel
theorem d_L_2057 : decode code 2057 = .ok (.iadd, 1) := by decide +kernel
theorem d_L_2058 : decode code 2058 = .ok (.iaload, 1) := by decide +kernel
theorem d_L_2059 : decode code 2059 = .ok (.invokevirtual 222, 3) := by decide +kernel
theorem d_L_2062 : decode code 2062 = .ok (.aload_n 2, 1) := by decide +kernel
theorem d_L_2063 : decode code 2063 = .ok (.aload_n 0, 1) := by decide +kernel
theorem d_L_2064 : decode code 2064 = .ok (.iload 4, 2) := by decide +kernel
theorem d_L_2066 : decode code 2066 = .ok (.iconst 1, 1) := by decide +kernel
theorem d_L_2067 : decode code 2067 = .ok (.iadd, 1) := by decide +kernel
theorem d_L_2068 : decode code 2068 = .ok (.iaload, 1) := by decide +kernel
theorem d_L_2069 : decode code 2069 = .ok (.aload_n 0, 1) := by decide +kernel
theorem d_L_2070 : decode code 2070 = .ok (.iload 4, 2) := by decide +kernel
theorem d_L_2072 : decode code 2072 = .ok (.iconst 2, 1) := by decide +kernel
theorem d_L_2073 : decode code 2073 = .ok (.iadd, 1) := by decide +kernel
theorem d_L_2074 : decode code 2074 = .ok (.iaload, 1) := by decide +kernel
theorem d_L_2075 : decode code 2075 = .ok (.aload_n 0, 1) := by decide +kernel
theorem d_L_2076 : decode code 2076 = .ok (.iload 4, 2) := by decide +kernel
theorem d_L_2078 : decode code 2078 = .ok (.iconst 3, 1) := by decide +kernel
theorem d_L_2079 : decode code 2079 = .ok (.iadd, 1) := by decide +kernel
theorem d_L_2080 : decode code 2080 = .ok (.iaload, 1) := by decide +kernel
theorem d_L_2081 : decode code 2081 = .ok (.invokevirtual 225, 3) := by decide +kernel
theorem d_L_2084 : decode code 2084 = .ok (.if_icmp .eq 350, 3) := by decide +kernel
theorem d_L_2087 : decode code 2087 = .ok (.iconst 0, 1) := by decide +kernel
theorem d_L_2088 : decode code 2088 = .ok (.ireturn, 1) := by decide +kernel
theorem d_L_2089 : decode code 2089 = .ok (.aload_n 1, 1) := by decide +kernel
theorem d_L_2090 : decode code 2090 = .ok (.aload_n 0, 1) := by decide +kernel
theorem d_L_2091 : decode code 2091 = .ok (.iload 4, 2) := by decide +kernel
theorem d_L_2093 : decode code 2093 = .ok (.iconst 1, 1) := by decide +kernel
theorem d_L_2094 : decode code 2094 = .ok (.iadd, 1) := by decide +kernel
theorem d_L_2095 : decode code 2095 = .ok (.iaload, 1) := by decide +kernel
theorem d_L_2096 : decode code 2096 = .ok (.aload_n 0, 1) := by decide +kernel
theorem d_L_2097 : decode code 2097 = .ok (.iload 4, 2) := by decide +kernel
theorem d_L_2099 : decode code 2099 = .ok (.iconst 2, 1) := by decide +kernel
theorem d_L_2100 : decode code 2100 = .ok (.iadd, 1) := by decide +kernel
theorem d_L_2101 : decode code 2101 = .ok (.iaload, 1) := by decide +kernel
theorem d_L_2102 : decode code 2102 = .ok (.aload_n 0, 1) := by decide +kernel
theorem d_L_2103 : decode code 2103 = .ok (.iload 4, 2) := by decide +kernel
theorem d_L_2105 : decode code 2105 = .ok (.iconst 3, 1) := by decide +kernel
theorem d_L_2106 : decode code 2106 = .ok (.iadd, 1) := by decide +kernel
theorem d_L_2107 : decode code 2107 = .ok (.iaload, 1) := by decide +kernel
theorem d_L_2108 : decode code 2108 = .ok (.invokevirtual 226, 3) := by decide +kernel
theorem d_L_2111 : decode code 2111 = .ok (.aload_n 2, 1) := by decide +kernel
theorem d_L_2112 : decode code 2112 = .ok (.aload_n 0, 1) := by decide +kernel
theorem d_L_2113 : decode code 2113 = .ok (.iload 4, 2) := by decide +kernel
theorem d_L_2115 : decode code 2115 = .ok (.iconst 1, 1) := by decide +kernel
theorem d_L_2116 : decode code 2116 = .ok (.iadd, 1) := by decide +kernel
theorem d_L_2117 : decode code 2117 = .ok (.iaload, 1) := by decide +kernel
theorem d_L_2118 : decode code 2118 = .ok (.aload_n 0, 1) := by decide +kernel
theorem d_L_2119 : decode code 2119 = .ok (.iload 4, 2) := by decide +kernel
theorem d_L_2121 : decode code 2121 = .ok (.iconst 2, 1) := by decide +kernel
theorem d_L_2122 : decode code 2122 = .ok (.iadd, 1) := by decide +kernel
theorem d_L_2123 : decode code 2123 = .ok (.iaload, 1) := by decide +kernel
theorem d_L_2124 : decode code 2124 = .ok (.aload_n 0, 1) := by decide +kernel
theorem d_L_2125 : decode code 2125 = .ok (.iload 4, 2) := by decide +kernel
theorem d_L_2127 : decode code 2127 = .ok (.iconst 3, 1) := by decide +kernel
theorem d_L_2128 : decode code 2128 = .ok (.iadd, 1) := by decide +kernel
theorem d_L_2129 : decode code 2129 = .ok (.iaload, 1) := by decide +kernel
theorem d_L_2130 : decode code 2130 = .ok (.invokevirtual 229, 3) := by decide +kernel
theorem d_L_2133 : decode code 2133 = .ok (.if_icmp .eq 301, 3) := by decide +kernel
theorem d_L_2136 : decode code 2136 = .ok (.iconst 0, 1) := by decide +kernel
theorem d_L_2137 : decode code 2137 = .ok (.ireturn, 1) := by decide +kernel
theorem d_L_2138 : decode code 2138 = .ok (.aload_n 1, 1) := by decide +kernel
theorem d_L_2139 : decode code 2139 = .ok (.aload_n 0, 1) := by decide +kernel
theorem d_L_2140 : decode code 2140 = .ok (.iload 4, 2) := by decide +kernel
theorem d_L_2142 : decode code 2142 = .ok (.iconst 1, 1) := by decide +kernel
theorem d_L_2143 : decode code 2143 = .ok (.iadd, 1) := by decide +kernel
theorem d_L_2144 : decode code 2144 = .ok (.iaload, 1) := by decide +kernel
theorem d_L_2145 : decode code 2145 = .ok (.aload_n 0, 1) := by decide +kernel
theorem d_L_2146 : decode code 2146 = .ok (.iload 4, 2) := by decide +kernel
theorem d_L_2148 : decode code 2148 = .ok (.iconst 2, 1) := by decide +kernel
theorem d_L_2149 : decode code 2149 = .ok (.iadd, 1) := by decide +kernel
theorem d_L_2150 : decode code 2150 = .ok (.iaload, 1) := by decide +kernel
theorem d_L_2151 : decode code 2151 = .ok (.aload_n 0, 1) := by decide +kernel
theorem d_L_2152 : decode code 2152 = .ok (.iload 4, 2) := by decide +kernel
theorem d_L_2154 : decode code 2154 = .ok (.iconst 3, 1) := by decide +kernel
theorem d_L_2155 : decode code 2155 = .ok (.iadd, 1) := by decide +kernel
theorem d_L_2156 : decode code 2156 = .ok (.iaload, 1) := by decide +kernel
theorem d_L_2157 : decode code 2157 = .ok (.invokevirtual 230, 3) := by decide +kernel
theorem d_L_2160 : decode code 2160 = .ok (.aload_n 2, 1) := by decide +kernel
theorem d_L_2161 : decode code 2161 = .ok (.aload_n 0, 1) := by decide +kernel
theorem d_L_2162 : decode code 2162 = .ok (.iload 4, 2) := by decide +kernel
theorem d_L_2164 : decode code 2164 = .ok (.iconst 1, 1) := by decide +kernel
theorem d_L_2165 : decode code 2165 = .ok (.iadd, 1) := by decide +kernel
theorem d_L_2166 : decode code 2166 = .ok (.iaload, 1) := by decide +kernel
theorem d_L_2167 : decode code 2167 = .ok (.aload_n 0, 1) := by decide +kernel
theorem d_L_2168 : decode code 2168 = .ok (.iload 4, 2) := by decide +kernel
theorem d_L_2170 : decode code 2170 = .ok (.iconst 2, 1) := by decide +kernel
theorem d_L_2171 : decode code 2171 = .ok (.iadd, 1) := by decide +kernel
theorem d_L_2172 : decode code 2172 = .ok (.iaload, 1) := by decide +kernel
theorem d_L_2173 : decode code 2173 = .ok (.aload_n 0, 1) := by decide +kernel
theorem d_L_2174 : decode code 2174 = .ok (.iload 4, 2) := by decide +kernel
theorem d_L_2176 : decode code 2176 = .ok (.iconst 3, 1) := by decide +kernel
theorem d_L_2177 : decode code 2177 = .ok (.iadd, 1) := by decide +kernel
theorem d_L_2178 : decode code 2178 = .ok (.iaload, 1) := by decide +kernel
theorem d_L_2179 : decode code 2179 = .ok (.invokevirtual 233, 3) := by decide +kernel
theorem d_L_2182 : decode code 2182 = .ok (.if_icmp .eq 252, 3) := by decide +kernel
theorem d_L_2185 : decode code 2185 = .ok (.iconst 0, 1) := by decide +kernel
theorem d_L_2186 : decode code 2186 = .ok (.ireturn, 1) := by decide +kernel
theorem d_L_2187 : decode code 2187 = .ok (.aload_n 1, 1) := by decide +kernel
theorem d_L_2188 : decode code 2188 = .ok (.invokevirtual 234, 3) := by decide +kernel
theorem d_L_2191 : decode code 2191 = .ok (.aload_n 2, 1) := by decide +kernel
theorem d_L_2192 : decode code 2192 = .ok (.invokevirtual 237, 3) := by decide +kernel
theorem d_L_2195 : decode code 2195 = .ok (.if_icmp .eq 239, 3) := by decide +kernel
theorem d_L_2198 : decode code 2198 = .ok (.iconst 0, 1) := by decide +kernel
theorem d_L_2199 : decode code 2199 = .ok (.ireturn, 1) := by decide +kernel
theorem d_L_2200 : decode code 2200 = .ok (.aload_n 1, 1) := by decide +kernel
theorem d_L_2201 : decode code 2201 = .ok (.aload_n 0, 1) := by decide +kernel
theorem d_L_2202 : decode code 2202 = .ok (.iload 4, 2) := by decide +kernel
theorem d_L_2204 : decode code 2204 = .ok (.iconst 1, 1) := by decide +kernel
theorem d_L_2205 : decode code 2205 = .ok (.iadd, 1) := by decide +kernel
theorem d_L_2206 : decode code 2206 = .ok (.iaload, 1) := by decide +kernel
theorem d_L_2207 : decode code 2207 = .ok (.aload_n 0, 1) := by decide +kernel
theorem d_L_2208 : decode code 2208 = .ok (.iload 4, 2) := by decide +kernel
theorem d_L_2210 : decode code 2210 = .ok (.iconst 2, 1) := by decide +kernel
theorem d_L_2211 : decode code 2211 = .ok (.iadd, 1) := by decide +kernel
theorem d_L_2212 : decode code 2212 = .ok (.iaload, 1) := by decide +kernel
theorem d_L_2213 : decode code 2213 = .ok (.invokevirtual 238, 3) := by decide +kernel
theorem d_L_2216 : decode code 2216 = .ok (.aload_n 2, 1) := by decide +kernel
theorem d_L_2217 : decode code 2217 = .ok (.aload_n 0, 1) := by decide +kernel
theorem d_L_2218 : decode code 2218 = .ok (.iload 4, 2) := by decide +kernel
theorem d_L_2220 : decode code 2220 = .ok (.iconst 1, 1) := by decide +kernel
theorem d_L_2221 : decode code 2221 = .ok (.iadd, 1) := by decide +kernel
theorem d_L_2222 : decode code 2222 = .ok (.iaload, 1) := by decide +kernel
theorem d_L_2223 : decode code 2223 = .ok (.aload_n 0, 1) := by decide +kernel
theorem d_L_2224 : decode code 2224 = .ok (.iload 4, 2) := by decide +kernel
theorem d_L_2226 : decode code 2226 = .ok (.iconst 2, 1) := by decide +kernel
theorem d_L_2227 : decode code 2227 = .ok (.iadd, 1) := by decide +kernel
theorem d_L_2228 : decode code 2228 = .ok (.iaload, 1) := by decide +kernel
theorem d_L_2229 : decode code 2229 = .ok (.invokevirtual 241, 3) := by decide +kernel
theorem d_L_2232 : decode code 2232 = .ok (.if_icmp .eq 202, 3) := by decide +kernel
theorem d_L_2235 : decode code 2235 = .ok (.iconst 0, 1) := by decide +kernel
theorem d_L_2236 : decode code 2236 = .ok (.ireturn, 1) := by decide +kernel
theorem d_L_2237 : decode code 2237 = .ok (.aload_n 1, 1) := by decide +kernel
theorem d_L_2238 : decode code 2238 = .ok (.aload_n 0, 1) := by decide +kernel
theorem d_L_2239 : decode code 2239 = .ok (.iload 4, 2) := by decide +kernel
theorem d_L_2241 : decode code 2241 = .ok (.iconst 1, 1) := by decide +kernel
theorem d_L_2242 : decode code 2242 = .ok (.iadd, 1) := by decide +kernel
theorem d_L_2243 : decode code 2243 = .ok (.iaload, 1) := by decide +kernel
theorem d_L_2244 : decode code 2244 = .ok (.aload_n 0, 1) := by decide +kernel
theorem d_L_2245 : decode code 2245 = .ok (.iload 4, 2) := by decide +kernel
theorem d_L_2247 : decode code 2247 = .ok (.iconst 2, 1) := by decide +kernel
theorem d_L_2248 : decode code 2248 = .ok (.iadd, 1) := by decide +kernel
theorem d_L_2249 : decode code 2249 = .ok (.iaload, 1) := by decide +kernel
theorem d_L_2250 : decode code 2250 = .ok (.aload_n 0, 1) := by decide +kernel
theorem d_L_2251 : decode code 2251 = .ok (.iload 4, 2) := by decide +kernel
theorem d_L_2253 : decode code 2253 = .ok (.iconst 3, 1) := by decide +kernel
theorem d_L_2254 : decode code 2254 = .ok (.iadd, 1) := by decide +kernel
theorem d_L_2255 : decode code 2255 = .ok (.iaload, 1) := by decide +kernel
theorem d_L_2256 : decode code 2256 = .ok (.invokevirtual 242, 3) := by decide +kernel
theorem d_L_2259 : decode code 2259 = .ok (.aload_n 2, 1) := by decide +kernel
theorem d_L_2260 : decode code 2260 = .ok (.aload_n 0, 1) := by decide +kernel
theorem d_L_2261 : decode code 2261 = .ok (.iload 4, 2) := by decide +kernel
theorem d_L_2263 : decode code 2263 = .ok (.iconst 1, 1) := by decide +kernel
theorem d_L_2264 : decode code 2264 = .ok (.iadd, 1) := by decide +kernel
theorem d_L_2265 : decode code 2265 = .ok (.iaload, 1) := by decide +kernel
theorem d_L_2266 : decode code 2266 = .ok (.aload_n 0, 1) := by decide +kernel
theorem d_L_2267 : decode code 2267 = .ok (.iload 4, 2) := by decide +kernel
theorem d_L_2269 : decode code 2269 = .ok (.iconst 2, 1) := by decide +kernel
theorem d_L_2270 : decode code 2270 = .ok (.iadd, 1) := by decide +kernel
theorem d_L_2271 : decode code 2271 = .ok (.iaload, 1) := by decide +kernel
theorem d_L_2272 : decode code 2272 = .ok (.aload_n 0, 1) := by decide +kernel
theorem d_L_2273 : decode code 2273 = .ok (.iload 4, 2) := by decide +kernel
theorem d_L_2275 : decode code 2275 = .ok (.iconst 3, 1) := by decide +kernel
theorem d_L_2276 : decode code 2276 = .ok (.iadd, 1) := by decide +kernel
theorem d_L_2277 : decode code 2277 = .ok (.iaload, 1) := by decide +kernel
theorem d_L_2278 : decode code 2278 = .ok (.invokevirtual 245, 3) := by decide +kernel
theorem d_L_2281 : decode code 2281 = .ok (.if_icmp .eq 153, 3) := by decide +kernel
theorem d_L_2284 : decode code 2284 = .ok (.iconst 0, 1) := by decide +kernel
theorem d_L_2285 : decode code 2285 = .ok (.ireturn, 1) := by decide +kernel
theorem d_L_2286 : decode code 2286 = .ok (.aload_n 1, 1) := by decide +kernel
theorem d_L_2287 : decode code 2287 = .ok (.aload_n 0, 1) := by decide +kernel
theorem d_L_2288 : decode code 2288 = .ok (.iload 4, 2) := by decide +kernel
theorem d_L_2290 : decode code 2290 = .ok (.iconst 1, 1) := by decide +kernel
theorem d_L_2291 : decode code 2291 = .ok (.iadd, 1) := by decide +kernel
theorem d_L_2292 : decode code 2292 = .ok (.iaload, 1) := by decide +kernel
theorem d_L_2293 : decode code 2293 = .ok (.invokevirtual 246, 3) := by decide +kernel
theorem d_L_2296 : decode code 2296 = .ok (.aload_n 2, 1) := by decide +kernel
theorem d_L_2297 : decode code 2297 = .ok (.aload_n 0, 1) := by decide +kernel
theorem d_L_2298 : decode code 2298 = .ok (.iload 4, 2) := by decide +kernel
theorem d_L_2300 : decode code 2300 = .ok (.iconst 1, 1) := by decide +kernel
theorem d_L_2301 : decode code 2301 = .ok (.iadd, 1) := by decide +kernel
theorem d_L_2302 : decode code 2302 = .ok (.iaload, 1) := by decide +kernel
theorem d_L_2303 : decode code 2303 = .ok (.invokevirtual 249, 3) := by decide +kernel
theorem d_L_2306 : decode code 2306 = .ok (.if_icmp .eq 128, 3) := by decide +kernel
theorem d_L_2309 : decode code 2309 = .ok (.iconst 0, 1) := by decide +kernel
theorem d_L_2310 : decode code 2310 = .ok (.ireturn, 1) := by decide +kernel
theorem d_L_2311 : decode code 2311 = .ok (.aload_n 1, 1) := by decide +kernel
theorem d_L_2312 : decode code 2312 = .ok (.aload_n 0, 1) := by decide +kernel
theorem d_L_2313 : decode code 2313 = .ok (.iload 4, 2) := by decide +kernel
theorem d_L_2315 : decode code 2315 = .ok (.iconst 1, 1) := by decide +kernel
theorem d_L_2316 : decode code 2316 = .ok (.iadd, 1) := by decide +kernel
theorem d_L_2317 : decode code 2317 = .ok (.iaload, 1) := by decide +kernel
theorem d_L_2318 : decode code 2318 = .ok (.aload_n 0, 1) := by decide +kernel
theorem d_L_2319 : decode code 2319 = .ok (.iload 4, 2) := by decide +kernel
theorem d_L_2321 : decode code 2321 = .ok (.iconst 2, 1) := by decide +kernel
theorem d_L_2322 : decode code 2322 = .ok (.iadd, 1) := by decide +kernel
theorem d_L_2323 : decode code 2323 = .ok (.iaload, 1) := by decide +kernel
theorem d_L_2324 : decode code 2324 = .ok (.invokevirtual 250, 3) := by decide +kernel
theorem d_L_2327 : decode code 2327 = .ok (.aload_n 2, 1) := by decide +kernel
theorem d_L_2328 : decode code 2328 = .ok (.aload_n 0, 1) := by decide +kernel
theorem d_L_2329 : decode code 2329 = .ok (.iload 4, 2) := by decide +kernel
theorem d_L_2331 : decode code 2331 = .ok (.iconst 1, 1) := by decide +kernel
theorem d_L_2332 : decode code 2332 = .ok (.iadd, 1) := by decide +kernel
theorem d_L_2333 : decode code 2333 = .ok (.iaload, 1) := by decide +kernel
theorem d_L_2334 : decode code 2334 = .ok (.aload_n 0, 1) := by decide +kernel
theorem d_L_2335 : decode code 2335 = .ok (.iload 4, 2) := by decide +kernel
theorem d_L_2337 : decode code 2337 = .ok (.iconst 2, 1) := by decide +kernel
theorem d_L_2338 : decode code 2338 = .ok (.iadd, 1) := by decide +kernel
theorem d_L_2339 : decode code 2339 = .ok (.iaload, 1) := by decide +kernel
theorem d_L_2340 : decode code 2340 = .ok (.invokevirtual 253, 3) := by decide +kernel
theorem d_L_2343 : decode code 2343 = .ok (.if_icmp .eq 91, 3) := by decide +kernel
theorem d_L_2346 : decode code 2346 = .ok (.iconst 0, 1) := by decide +kernel
theorem d_L_2347 : decode code 2347 = .ok (.ireturn, 1) := by decide +kernel
theorem d_L_2348 : decode code 2348 = .ok (.aload_n 1, 1) := by decide +kernel
theorem d_L_2349 : decode code 2349 = .ok (.aload_n 0, 1) := by decide +kernel
theorem d_L_2350 : decode code 2350 = .ok (.iload 4, 2) := by decide +kernel
theorem d_L_2352 : decode code 2352 = .ok (.iconst 1, 1) := by decide +kernel
theorem d_L_2353 : decode code 2353 = .ok (.iadd, 1) := by decide +kernel
theorem d_L_2354 : decode code 2354 = .ok (.iaload, 1) := by decide +kernel
theorem d_L_2355 : decode code 2355 = .ok (.aload_n 0, 1) := by decide +kernel
theorem d_L_2356 : decode code 2356 = .ok (.iload 4, 2) := by decide +kernel
theorem d_L_2358 : decode code 2358 = .ok (.iconst 2, 1) := by decide +kernel
theorem d_L_2359 : decode code 2359 = .ok (.iadd, 1) := by decide +kernel
theorem d_L_2360 : decode code 2360 = .ok (.iaload, 1) := by decide +kernel
theorem d_L_2361 : decode code 2361 = .ok (.aload_n 0, 1) := by decide +kernel
theorem d_L_2362 : decode code 2362 = .ok (.iload 4, 2) := by decide +kernel
theorem d_L_2364 : decode code 2364 = .ok (.iconst 3, 1) := by decide +kernel
theorem d_L_2365 : decode code 2365 = .ok (.iadd, 1) := by decide +kernel
theorem d_L_2366 : decode code 2366 = .ok (.iaload, 1) := by decide +kernel
theorem d_L_2367 : decode code 2367 = .ok (.aload_n 0, 1) := by decide +kernel
theorem d_L_2368 : decode code 2368 = .ok (.iload 4, 2) := by decide +kernel
theorem d_L_2370 : decode code 2370 = .ok (.iconst 4, 1) := by decide +kernel
theorem d_L_2371 : decode code 2371 = .ok (.iadd, 1) := by decide +kernel
theorem d_L_2372 : decode code 2372 = .ok (.iaload, 1) := by decide +kernel
theorem d_L_2373 : decode code 2373 = .ok (.invokevirtual 254, 3) := by decide +kernel
theorem d_L_2376 : decode code 2376 = .ok (.aload_n 2, 1) := by decide +kernel
theorem d_L_2377 : decode code 2377 = .ok (.aload_n 0, 1) := by decide +kernel
theorem d_L_2378 : decode code 2378 = .ok (.iload 4, 2) := by decide +kernel
theorem d_L_2380 : decode code 2380 = .ok (.iconst 1, 1) := by decide +kernel
theorem d_L_2381 : decode code 2381 = .ok (.iadd, 1) := by decide +kernel
theorem d_L_2382 : decode code 2382 = .ok (.iaload, 1) := by decide +kernel
theorem d_L_2383 : decode code 2383 = .ok (.aload_n 0, 1) := by decide +kernel
theorem d_L_2384 : decode code 2384 = .ok (.iload 4, 2) := by decide +kernel
theorem d_L_2386 : decode code 2386 = .ok (.iconst 2, 1) := by decide +kernel
theorem d_L_2387 : decode code 2387 = .ok (.iadd, 1) := by decide +kernel
theorem d_L_2388 : decode code 2388 = .ok (.iaload, 1) := by decide +kernel
theorem d_L_2389 : decode code 2389 = .ok (.aload_n 0, 1) := by decide +kernel
theorem d_L_2390 : decode code 2390 = .ok (.iload 4, 2) := by decide +kernel
theorem d_L_2392 : decode code 2392 = .ok (.iconst 3, 1) := by decide +kernel
theorem d_L_2393 : decode code 2393 = .ok (.iadd, 1) := by decide +kernel
theorem d_L_2394 : decode code 2394 = .ok (.iaload, 1) := by decide +kernel
theorem d_L_2395 : decode code 2395 = .ok (.aload_n 0, 1) := by decide +kernel
theorem d_L_2396 : decode code 2396 = .ok (.iload 4, 2) := by decide +kernel
theorem d_L_2398 : decode code 2398 = .ok (.iconst 4, 1) := by decide +kernel
theorem d_L_2399 : decode code 2399 = .ok (.iadd, 1) := by decide +kernel
theorem d_L_2400 : decode code 2400 = .ok (.iaload, 1) := by decide +kernel
theorem d_L_2401 : decode code 2401 = .ok (.invokevirtual 258, 3) := by decide +kernel
theorem d_L_2404 : decode code 2404 = .ok (.if_icmp .eq 30, 3) := by decide +kernel
theorem d_L_2407 : decode code 2407 = .ok (.iconst 0, 1) := by decide +kernel
theorem d_L_2408 : decode code 2408 = .ok (.ireturn, 1) := by decide +kernel
theorem d_L_2409 : decode code 2409 = .ok (.aload_n 1, 1) := by decide +kernel
theorem d_L_2410 : decode code 2410 = .ok (.aload_n 0, 1) := by decide +kernel
theorem d_L_2411 : decode code 2411 = .ok (.iload 4, 2) := by decide +kernel
theorem d_L_2413 : decode code 2413 = .ok (.iconst 1, 1) := by decide +kernel
theorem d_L_2414 : decode code 2414 = .ok (.iadd, 1) := by decide +kernel
theorem d_L_2415 : decode code 2415 = .ok (.iaload, 1) := by decide +kernel
theorem d_L_2416 : decode code 2416 = .ok (.invokevirtual 259, 3) := by decide +kernel
theorem d_L_2419 : decode code 2419 = .ok (.aload_n 2, 1) := by decide +kernel
theorem d_L_2420 : decode code 2420 = .ok (.aload_n 0, 1) := by decide +kernel
theorem d_L_2421 : decode code 2421 = .ok (.iload 4, 2) := by decide +kernel
theorem d_L_2423 : decode code 2423 = .ok (.iconst 1, 1) := by decide +kernel
theorem d_L_2424 : decode code 2424 = .ok (.iadd, 1) := by decide +kernel
theorem d_L_2425 : decode code 2425 = .ok (.iaload, 1) := by decide +kernel
theorem d_L_2426 : decode code 2426 = .ok (.invokevirtual 262, 3) := by decide +kernel
theorem d_L_2429 : decode code 2429 = .ok (.if_icmp .eq 5, 3) := by decide +kernel
theorem d_L_2432 : decode code 2432 = .ok (.iconst 0, 1) := by decide +kernel
theorem d_L_2433 : decode code 2433 = .ok (.ireturn, 1) := by decide +kernel
theorem d_L_2434 : decode code 2434 = .ok (.iinc 4 6, 3) := by decide +kernel
theorem d_L_2437 : decode code 2437 = .ok (.goto (-2414), 3) := by decide +kernel
theorem d_L_2440 : decode code 2440 = .ok (.iconst 1, 1) := by decide +kernel
theorem d_L_2441 : decode code 2441 = .ok (.ireturn, 1) := by decide +kernel
