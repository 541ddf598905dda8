theorem d_L_1321 : decode code 1321 = .ok (.iconst 0, 1) := by decide +kernel
theorem d_L_1322 : decode code 1322 = .ok (.invokevirtual 133, 3) := by decide +kernel
theorem d_L_1325 : decode code 1325 = .ok (.pop, 1) := by decide +kernel
theorem d_L_1326 : decode code 1326 = .ok (.aload_n 2, 1) := by decide +kernel
theorem d_L_1327 : decode code 1327 = .ok (.aload_n 0, 1) := by decide +kernel
theorem d_L_1328 : decode code 1328 = .ok (.iload 4, 2) := by decide +kernel
theorem d_L_1330 : decode code 1330 = .ok (.iconst 1, 1) := by decide +kernel
theorem d_L_1331 : decode code 1331 = .ok (.iadd, 1) := by decide +kernel
theorem d_L_1332 : decode code 1332 = .ok (.iaload, 1) := by decide +kernel
theorem d_L_1333 : decode code 1333 = .ok (.aload_n 0, 1) := by decide +kernel
theorem d_L_1334 : decode code 1334 = .ok (.iload 4, 2) := by decide +kernel
theorem d_L_1336 : decode code 1336 = .ok (.iconst 2, 1) := by decide +kernel
theorem d_L_1337 : decode code 1337 = .ok (.iadd, 1) := by decide +kernel
theorem d_L_1338 : decode code 1338 = .ok (.iaload, 1) := by decide +kernel
theorem d_L_1339 : decode code 1339 = .ok (.aload_n 0, 1) := by decide +kernel
theorem d_L_1340 : decode code 1340 = .ok (.iload 4, 2) := by decide +kernel
theorem d_L_1342 : decode code 1342 = .ok (.iconst 3, 1) := by decide +kernel
theorem d_L_1343 : decode code 1343 = .ok (.iadd, 1) := by decide +kernel
theorem d_L_1344 : decode code 1344 = .ok (.iaload, 1) := by decide +kernel
theorem d_L_1345 : decode code 1345 = .ok (.aload_n 0, 1) := by decide +kernel
theorem d_L_1346 : decode code 1346 = .ok (.iload 4, 2) := by decide +kernel
theorem d_L_1348 : decode code 1348 = .ok (.iconst 4, 1) := by decide +kernel
theorem d_L_1349 : decode code 1349 = .ok (.iadd, 1) := by decide +kernel
theorem d_L_1350 : decode code 1350 = .ok (.iaload, 1) := by decide +kernel
theorem d_L_1351 : decode code 1351 = .ok (.ifCond .eq 7, 3) := by decide +kernel
theorem d_L_1354 : decode code 1354 = .ok (.iconst 1, 1) := by decide +kernel
theorem d_L_1355 : decode code 1355 = .ok (.goto 4, 3) := by decide +kernel
theorem d_L_1358 : decode code 1358 = .ok (.iconst 0, 1) := by decide +kernel
theorem d_L_1359 : decode code 1359 = .ok (.invokevirtual 137, 3) := by decide +kernel
theorem d_L_1362 : decode code 1362 = .ok (.pop, 1) := by decide +kernel
theorem d_L_1363 : decode code 1363 = .ok (.goto 1043, 3) := by decide +kernel
theorem d_L_1366 : decode code 1366 = .ok (.aload_n 1, 1) := by decide +kernel
theorem d_L_1367 : decode code 1367 = .ok (.aload_n 0, 1) := by decide +kernel
theorem d_L_1368 : decode code 1368 = .ok (.iload 4, 2) := by decide +kernel
theorem d_L_1370 : decode code 1370 = .ok (.iconst 1, 1) := by decide +kernel
theorem d_L_1371 : decode code 1371 = .ok (.iadd, 1) := by decide +kernel
theorem d_L_1372 : decode code 1372 = .ok (.iaload, 1) := by decide +kernel
theorem d_L_1373 : decode code 1373 = .ok (.invokevirtual 138, 3) := by decide +kernel
theorem d_L_1376 : decode code 1376 = .ok (.pop, 1) := by decide +kernel
theorem d_L_1377 : decode code 1377 = .ok (.aload_n 2, 1) := by decide +kernel
theorem d_L_1378 : decode code 1378 = .ok (.aload_n 0, 1) := by decide +kernel
theorem d_L_1379 : decode code 1379 = .ok (.iload 4, 2) := by decide +kernel
theorem d_L_1381 : decode code 1381 = .ok (.iconst 1, 1) := by decide +kernel
theorem d_L_1382 : decode code 1382 = .ok (.iadd, 1) := by decide +kernel
theorem d_L_1383 : decode code 1383 = .ok (.iaload, 1) := by decide +kernel
theorem d_L_1384 : decode code 1384 = .ok (.invokevirtual 141, 3) := by decide +kernel
theorem d_L_1387 : decode code 1387 = .ok (.pop, 1) := by decide +kernel
theorem d_L_1388 : decode code 1388 = .ok (.goto 1018, 3) := by decide +kernel
theorem d_L_1391 : decode code 1391 = .ok (.aload_n 1, 1) := by decide +kernel
theorem d_L_1392 : decode code 1392 = .ok (.aload_n 0, 1) := by decide +kernel
theorem d_L_1393 : decode code 1393 = .ok (.iload 4, 2) := by decide +kernel
theorem d_L_1395 : decode code 1395 = .ok (.iconst 1, 1) := by decide +kernel
theorem d_L_1396 : decode code 1396 = .ok (.iadd, 1) := by decide +kernel
theorem d_L_1397 : decode code 1397 = .ok (.iaload, 1) := by decide +kernel
theorem d_L_1398 : decode code 1398 = .ok (.aload_n 0, 1) := by decide +kernel
theorem d_L_1399 : decode code 1399 = .ok (.iload 4, 2) := by decide +kernel
theorem d_L_1401 : decode code 1401 = .ok (.iconst 2, 1) := by decide +kernel
theorem d_L_1402 : decode code 1402 = .ok (.iadd, 1) := by decide +kernel
theorem d_L_1403 : decode code 1403 = .ok (.iaload, 1) := by decide +kernel
theorem d_L_1404 : decode code 1404 = .ok (.aload_n 0, 1) := by decide +kernel
theorem d_L_1405 : decode code 1405 = .ok (.iload 4, 2) := by decide +kernel
theorem d_L_1407 : decode code 1407 = .ok (.iconst 3, 1) := by decide +kernel
theorem d_L_1408 : decode code 1408 = .ok (.iadd, 1) := by decide +kernel
theorem d_L_1409 : decode code 1409 = .ok (.iaload, 1) := by decide +kernel
theorem d_L_1410 : decode code 1410 = .ok (.invokevirtual 142, 3) := by decide +kernel
theorem d_L_1413 : decode code 1413 = .ok (.pop, 1) := by decide +kernel
theorem d_L_1414 : decode code 1414 = .ok (.aload_n 2, 1) := by decide +kernel
theorem d_L_1415 : decode code 1415 = .ok (.aload_n 0, 1) := by decide +kernel
theorem d_L_1416 : decode code 1416 = .ok (.iload 4, 2) := by decide +kernel
theorem d_L_1418 : decode code 1418 = .ok (.iconst 1, 1) := by decide +kernel
theorem d_L_1419 : decode code 1419 = .ok (.iadd, 1) := by decide +kernel
theorem d_L_1420 : decode code 1420 = .ok (.iaload, 1) := by decide +kernel
theorem d_L_1421 : decode code 1421 = .ok (.aload_n 0, 1) := by decide +kernel
theorem d_L_1422 : decode code 1422 = .ok (.iload 4, 2) := by decide +kernel
theorem d_L_1424 : decode code 1424 = .ok (.iconst 2, 1) := by decide +kernel
theorem d_L_1425 : decode code 1425 = .ok (.iadd, 1) := by decide +kernel
theorem d_L_1426 : decode code 1426 = .ok (.iaload, 1) := by decide +kernel
theorem d_L_1427 : decode code 1427 = .ok (.aload_n 0, 1) := by decide +kernel
theorem d_L_1428 : decode code 1428 = .ok (.iload 4, 2) := by decide +kernel
theorem d_L_1430 : decode code 1430 = .ok (.iconst 3, 1) := by decide +kernel
theorem d_L_1431 : decode code 1431 = .ok (.iadd, 1) := by decide +kernel
theorem d_L_1432 : decode code 1432 = .ok (.iaload, 1) := by decide +kernel
theorem d_L_1433 : decode code 1433 = .ok (.invokevirtual 145, 3) := by decide +kernel
theorem d_L_1436 : decode code 1436 = .ok (.pop, 1) := by decide +kernel
theorem d_L_1437 : decode code 1437 = .ok (.goto 969, 3) := by decide +kernel
theorem d_L_1440 : decode code 1440 = .ok (.aload_n 1, 1) := by decide +kernel
theorem d_L_1441 : decode code 1441 = .ok (.aload_n 0, 1) := by decide +kernel
theorem d_L_1442 : decode code 1442 = .ok (.iload 4, 2) := by decide +kernel
theorem d_L_1444 : decode code 1444 = .ok (.iconst 1, 1) := by decide +kernel
theorem d_L_1445 : decode code 1445 = .ok (.iadd, 1) := by decide +kernel
theorem d_L_1446 : decode code 1446 = .ok (.iaload, 1) := by decide +kernel
theorem d_L_1447 : decode code 1447 = .ok (.aload_n 0, 1) := by decide +kernel
theorem d_L_1448 : decode code 1448 = .ok (.iload 4, 2) := by decide +kernel
theorem d_L_1450 : decode code 1450 = .ok (.iconst 2, 1) := by decide +kernel
theorem d_L_1451 : decode code 1451 = .ok (.iadd, 1) := by decide +kernel
theorem d_L_1452 : decode code 1452 = .ok (.iaload, 1) := by decide +kernel
theorem d_L_1453 : decode code 1453 = .ok (.aload_n 0, 1) := by decide +kernel
theorem d_L_1454 : decode code 1454 = .ok (.iload 4, 2) := by decide +kernel
theorem d_L_1456 : decode code 1456 = .ok (.iconst 3, 1) := by decide +kernel
theorem d_L_1457 : decode code 1457 = .ok (.iadd, 1) := by decide +kernel
theorem d_L_1458 : decode code 1458 = .ok (.iaload, 1) := by decide +kernel
theorem d_L_1459 : decode code 1459 = .ok (.invokevirtual 146, 3) := by decide +kernel
theorem d_L_1462 : decode code 1462 = .ok (.pop, 1) := by decide +kernel
theorem d_L_1463 : decode code 1463 = .ok (.aload_n 2, 1) := by decide +kernel
theorem d_L_1464 : decode code 1464 = .ok (.aload_n 0, 1) := by decide +kernel
theorem d_L_1465 : decode code 1465 = .ok (.iload 4, 2) := by decide +kernel
theorem d_L_1467 : decode code 1467 = .ok (.iconst 1, 1) := by decide +kernel
theorem d_L_1468 : decode code 1468 = .ok (.iadd, 1) := by decide +kernel
theorem d_L_1469 : decode code 1469 = .ok (.iaload, 1) := by decide +kernel
theorem d_L_1470 : decode code 1470 = .ok (.aload_n 0, 1) := by decide +kernel
theorem d_L_1471 : decode code 1471 = .ok (.iload 4, 2) := by decide +kernel
theorem d_L_1473 : decode code 1473 = .ok (.iconst 2, 1) := by decide +kernel
theorem d_L_1474 : decode code 1474 = .ok (.iadd, 1) := by decide +kernel
theorem d_L_1475 : decode code 1475 = .ok (.iaload, 1) := by decide +kernel
theorem d_L_1476 : decode code 1476 = .ok (.aload_n 0, 1) := by decide +kernel
theorem d_L_1477 : decode code 1477 = .ok (.iload 4, 2) := by decide +kernel
theorem d_L_1479 : decode code 1479 = .ok (.iconst 3, 1) := by decide +kernel
theorem d_L_1480 : decode code 1480 = .ok (.iadd, 1) := by decide +kernel
theorem d_L_1481 : decode code 1481 = .ok (.iaload, 1) := by decide +kernel
theorem d_L_1482 : decode code 1482 = .ok (.invokevirtual 149, 3) := by decide +kernel
theorem d_L_1485 : decode code 1485 = .ok (.pop, 1) := by decide +kernel
theorem d_L_1486 : decode code 1486 = .ok (.goto 920, 3) := by decide +kernel
theorem d_L_1489 : decode code 1489 = .ok (.aload_n 1, 1) := by decide +kernel
theorem d_L_1490 : decode code 1490 = .ok (.aload_n 0, 1) := by decide +kernel
theorem d_L_1491 : decode code 1491 = .ok (.iload 4, 2) := by decide +kernel
theorem d_L_1493 : decode code 1493 = .ok (.iconst 1, 1) := by decide +kernel
theorem d_L_1494 : decode code 1494 = .ok (.iadd, 1) := by decide +kernel
theorem d_L_1495 : decode code 1495 = .ok (.iaload, 1) := by decide +kernel
theorem d_L_1496 : decode code 1496 = .ok (.aload_n 0, 1) := by decide +kernel
theorem d_L_1497 : decode code 1497 = .ok (.iload 4, 2) := by decide +kernel
theorem d_L_1499 : decode code 1499 = .ok (.iconst 2, 1) := by decide +kernel
theorem d_L_1500 : decode code 1500 = .ok (.iadd, 1) := by decide +kernel
theorem d_L_1501 : decode code 1501 = .ok (.iaload, 1) := by decide +kernel
theorem d_L_1502 : decode code 1502 = .ok (.aload_n 0, 1) := by decide +kernel
theorem d_L_1503 : decode code 1503 = .ok (.iload 4, 2) := by decide +kernel
theorem d_L_1505 : decode code 1505 = .ok (.iconst 3, 1) := by decide +kernel
theorem d_L_1506 : decode code 1506 = .ok (.iadd, 1) := by decide +kernel
theorem d_L_1507 : decode code 1507 = .ok (.iaload, 1) := by decide +kernel
theorem d_L_1508 : decode code 1508 = .ok (.invokevirtual 150, 3) := by decide +kernel
theorem d_L_1511 : decode code 1511 = .ok (.pop, 1) := by decide +kernel
theorem d_L_1512 : decode code 1512 = .ok (.aload_n 2, 1) := by decide +kernel
theorem d_L_1513 : decode code 1513 = .ok (.aload_n 0, 1) := by decide +kernel
theorem d_L_1514 : decode code 1514 = .ok (.iload 4, 2) := by decide +kernel
theorem d_L_1516 : decode code 1516 = .ok (.iconst 1, 1) := by decide +kernel
theorem d_L_1517 : decode code 1517 = .ok (.iadd, 1) := by decide +kernel
theorem d_L_1518 : decode code 1518 = .ok (.iaload, 1) := by decide +kernel
theorem d_L_1519 : decode code 1519 = .ok (.aload_n 0, 1) := by decide +kernel
theorem d_L_1520 : decode code 1520 = .ok (.iload 4, 2) := by decide +kernel
theorem d_L_1522 : decode code 1522 = .ok (.iconst 2, 1) := by decide +kernel
theorem d_L_1523 : decode code 1523 = .ok (.iadd, 1) := by decide +kernel
theorem d_L_1524 : decode code 1524 = .ok (.iaload, 1) := by decide +kernel
theorem d_L_1525 : decode code 1525 = .ok (.aload_n 0, 1) := by decide +kernel
theorem d_L_1526 : decode code 1526 = .ok (.iload 4, 2) := by decide +kernel
theorem d_L_1528 : decode code 1528 = .ok (.iconst 3, 1) := by decide +kernel
theorem d_L_1529 : decode code 1529 = .ok (.iadd, 1) := by decide +kernel
theorem d_L_1530 : decode code 1530 = .ok (.iaload, 1) := by decide +kernel
theorem d_L_1531 : decode code 1531 = .ok (.invokevirtual 153, 3) := by decide +kernel
theorem d_L_1534 : decode code 1534 = .ok (.pop, 1) := by decide +kernel
theorem d_L_1535 : decode code 1535 = .ok (.goto 871, 3) := by decide +kernel
theorem d_L_1538 : decode code 1538 = .ok (.aload_n 1, 1) := by decide +kernel
theorem d_L_1539 : decode code 1539 = .ok (.aload_n 0, 1) := by decide +kernel
theorem d_L_1540 : decode code 1540 = .ok (.iload 4, 2) := by decide +kernel
theorem d_L_1542 : decode code 1542 = .ok (.iconst 1, 1) := by decide +kernel
theorem d_L_1543 : decode code 1543 = .ok (.iadd, 1) := by decide +kernel
theorem d_L_1544 : decode code 1544 = .ok (.iaload, 1) := by decide +kernel
theorem d_L_1545 : decode code 1545 = .ok (.invokevirtual 154, 3) := by decide +kernel
theorem d_L_1548 : decode code 1548 = .ok (.pop, 1) := by decide +kernel
theorem d_L_1549 : decode code 1549 = .ok (.aload_n 2, 1) := by decide +kernel
theorem d_L_1550 : decode code 1550 = .ok (.aload_n 0, 1) := by decide +kernel
theorem d_L_1551 : decode code 1551 = .ok (.iload 4, 2) := by decide +kernel
theorem d_L_1553 : decode code 1553 = .ok (.iconst 1, 1) := by decide +kernel
theorem d_L_1554 : decode code 1554 = .ok (.iadd, 1) := by decide +kernel
theorem d_L_1555 : decode code 1555 = .ok (.iaload, 1) := by decide +kernel
theorem d_L_1556 : decode code 1556 = .ok (.invokevirtual 157, 3) := by decide +kernel
theorem d_L_1559 : decode code 1559 = .ok (.pop, 1) := by decide +kernel
theorem d_L_1560 : decode code 1560 = .ok (.goto 846, 3) := by decide +kernel
theorem d_L_1563 : decode code 1563 = .ok (.aload_n 1, 1) := by decide +kernel
theorem d_L_1564 : decode code 1564 = .ok (.aload_n 0, 1) := by decide +kernel
theorem d_L_1565 : decode code 1565 = .ok (.iload 4, 2) := by decide +kernel
theorem d_L_1567 : decode code 1567 = .ok (.iconst 1, 1) := by decide +kernel
theorem d_L_1568 : decode code 1568 = .ok (.iadd, 1) := by decide +kernel
theorem d_L_1569 : decode code 1569 = .ok (.iaload, 1) := by decide +kernel
theorem d_L_1570 : decode code 1570 = .ok (.ifCond .eq 7, 3) := by decide +kernel
theorem d_L_1573 : decode code 1573 = .ok (.iconst 1, 1) := by decide +kernel
theorem d_L_1574 : decode code 1574 = .ok (.goto 4, 3) := by decide +kernel
theorem d_L_1577 : decode code 1577 = .ok (.iconst 0, 1) := by decide +kernel
theorem d_L_1578 : decode code 1578 = .ok (.aload_n 0, 1) := by decide +kernel
theorem d_L_1579 : decode code 1579 = .ok (.iload 4, 2) := by decide +kernel
theorem d_L_1581 : decode code 1581 = .ok (.iconst 2, 1) := by decide +kernel
theorem d_L_1582 : decode code 1582 = .ok (.iadd, 1) := by decide +kernel
theorem d_L_1583 : decode code 1583 = .ok (.iaload, 1) := by decide +kernel
theorem d_L_1584 : decode code 1584 = .ok (.invokevirtual 158, 3) := by decide +kernel
theorem d_L_1587 : decode code 1587 = .ok (.pop, 1) := by decide +kernel
theorem d_L_1588 : decode code 1588 = .ok (.aload_n 2, 1) := by decide +kernel
theorem d_L_1589 : decode code 1589 = .ok (.aload_n 0, 1) := by decide +kernel
theorem d_L_1590 : decode code 1590 = .ok (.iload 4, 2) := by decide +kernel
theorem d_L_1592 : decode code 1592 = .ok (.iconst 1, 1) := by decide +kernel
theorem d_L_1593 : decode code 1593 = .ok (.iadd, 1) := by decide +kernel
theorem d_L_1594 : decode code 1594 = .ok (.iaload, 1) := by decide +kernel
theorem d_L_1595 : decode code 1595 = .ok (.ifCond .eq 7, 3) := by decide +kernel
theorem d_L_1598 : decode code 1598 = .ok (.iconst 1, 1) := by decide +kernel
theorem d_L_1599 : decode code 1599 = .ok (.goto 4, 3) := by decide +kernel
theorem d_L_1602 : decode code 1602 = .ok (.iconst 0, 1) := by decide +kernel
theorem d_L_1603 : decode code 1603 = .ok (.aload_n 0, 1) := by decide +kernel
theorem d_L_1604 : decode code 1604 = .ok (.iload 4, 2) := by decide +kernel
theorem d_L_1606 : decode code 1606 = .ok (.iconst 2, 1) := by decide +kernel
theorem d_L_1607 : decode code 1607 = .ok (.iadd, 1) := by decide +kernel
theorem d_L_1608 : decode code 1608 = .ok (.iaload, 1) := by decide +kernel
theorem d_L_1609 : decode code 1609 = .ok (.invokevirtual 162, 3) := by decide +kernel
theorem d_L_1612 : decode code 1612 = .ok (.pop, 1) := by decide +kernel
theorem d_L_1613 : decode code 1613 = .ok (.goto 793, 3) := by decide +kernel
theorem d_L_1616 : decode code 1616 = .ok (.aload_n 1, 1) := by decide +kernel
theorem d_L_1617 : decode code 1617 = .ok (.aload_n 0, 1) := by decide +kernel
theorem d_L_1618 : decode code 1618 = .ok (.iload 4, 2) := by decide +kernel
theorem d_L_1620 : decode code 1620 = .ok (.iconst 1, 1) := by decide +kernel
theorem d_L_1621 : decode code 1621 = .ok (.iadd, 1) := by decide +kernel
theorem d_L_1622 : decode code 1622 = .ok (.iaload, 1) := by decide +kernel
theorem d_L_1623 : decode code 1623 = .ok (.invokevirtual 163, 3) := by decide +kernel
theorem d_L_1626 : decode code 1626 = .ok (.pop, 1) := by decide +kernel
theorem d_L_1627 : decode code 1627 = .ok (.aload_n 2, 1) := by decide +kernel
theorem d_L_1628 : decode code 1628 = .ok (.aload_n 0, 1) := by decide +kernel
theorem d_L_1629 : decode code 1629 = .ok (.iload 4, 2) := by decide +kernel
theorem d_L_1631 : decode code 1631 = .ok (.iconst 1, 1) := by decide +kernel
theorem d_L_1632 : decode code 1632 = .ok (.iadd, 1) := by decide +kernel
theorem d_L_1633 : decode code 1633 = .ok (.iaload, 1) := by decide +kernel
theorem d_L_1634 : decode code 1634 = .ok (.invokevirtual 166, 3) := by decide +kernel
theorem d_L_1637 : decode code 1637 = .ok (.pop, 1) := by decide +kernel
theorem d_L_1638 : decode code 1638 = .ok (.goto 768, 3) := by decide +kernel
theorem d_L_1641 : decode code 1641 = .ok (.aload_n 1, 1) := by decide +kernel
theorem d_L_1642 : decode code 1642 = .ok (.invokevirtual 167, 3) := by decide +kernel
theorem d_L_1645 : decode code 1645 = .ok (.pop, 1) := by decide +kernel
theorem d_L_1646 : decode code 1646 = .ok (.aload_n 2, 1) := by decide +kernel
theorem d_L_1647 : decode code 1647 = .ok (.invokevirtual 170, 3) := by decide +kernel
theorem d_L_1650 : decode code 1650 = .ok (.pop, 1) := by decide +kernel
theorem d_L_1651 : decode code 1651 = .ok (.goto 755, 3) := by decide +kernel
theorem d_L_1654 : decode code 1654 = .ok (.aload_n 1, 1) := by decide +kernel
theorem d_L_1655 : decode code 1655 = .ok (.aload_n 0, 1) := by decide +kernel
theorem d_L_1656 : decode code 1656 = .ok (.iload 4, 2) := by decide +kernel
theorem d_L_1658 : decode code 1658 = .ok (.iconst 1, 1) := by decide +kernel
theorem d_L_1659 : decode code 1659 = .ok (.iadd, 1) := by decide +kernel
theorem d_L_1660 : decode code 1660 = .ok (.iaload, 1) := by decide +kernel
theorem d_L_1661 : decode code 1661 = .ok (.invokevirtual 171, 3) := by decide +kernel
theorem d_L_1664 : decode code 1664 = .ok (.pop, 1) := by decide +kernel
theorem d_L_1665 : decode code 1665 = .ok (.aload_n 2, 1) := by decide +kernel
theorem d_L_1666 : decode code 1666 = .ok (.aload_n 0, 1) := by decide +kernel
theorem d_L_1667 : decode code 1667 = .ok (.iload 4, 2) := by decide +kernel
theorem d_L_1669 : decode code 1669 = .ok (.iconst 1, 1) := by decide +kernel
theorem d_L_1670 : decode code 1670 = .ok (.iadd, 1) := by decide +kernel
theorem d_L_1671 : decode code 1671 = .ok (.iaload, 1) := by decide +kernel
theorem d_L_1672 : decode code 1672 = .ok (.invokevirtual 174, 3) := by decide +kernel
theorem d_L_1675 : decode code 1675 = .ok (.pop, 1) := by decide +kernel
theorem d_L_1676 : decode code 1676 = .ok (.goto 730, 3) := by decide +kernel
theorem d_L_1679 : decode code 1679 = .ok (.aload_n 1, 1) := by decide +kernel
theorem d_L_1680 : decode code 1680 = .ok (.aload_n 0, 1) := by decide +kernel
theorem d_L_1681 : decode code 1681 = .ok (.iload 4, 2) := by decide +kernel
theorem d_L_1683 : decode code 1683 = .ok (.iconst 1, 1) := by decide +kernel
theorem d_L_1684 : decode code 1684 = .ok (.iadd, 1) := by decide +kernel
theorem d_L_1685 : decode code 1685 = .ok (.iaload, 1) := by decide +kernel
theorem d_L_1686 : decode code 1686 = .ok (.invokevirtual 175, 3) := by decide +kernel
theorem d_L_1689 : decode code 1689 = .ok (.pop, 1) := by decide +kernel
theorem d_L_1690 : decode code 1690 = .ok (.aload_n 2, 1) := by decide +kernel
theorem d_L_1691 : decode code 1691 = .ok (.aload_n 0, 1) := by decide +kernel
theorem d_L_1692 : decode code 1692 = .ok (.iload 4, 2) := by decide +kernel
theorem d_L_1694 : decode code 1694 = .ok (.iconst 1, 1) := by decide +kernel
theorem d_L_1695 : decode code 1695 = .ok (.iadd, 1) := by decide +kernel
theorem d_L_1696 : decode code 1696 = .ok (.iaload, 1) := by decide +kernel
theorem d_L_1697 : decode code 1697 = .ok (.invokevirtual 178, 3) := by decide +kernel
theorem d_L_1700 : decode code 1700 = .ok (.pop, 1) := by decide +kernel
theorem d_L_1701 : decode code 1701 = .ok (.goto 705, 3) := by decide +kernel
theorem d_L_1704 : decode code 1704 = .ok (.aload_n 1, 1) := by decide +kernel
theorem d_L_1705 : decode code 1705 = .ok (.aload_n 0, 1) := by decide +kernel
theorem d_L_1706 : decode code 1706 = .ok (.iload 4, 2) := by decide +kernel
theorem d_L_1708 : decode code 1708 = .ok (.iconst 1, 1) := by decide +kernel
theorem d_L_1709 : decode code 1709 = .ok (.iadd, 1) := by decide +kernel
theorem d_L_1710 : decode code 1710 = .ok (.iaload, 1) := by decide +kernel
theorem d_L_1711 : decode code 1711 = .ok (.invokevirtual 179, 3) := by decide +kernel
theorem d_L_1714 : decode code 1714 = .ok (.pop, 1) := by decide +kernel
theorem d_L_1715 : decode code 1715 = .ok (.aload_n 2, 1) := by decide +kernel
theorem d_L_1716 : decode code 1716 = .ok (.aload_n 0, 1) := by decide +kernel
theorem d_L_1717 : decode code 1717 = .ok (.iload 4, 2) := by decide +kernel
theorem d_L_1719 : decode code 1719 = .ok (.iconst 1, 1) := by decide +kernel
theorem d_L_1720 : decode code 1720 = .ok (.iadd, 1) := by decide +kernel
theorem d_L_1721 : decode code 1721 = .ok (.iaload, 1) := by decide +kernel
theorem d_L_1722 : decode code 1722 = .ok (.invokevirtual 182, 3) := by decide +kernel
theorem d_L_1725 : decode code 1725 = .ok (.pop, 1) := by decide +kernel
theorem d_L_1726 : decode code 1726 = .ok (.goto 680, 3) := by decide +kernel
theorem d_L_1729 : decode code 1729 = .ok (.aload_n 1, 1) := by decide +kernel
theorem d_L_1730 : decode code 1730 = .ok (.aload_n 0, 1) := by decide +kernel
theorem d_L_1731 : decode code 1731 = .ok (.iload 4, 2) := by decide +kernel
theorem d_L_1733 : decode code 1733 = .ok (.iconst 1, 1) := by decide +kernel
theorem d_L_1734 : decode code 1734 = .ok (.iadd, 1) := by decide +kernel
theorem d_L_1735 : decode code 1735 = .ok (.iaload, 1) := by decide +kernel
theorem d_L_1736 : decode code 1736 = .ok (.aload_n 0, 1) := by decide +kernel
theorem d_L_1737 : decode code 1737 = .ok (.iload 4, 2) := by decide +kernel
theorem d_L_1739 : decode code 1739 = .ok (.iconst 2, 1) := by decide +kernel
theorem d_L_1740 : decode code 1740 = .ok (.iadd, 1) := by decide +kernel
theorem d_L_1741 : decode code 1741 = .ok (.iaload, 1) := by decide +kernel
theorem d_L_1742 : decode code 1742 = .ok (.aload_n 0, 1) := by decide +kernel
theorem d_L_1743 : decode code 1743 = .ok (.iload 4, 2) := by decide +kernel
theorem d_L_1745 : decode code 1745 = .ok (.iconst 3, 1) := by decide +kernel
theorem d_L_1746 : decode code 1746 = .ok (.iadd, 1) := by decide +kernel
theorem d_L_1747 : decode code 1747 = .ok (.iaload, 1) := by decide +kernel
theorem d_L_1748 : decode code 1748 = .ok (.invokevirtual 183, 3) := by decide +kernel
theorem d_L_1751 : decode code 1751 = .ok (.pop, 1) := by decide +kernel
theorem d_L_1752 : decode code 1752 = .ok (.aload_n 2, 1) := by decide +kernel
theorem d_L_1753 : decode code 1753 = .ok (.aload_n 0, 1) := by decide +kernel
theorem d_L_1754 : decode code 1754 = .ok (.iload 4, 2) := by decide +kernel
theorem d_L_1756 : decode code 1756 = .ok (.iconst 1, 1) := by decide +kernel
theorem d_L_1757 : decode code 1757 = .ok (.iadd, 1) := by decide +kernel
theorem d_L_1758 : decode code 1758 = .ok (.iaload, 1) := by decide +kernel
theorem d_L_1759 : decode code 1759 = .ok (.aload_n 0, 1) := by decide +kernel
theorem d_L_1760 : decode code 1760 = .ok (.iload 4, 2) := by decide +kernel
theorem d_L_1762 : decode code 1762 = .ok (.iconst 2, 1) := by decide +kernel
theorem d_L_1763 : decode code 1763 = .ok (.iadd, 1) := by decide +kernel
theorem d_L_1764 : decode code 1764 = .ok (.iaload, 1) := by decide +kernel
theorem d_L_1765 : decode code 1765 = .ok (.aload_n 0, 1) := by decide +kernel
theorem d_L_1766 : decode code 1766 = .ok (.iload 4, 2) := by decide +kernel
theorem d_L_1768 : decode code 1768 = .ok (.iconst 3, 1) := by decide +kernel
theorem d_L_1769 : decode code 1769 = .ok (.iadd, 1) := by decide +kernel
theorem d_L_1770 : decode code 1770 = .ok (.iaload, 1) := by decide +kernel
theorem d_L_1771 : decode code 1771 = .ok (.invokevirtual 186, 3) := by decide +kernel
theorem d_L_1774 : decode code 1774 = .ok (.pop, 1) := by decide +kernel
theorem d_L_1775 : decode code 1775 = .ok (.goto 631, 3) := by decide +kernel
theorem d_L_1778 : decode code 1778 = .ok (.aload_n 1, 1) := by decide +kernel
theorem d_L_1779 : decode code 1779 = .ok (.aload_n 0, 1) := by decide +kernel
theorem d_L_1780 : decode code 1780 = .ok (.iload 4, 2) := by decide +kernel
theorem d_L_1782 : decode code 1782 = .ok (.iconst 1, 1) := by decide +kernel
theorem d_L_1783 : decode code 1783 = .ok (.iadd, 1) := by decide +kernel
theorem d_L_1784 : decode code 1784 = .ok (.iaload, 1) := by decide +kernel
theorem d_L_1785 : decode code 1785 = .ok (.aload_n 0, 1) := by decide +kernel
theorem d_L_1786 : decode code 1786 = .ok (.iload 4, 2) := by decide +kernel
theorem d_L_1788 : decode code 1788 = .ok (.iconst 2, 1) := by decide +kernel
theorem d_L_1789 : decode code 1789 = .ok (.iadd, 1) := by decide +kernel
theorem d_L_1790 : decode code 1790 = .ok (.iaload, 1) := by decide +kernel
theorem d_L_1791 : decode code 1791 = .ok (.invokevirtual 187, 3) := by decide +kernel
theorem d_L_1794 : decode code 1794 = .ok (.pop, 1) := by decide +kernel
theorem d_L_1795 : decode code 1795 = .ok (.aload_n 2, 1) := by decide +kernel
theorem d_L_1796 : decode code 1796 = .ok (.aload_n 0, 1) := by decide +kernel
theorem d_L_1797 : decode code 1797 = .ok (.iload 4, 2) := by decide +kernel
theorem d_L_1799 : decode code 1799 = .ok (.iconst 1, 1) := by decide +kernel
theorem d_L_1800 : decode code 1800 = .ok (.iadd, 1) := by decide +kernel
theorem d_L_1801 : decode code 1801 = .ok (.iaload, 1) := by decide +kernel
theorem d_L_1802 : decode code 1802 = .ok (.aload_n 0, 1) := by decide +kernel
theorem d_L_1803 : decode code 1803 = .ok (.iload 4, 2) := by decide +kernel
theorem d_L_1805 : decode code 1805 = .ok (.iconst 2, 1) := by decide +kernel
theorem d_L_1806 : decode code 1806 = .ok (.iadd, 1) := by decide +kernel
theorem d_L_1807 : decode code 1807 = .ok (.iaload, 1) := by decide +kernel
theorem d_L_1808 : decode code 1808 = .ok (.invokevirtual 190, 3) := by decide +kernel
theorem d_L_1811 : decode code 1811 = .ok (.pop, 1) := by decide +kernel
theorem d_L_1812 : decode code 1812 = .ok (.goto 594, 3) := by decide +kernel
theorem d_L_1815 : decode code 1815 = .ok (.aload_n 1, 1) := by decide +kernel
theorem d_L_1816 : decode code 1816 = .ok (.aload_n 0, 1) := by decide +kernel
theorem d_L_1817 : decode code 1817 = .ok (.iload 4, 2) := by decide +kernel
theorem d_L_1819 : decode code 1819 = .ok (.iconst 1, 1) := by decide +kernel
theorem d_L_1820 : decode code 1820 = .ok (.iadd, 1) := by decide +kernel
theorem d_L_1821 : decode code 1821 = .ok (.iaload, 1) := by decide +kernel
theorem d_L_1822 : decode code 1822 = .ok (.invokevirtual 191, 3) := by decide +kernel
theorem d_L_1825 : decode code 1825 = .ok (.pop, 1) := by decide +kernel
theorem d_L_1826 : decode code 1826 = .ok (.aload_n 2, 1) := by decide +kernel
theorem d_L_1827 : decode code 1827 = .ok (.aload_n 0, 1) := by decide +kernel
theorem d_L_1828 : decode code 1828 = .ok (.iload 4, 2) := by decide +kernel
theorem d_L_1830 : decode code 1830 = .ok (.iconst 1, 1) := by decide +kernel
theorem d_L_1831 : decode code 1831 = .ok (.iadd, 1) := by decide +kernel
theorem d_L_1832 : decode code 1832 = .ok (.iaload, 1) := by decide +kernel
theorem d_L_1833 : decode code 1833 = .ok (.invokevirtual 194, 3) := by decide +kernel
theorem d_L_1836 : decode code 1836 = .ok (.pop, 1) := by decide +kernel
theorem d_L_1837 : decode code 1837 = .ok (.goto 569, 3) := by decide +kernel
theorem d_L_1840 : decode code 1840 = .ok (.aload_n 1, 1) := by decide +kernel
theorem d_L_1841 : decode code 1841 = .ok (.aload_n 0, 1) := by decide +kernel
theorem d_L_1842 : decode code 1842 = .ok (.iload 4, 2) := by decide +kernel
theorem d_L_1844 : decode code 1844 = .ok (.iconst 1, 1) := by decide +kernel
theorem d_L_1845 : decode code 1845 = .ok (.iadd, 1) := by decide +kernel
theorem d_L_1846 : decode code 1846 = .ok (.iaload, 1) := by decide +kernel
theorem d_L_1847 : decode code 1847 = .ok (.aload_n 0, 1) := by decide +kernel
theorem d_L_1848 : decode code 1848 = .ok (.iload 4, 2) := by decide +kernel
theorem d_L_1850 : decode code 1850 = .ok (.iconst 2, 1) := by decide +kernel
theorem d_L_1851 : decode code 1851 = .ok (.iadd, 1) := by decide +kernel
theorem d_L_1852 : decode code 1852 = .ok (.iaload, 1) := by decide +kernel
theorem d_L_1853 : decode code 1853 = .ok (.invokevirtual 195, 3) := by decide +kernel
theorem d_L_1856 : decode code 1856 = .ok (.pop, 1) := by decide +kernel
theorem d_L_1857 : decode code 1857 = .ok (.aload_n 2, 1) := by decide +kernel
theorem d_L_1858 : decode code 1858 = .ok (.aload_n 0, 1) := by decide +kernel
theorem d_L_1859 : decode code 1859 = .ok (.iload 4, 2) := by decide +kernel
theorem d_L_1861 : decode code 1861 = .ok (.iconst 1, 1) := by decide +kernel
theorem d_L_1862 : decode code 1862 = .ok (.iadd, 1) := by decide +kernel
theorem d_L_1863 : decode code 1863 = .ok (.iaload, 1) := by decide +kernel
theorem d_L_1864 : decode code 1864 = .ok (.aload_n 0, 1) := by decide +kernel
theorem d_L_1865 : decode code 1865 = .ok (.iload 4, 2) := by decide +kernel
theorem d_L_1867 : decode code 1867 = .ok (.iconst 2, 1) := by decide +kernel
theorem d_L_1868 : decode code 1868 = .ok (.iadd, 1) := by decide +kernel
