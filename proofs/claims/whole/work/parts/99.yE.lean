theorem dL_1376 : decode YL.2.1 1376 = .ok (.iconst 2, 1) := by decide +kernel
theorem dL_1377 : decode YL.2.1 1377 = .ok (.iadd, 1) := by decide +kernel
theorem dL_1378 : decode YL.2.1 1378 = .ok (.iaload, 1) := by decide +kernel
theorem dL_1379 : decode YL.2.1 1379 = .ok (.aload_n 0, 1) := by decide +kernel
theorem dL_1380 : decode YL.2.1 1380 = .ok (.iload_n 3, 1) := by decide +kernel
theorem dL_1381 : decode YL.2.1 1381 = .ok (.iconst 3, 1) := by decide +kernel
theorem dL_1382 : decode YL.2.1 1382 = .ok (.iadd, 1) := by decide +kernel
theorem dL_1383 : decode YL.2.1 1383 = .ok (.iaload, 1) := by decide +kernel
theorem dL_1384 : decode YL.2.1 1384 = .ok (.ifCond .eq 7, 3) := by decide +kernel
theorem dL_1387 : decode YL.2.1 1387 = .ok (.iconst 1, 1) := by decide +kernel
theorem dL_1388 : decode YL.2.1 1388 = .ok (.goto 4, 3) := by decide +kernel
theorem dL_1391 : decode YL.2.1 1391 = .ok (.iconst 0, 1) := by decide +kernel
theorem dL_1392 : decode YL.2.1 1392 = .ok (.invokevirtual 124, 3) := by decide +kernel
theorem dL_1395 : decode YL.2.1 1395 = .ok (.aload_n 2, 1) := by decide +kernel
theorem dL_1396 : decode YL.2.1 1396 = .ok (.aload_n 0, 1) := by decide +kernel
theorem dL_1397 : decode YL.2.1 1397 = .ok (.iload_n 3, 1) := by decide +kernel
theorem dL_1398 : decode YL.2.1 1398 = .ok (.iconst 1, 1) := by decide +kernel
theorem dL_1399 : decode YL.2.1 1399 = .ok (.iadd, 1) := by decide +kernel
theorem dL_1400 : decode YL.2.1 1400 = .ok (.iaload, 1) := by decide +kernel
theorem dL_1401 : decode YL.2.1 1401 = .ok (.aload_n 0, 1) := by decide +kernel
theorem dL_1402 : decode YL.2.1 1402 = .ok (.iload_n 3, 1) := by decide +kernel
theorem dL_1403 : decode YL.2.1 1403 = .ok (.iconst 2, 1) := by decide +kernel
theorem dL_1404 : decode YL.2.1 1404 = .ok (.iadd, 1) := by decide +kernel
theorem dL_1405 : decode YL.2.1 1405 = .ok (.iaload, 1) := by decide +kernel
theorem dL_1406 : decode YL.2.1 1406 = .ok (.aload_n 0, 1) := by decide +kernel
theorem dL_1407 : decode YL.2.1 1407 = .ok (.iload_n 3, 1) := by decide +kernel
theorem dL_1408 : decode YL.2.1 1408 = .ok (.iconst 3, 1) := by decide +kernel
theorem dL_1409 : decode YL.2.1 1409 = .ok (.iadd, 1) := by decide +kernel
theorem dL_1410 : decode YL.2.1 1410 = .ok (.iaload, 1) := by decide +kernel
theorem dL_1411 : decode YL.2.1 1411 = .ok (.ifCond .eq 7, 3) := by decide +kernel
theorem dL_1414 : decode YL.2.1 1414 = .ok (.iconst 1, 1) := by decide +kernel
theorem dL_1415 : decode YL.2.1 1415 = .ok (.goto 4, 3) := by decide +kernel
theorem dL_1418 : decode YL.2.1 1418 = .ok (.iconst 0, 1) := by decide +kernel
theorem dL_1419 : decode YL.2.1 1419 = .ok (.invokevirtual 127, 3) := by decide +kernel
theorem dL_1422 : decode YL.2.1 1422 = .ok (.lcmp, 1) := by decide +kernel
theorem dL_1423 : decode YL.2.1 1423 = .ok (.ifCond .eq 203, 3) := by decide +kernel
theorem dL_1426 : decode YL.2.1 1426 = .ok (.iconst 0, 1) := by decide +kernel
theorem dL_1427 : decode YL.2.1 1427 = .ok (.ireturn, 1) := by decide +kernel
theorem dL_1428 : decode YL.2.1 1428 = .ok (.aload_n 1, 1) := by decide +kernel
theorem dL_1429 : decode YL.2.1 1429 = .ok (.aload_n 0, 1) := by decide +kernel
theorem dL_1430 : decode YL.2.1 1430 = .ok (.iload_n 3, 1) := by decide +kernel
theorem dL_1431 : decode YL.2.1 1431 = .ok (.iconst 1, 1) := by decide +kernel
theorem dL_1432 : decode YL.2.1 1432 = .ok (.iadd, 1) := by decide +kernel
theorem dL_1433 : decode YL.2.1 1433 = .ok (.iaload, 1) := by decide +kernel
theorem dL_1434 : decode YL.2.1 1434 = .ok (.aload_n 0, 1) := by decide +kernel
theorem dL_1435 : decode YL.2.1 1435 = .ok (.iload_n 3, 1) := by decide +kernel
theorem dL_1436 : decode YL.2.1 1436 = .ok (.iconst 2, 1) := by decide +kernel
theorem dL_1437 : decode YL.2.1 1437 = .ok (.iadd, 1) := by decide +kernel
theorem dL_1438 : decode YL.2.1 1438 = .ok (.iaload, 1) := by decide +kernel
theorem dL_1439 : decode YL.2.1 1439 = .ok (.invokevirtual 128, 3) := by decide +kernel
theorem dL_1442 : decode YL.2.1 1442 = .ok (.aload_n 2, 1) := by decide +kernel
theorem dL_1443 : decode YL.2.1 1443 = .ok (.aload_n 0, 1) := by decide +kernel
theorem dL_1444 : decode YL.2.1 1444 = .ok (.iload_n 3, 1) := by decide +kernel
theorem dL_1445 : decode YL.2.1 1445 = .ok (.iconst 1, 1) := by decide +kernel
theorem dL_1446 : decode YL.2.1 1446 = .ok (.iadd, 1) := by decide +kernel
theorem dL_1447 : decode YL.2.1 1447 = .ok (.iaload, 1) := by decide +kernel
theorem dL_1448 : decode YL.2.1 1448 = .ok (.aload_n 0, 1) := by decide +kernel
theorem dL_1449 : decode YL.2.1 1449 = .ok (.iload_n 3, 1) := by decide +kernel
theorem dL_1450 : decode YL.2.1 1450 = .ok (.iconst 2, 1) := by decide +kernel
theorem dL_1451 : decode YL.2.1 1451 = .ok (.iadd, 1) := by decide +kernel
theorem dL_1452 : decode YL.2.1 1452 = .ok (.iaload, 1) := by decide +kernel
theorem dL_1453 : decode YL.2.1 1453 = .ok (.invokevirtual 131, 3) := by decide +kernel
theorem dL_1456 : decode YL.2.1 1456 = .ok (.if_icmp .eq 170, 3) := by decide +kernel
theorem dL_1459 : decode YL.2.1 1459 = .ok (.iconst 0, 1) := by decide +kernel
theorem dL_1460 : decode YL.2.1 1460 = .ok (.ireturn, 1) := by decide +kernel
theorem dL_1461 : decode YL.2.1 1461 = .ok (.aload_n 1, 1) := by decide +kernel
theorem dL_1462 : decode YL.2.1 1462 = .ok (.aload_n 0, 1) := by decide +kernel
theorem dL_1463 : decode YL.2.1 1463 = .ok (.iload_n 3, 1) := by decide +kernel
theorem dL_1464 : decode YL.2.1 1464 = .ok (.iconst 1, 1) := by decide +kernel
theorem dL_1465 : decode YL.2.1 1465 = .ok (.iadd, 1) := by decide +kernel
theorem dL_1466 : decode YL.2.1 1466 = .ok (.iaload, 1) := by decide +kernel
theorem dL_1467 : decode YL.2.1 1467 = .ok (.aload_n 0, 1) := by decide +kernel
theorem dL_1468 : decode YL.2.1 1468 = .ok (.iload_n 3, 1) := by decide +kernel
theorem dL_1469 : decode YL.2.1 1469 = .ok (.iconst 2, 1) := by decide +kernel
theorem dL_1470 : decode YL.2.1 1470 = .ok (.iadd, 1) := by decide +kernel
theorem dL_1471 : decode YL.2.1 1471 = .ok (.iaload, 1) := by decide +kernel
theorem dL_1472 : decode YL.2.1 1472 = .ok (.aload_n 0, 1) := by decide +kernel
theorem dL_1473 : decode YL.2.1 1473 = .ok (.iload_n 3, 1) := by decide +kernel
theorem dL_1474 : decode YL.2.1 1474 = .ok (.iconst 3, 1) := by decide +kernel
theorem dL_1475 : decode YL.2.1 1475 = .ok (.iadd, 1) := by decide +kernel
theorem dL_1476 : decode YL.2.1 1476 = .ok (.iaload, 1) := by decide +kernel
theorem dL_1477 : decode YL.2.1 1477 = .ok (.invokevirtual 132, 3) := by decide +kernel
theorem dL_1480 : decode YL.2.1 1480 = .ok (.aload_n 2, 1) := by decide +kernel
theorem dL_1481 : decode YL.2.1 1481 = .ok (.aload_n 0, 1) := by decide +kernel
theorem dL_1482 : decode YL.2.1 1482 = .ok (.iload_n 3, 1) := by decide +kernel
theorem dL_1483 : decode YL.2.1 1483 = .ok (.iconst 1, 1) := by decide +kernel
theorem dL_1484 : decode YL.2.1 1484 = .ok (.iadd, 1) := by decide +kernel
theorem dL_1485 : decode YL.2.1 1485 = .ok (.iaload, 1) := by decide +kernel
theorem dL_1486 : decode YL.2.1 1486 = .ok (.aload_n 0, 1) := by decide +kernel
theorem dL_1487 : decode YL.2.1 1487 = .ok (.iload_n 3, 1) := by decide +kernel
theorem dL_1488 : decode YL.2.1 1488 = .ok (.iconst 2, 1) := by decide +kernel
theorem dL_1489 : decode YL.2.1 1489 = .ok (.iadd, 1) := by decide +kernel
theorem dL_1490 : decode YL.2.1 1490 = .ok (.iaload, 1) := by decide +kernel
theorem dL_1491 : decode YL.2.1 1491 = .ok (.aload_n 0, 1) := by decide +kernel
theorem dL_1492 : decode YL.2.1 1492 = .ok (.iload_n 3, 1) := by decide +kernel
theorem dL_1493 : decode YL.2.1 1493 = .ok (.iconst 3, 1) := by decide +kernel
theorem dL_1494 : decode YL.2.1 1494 = .ok (.iadd, 1) := by decide +kernel
theorem dL_1495 : decode YL.2.1 1495 = .ok (.iaload, 1) := by decide +kernel
theorem dL_1496 : decode YL.2.1 1496 = .ok (.invokevirtual 135, 3) := by decide +kernel
theorem dL_1499 : decode YL.2.1 1499 = .ok (.if_icmp .eq 127, 3) := by decide +kernel
theorem dL_1502 : decode YL.2.1 1502 = .ok (.iconst 0, 1) := by decide +kernel
theorem dL_1503 : decode YL.2.1 1503 = .ok (.ireturn, 1) := by decide +kernel
theorem dL_1504 : decode YL.2.1 1504 = .ok (.aload_n 1, 1) := by decide +kernel
theorem dL_1505 : decode YL.2.1 1505 = .ok (.aload_n 0, 1) := by decide +kernel
theorem dL_1506 : decode YL.2.1 1506 = .ok (.iload_n 3, 1) := by decide +kernel
theorem dL_1507 : decode YL.2.1 1507 = .ok (.iconst 1, 1) := by decide +kernel
theorem dL_1508 : decode YL.2.1 1508 = .ok (.iadd, 1) := by decide +kernel
theorem dL_1509 : decode YL.2.1 1509 = .ok (.iaload, 1) := by decide +kernel
theorem dL_1510 : decode YL.2.1 1510 = .ok (.aload_n 0, 1) := by decide +kernel
theorem dL_1511 : decode YL.2.1 1511 = .ok (.iload_n 3, 1) := by decide +kernel
theorem dL_1512 : decode YL.2.1 1512 = .ok (.iconst 2, 1) := by decide +kernel
theorem dL_1513 : decode YL.2.1 1513 = .ok (.iadd, 1) := by decide +kernel
theorem dL_1514 : decode YL.2.1 1514 = .ok (.iaload, 1) := by decide +kernel
theorem dL_1515 : decode YL.2.1 1515 = .ok (.aload_n 0, 1) := by decide +kernel
theorem dL_1516 : decode YL.2.1 1516 = .ok (.iload_n 3, 1) := by decide +kernel
theorem dL_1517 : decode YL.2.1 1517 = .ok (.iconst 3, 1) := by decide +kernel
theorem dL_1518 : decode YL.2.1 1518 = .ok (.iadd, 1) := by decide +kernel
theorem dL_1519 : decode YL.2.1 1519 = .ok (.iaload, 1) := by decide +kernel
theorem dL_1520 : decode YL.2.1 1520 = .ok (.aload_n 0, 1) := by decide +kernel
theorem dL_1521 : decode YL.2.1 1521 = .ok (.iload_n 3, 1) := by decide +kernel
theorem dL_1522 : decode YL.2.1 1522 = .ok (.iconst 4, 1) := by decide +kernel
theorem dL_1523 : decode YL.2.1 1523 = .ok (.iadd, 1) := by decide +kernel
theorem dL_1524 : decode YL.2.1 1524 = .ok (.iaload, 1) := by decide +kernel
theorem dL_1525 : decode YL.2.1 1525 = .ok (.invokevirtual 136, 3) := by decide +kernel
theorem dL_1528 : decode YL.2.1 1528 = .ok (.aload_n 2, 1) := by decide +kernel
theorem dL_1529 : decode YL.2.1 1529 = .ok (.aload_n 0, 1) := by decide +kernel
theorem dL_1530 : decode YL.2.1 1530 = .ok (.iload_n 3, 1) := by decide +kernel
theorem dL_1531 : decode YL.2.1 1531 = .ok (.iconst 1, 1) := by decide +kernel
theorem dL_1532 : decode YL.2.1 1532 = .ok (.iadd, 1) := by decide +kernel
theorem dL_1533 : decode YL.2.1 1533 = .ok (.iaload, 1) := by decide +kernel
theorem dL_1534 : decode YL.2.1 1534 = .ok (.aload_n 0, 1) := by decide +kernel
theorem dL_1535 : decode YL.2.1 1535 = .ok (.iload_n 3, 1) := by decide +kernel
theorem dL_1536 : decode YL.2.1 1536 = .ok (.iconst 2, 1) := by decide +kernel
theorem dL_1537 : decode YL.2.1 1537 = .ok (.iadd, 1) := by decide +kernel
theorem dL_1538 : decode YL.2.1 1538 = .ok (.iaload, 1) := by decide +kernel
theorem dL_1539 : decode YL.2.1 1539 = .ok (.aload_n 0, 1) := by decide +kernel
theorem dL_1540 : decode YL.2.1 1540 = .ok (.iload_n 3, 1) := by decide +kernel
theorem dL_1541 : decode YL.2.1 1541 = .ok (.iconst 3, 1) := by decide +kernel
theorem dL_1542 : decode YL.2.1 1542 = .ok (.iadd, 1) := by decide +kernel
theorem dL_1543 : decode YL.2.1 1543 = .ok (.iaload, 1) := by decide +kernel
theorem dL_1544 : decode YL.2.1 1544 = .ok (.aload_n 0, 1) := by decide +kernel
theorem dL_1545 : decode YL.2.1 1545 = .ok (.iload_n 3, 1) := by decide +kernel
theorem dL_1546 : decode YL.2.1 1546 = .ok (.iconst 4, 1) := by decide +kernel
theorem dL_1547 : decode YL.2.1 1547 = .ok (.iadd, 1) := by decide +kernel
theorem dL_1548 : decode YL.2.1 1548 = .ok (.iaload, 1) := by decide +kernel
theorem dL_1549 : decode YL.2.1 1549 = .ok (.invokevirtual 139, 3) := by decide +kernel
theorem dL_1552 : decode YL.2.1 1552 = .ok (.if_icmp .eq 74, 3) := by decide +kernel
theorem dL_1555 : decode YL.2.1 1555 = .ok (.iconst 0, 1) := by decide +kernel
theorem dL_1556 : decode YL.2.1 1556 = .ok (.ireturn, 1) := by decide +kernel
theorem dL_1557 : decode YL.2.1 1557 = .ok (.aload_n 1, 1) := by decide +kernel
theorem dL_1558 : decode YL.2.1 1558 = .ok (.aload_n 0, 1) := by decide +kernel
theorem dL_1559 : decode YL.2.1 1559 = .ok (.iload_n 3, 1) := by decide +kernel
theorem dL_1560 : decode YL.2.1 1560 = .ok (.iconst 1, 1) := by decide +kernel
theorem dL_1561 : decode YL.2.1 1561 = .ok (.iadd, 1) := by decide +kernel
theorem dL_1562 : decode YL.2.1 1562 = .ok (.iaload, 1) := by decide +kernel
theorem dL_1563 : decode YL.2.1 1563 = .ok (.invokevirtual 140, 3) := by decide +kernel
theorem dL_1566 : decode YL.2.1 1566 = .ok (.aload_n 2, 1) := by decide +kernel
theorem dL_1567 : decode YL.2.1 1567 = .ok (.aload_n 0, 1) := by decide +kernel
theorem dL_1568 : decode YL.2.1 1568 = .ok (.iload_n 3, 1) := by decide +kernel
theorem dL_1569 : decode YL.2.1 1569 = .ok (.iconst 1, 1) := by decide +kernel
theorem dL_1570 : decode YL.2.1 1570 = .ok (.iadd, 1) := by decide +kernel
theorem dL_1571 : decode YL.2.1 1571 = .ok (.iaload, 1) := by decide +kernel
theorem dL_1572 : decode YL.2.1 1572 = .ok (.invokevirtual 143, 3) := by decide +kernel
theorem dL_1575 : decode YL.2.1 1575 = .ok (.if_icmp .eq 51, 3) := by decide +kernel
theorem dL_1578 : decode YL.2.1 1578 = .ok (.iconst 0, 1) := by decide +kernel
theorem dL_1579 : decode YL.2.1 1579 = .ok (.ireturn, 1) := by decide +kernel
theorem dL_1580 : decode YL.2.1 1580 = .ok (.aload_n 1, 1) := by decide +kernel
theorem dL_1581 : decode YL.2.1 1581 = .ok (.aload_n 0, 1) := by decide +kernel
theorem dL_1582 : decode YL.2.1 1582 = .ok (.iload_n 3, 1) := by decide +kernel
theorem dL_1583 : decode YL.2.1 1583 = .ok (.iconst 1, 1) := by decide +kernel
theorem dL_1584 : decode YL.2.1 1584 = .ok (.iadd, 1) := by decide +kernel
theorem dL_1585 : decode YL.2.1 1585 = .ok (.iaload, 1) := by decide +kernel
theorem dL_1586 : decode YL.2.1 1586 = .ok (.invokevirtual 144, 3) := by decide +kernel
theorem dL_1589 : decode YL.2.1 1589 = .ok (.aload_n 2, 1) := by decide +kernel
theorem dL_1590 : decode YL.2.1 1590 = .ok (.aload_n 0, 1) := by decide +kernel
theorem dL_1591 : decode YL.2.1 1591 = .ok (.iload_n 3, 1) := by decide +kernel
theorem dL_1592 : decode YL.2.1 1592 = .ok (.iconst 1, 1) := by decide +kernel
theorem dL_1593 : decode YL.2.1 1593 = .ok (.iadd, 1) := by decide +kernel
theorem dL_1594 : decode YL.2.1 1594 = .ok (.iaload, 1) := by decide +kernel
theorem dL_1595 : decode YL.2.1 1595 = .ok (.invokevirtual 148, 3) := by decide +kernel
theorem dL_1598 : decode YL.2.1 1598 = .ok (.if_icmp .eq 28, 3) := by decide +kernel
theorem dL_1601 : decode YL.2.1 1601 = .ok (.iconst 0, 1) := by decide +kernel
theorem dL_1602 : decode YL.2.1 1602 = .ok (.ireturn, 1) := by decide +kernel
theorem dL_1603 : decode YL.2.1 1603 = .ok (.aload_n 1, 1) := by decide +kernel
theorem dL_1604 : decode YL.2.1 1604 = .ok (.aload_n 0, 1) := by decide +kernel
theorem dL_1605 : decode YL.2.1 1605 = .ok (.iload_n 3, 1) := by decide +kernel
theorem dL_1606 : decode YL.2.1 1606 = .ok (.iconst 1, 1) := by decide +kernel
theorem dL_1607 : decode YL.2.1 1607 = .ok (.iadd, 1) := by decide +kernel
theorem dL_1608 : decode YL.2.1 1608 = .ok (.iaload, 1) := by decide +kernel
theorem dL_1609 : decode YL.2.1 1609 = .ok (.invokevirtual 149, 3) := by decide +kernel
theorem dL_1612 : decode YL.2.1 1612 = .ok (.aload_n 2, 1) := by decide +kernel
theorem dL_1613 : decode YL.2.1 1613 = .ok (.aload_n 0, 1) := by decide +kernel
theorem dL_1614 : decode YL.2.1 1614 = .ok (.iload_n 3, 1) := by decide +kernel
theorem dL_1615 : decode YL.2.1 1615 = .ok (.iconst 1, 1) := by decide +kernel
theorem dL_1616 : decode YL.2.1 1616 = .ok (.iadd, 1) := by decide +kernel
theorem dL_1617 : decode YL.2.1 1617 = .ok (.iaload, 1) := by decide +kernel
theorem dL_1618 : decode YL.2.1 1618 = .ok (.invokevirtual 152, 3) := by decide +kernel
theorem dL_1621 : decode YL.2.1 1621 = .ok (.if_icmp .eq 5, 3) := by decide +kernel
theorem dL_1624 : decode YL.2.1 1624 = .ok (.iconst 0, 1) := by decide +kernel
theorem dL_1625 : decode YL.2.1 1625 = .ok (.ireturn, 1) := by decide +kernel
theorem dL_1626 : decode YL.2.1 1626 = .ok (.iinc 3 6, 3) := by decide +kernel
theorem dL_1629 : decode YL.2.1 1629 = .ok (.goto (-1611), 3) := by decide +kernel
theorem dL_1632 : decode YL.2.1 1632 = .ok (.iconst 1, 1) := by decide +kernel
theorem dL_1633 : decode YL.2.1 1633 = .ok (.ireturn, 1) := by decide +kernel
