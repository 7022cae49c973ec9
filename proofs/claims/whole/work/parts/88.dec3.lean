set_option maxRecDepth 100000
theorem d_L_law_1332 : dec m_L_law 1332 = .ok (.iload_n 3, 1) := by decide +kernel
theorem d_L_law_1333 : dec m_L_law 1333 = .ok (.iconst 2, 1) := by decide +kernel
theorem d_L_law_1334 : dec m_L_law 1334 = .ok (.iadd, 1) := by decide +kernel
theorem d_L_law_1335 : dec m_L_law 1335 = .ok (.iaload, 1) := by decide +kernel
theorem d_L_law_1336 : dec m_L_law 1336 = .ok (.invokevirtual 162, 3) := by decide +kernel
theorem d_L_law_1339 : dec m_L_law 1339 = .ok (.aload_n 2, 1) := by decide +kernel
theorem d_L_law_1340 : dec m_L_law 1340 = .ok (.aload_n 0, 1) := by decide +kernel
theorem d_L_law_1341 : dec m_L_law 1341 = .ok (.iload_n 3, 1) := by decide +kernel
theorem d_L_law_1342 : dec m_L_law 1342 = .ok (.iconst 1, 1) := by decide +kernel
theorem d_L_law_1343 : dec m_L_law 1343 = .ok (.iadd, 1) := by decide +kernel
theorem d_L_law_1344 : dec m_L_law 1344 = .ok (.iaload, 1) := by decide +kernel
theorem d_L_law_1345 : dec m_L_law 1345 = .ok (.aload_n 0, 1) := by decide +kernel
theorem d_L_law_1346 : dec m_L_law 1346 = .ok (.iload_n 3, 1) := by decide +kernel
theorem d_L_law_1347 : dec m_L_law 1347 = .ok (.iconst 2, 1) := by decide +kernel
theorem d_L_law_1348 : dec m_L_law 1348 = .ok (.iadd, 1) := by decide +kernel
theorem d_L_law_1349 : dec m_L_law 1349 = .ok (.iaload, 1) := by decide +kernel
theorem d_L_law_1350 : dec m_L_law 1350 = .ok (.invokevirtual 165, 3) := by decide +kernel
theorem d_L_law_1353 : dec m_L_law 1353 = .ok (.if_icmp .eq 256, 3) := by decide +kernel
theorem d_L_law_1356 : dec m_L_law 1356 = .ok (.iconst 0, 1) := by decide +kernel
theorem d_L_law_1357 : dec m_L_law 1357 = .ok (.ireturn, 1) := by decide +kernel
theorem d_L_law_1358 : dec m_L_law 1358 = .ok (.aload_n 1, 1) := by decide +kernel
theorem d_L_law_1359 : dec m_L_law 1359 = .ok (.aload_n 0, 1) := by decide +kernel
theorem d_L_law_1360 : dec m_L_law 1360 = .ok (.iload_n 3, 1) := by decide +kernel
theorem d_L_law_1361 : dec m_L_law 1361 = .ok (.iconst 1, 1) := by decide +kernel
theorem d_L_law_1362 : dec m_L_law 1362 = .ok (.iadd, 1) := by decide +kernel
theorem d_L_law_1363 : dec m_L_law 1363 = .ok (.iaload, 1) := by decide +kernel
theorem d_L_law_1364 : dec m_L_law 1364 = .ok (.aload_n 0, 1) := by decide +kernel
theorem d_L_law_1365 : dec m_L_law 1365 = .ok (.iload_n 3, 1) := by decide +kernel
theorem d_L_law_1366 : dec m_L_law 1366 = .ok (.iconst 2, 1) := by decide +kernel
theorem d_L_law_1367 : dec m_L_law 1367 = .ok (.iadd, 1) := by decide +kernel
theorem d_L_law_1368 : dec m_L_law 1368 = .ok (.iaload, 1) := by decide +kernel
theorem d_L_law_1369 : dec m_L_law 1369 = .ok (.aload_n 0, 1) := by decide +kernel
theorem d_L_law_1370 : dec m_L_law 1370 = .ok (.iload_n 3, 1) := by decide +kernel
theorem d_L_law_1371 : dec m_L_law 1371 = .ok (.iconst 3, 1) := by decide +kernel
theorem d_L_law_1372 : dec m_L_law 1372 = .ok (.iadd, 1) := by decide +kernel
theorem d_L_law_1373 : dec m_L_law 1373 = .ok (.iaload, 1) := by decide +kernel
theorem d_L_law_1374 : dec m_L_law 1374 = .ok (.invokevirtual 166, 3) := by decide +kernel
theorem d_L_law_1377 : dec m_L_law 1377 = .ok (.aload_n 2, 1) := by decide +kernel
theorem d_L_law_1378 : dec m_L_law 1378 = .ok (.aload_n 0, 1) := by decide +kernel
theorem d_L_law_1379 : dec m_L_law 1379 = .ok (.iload_n 3, 1) := by decide +kernel
theorem d_L_law_1380 : dec m_L_law 1380 = .ok (.iconst 1, 1) := by decide +kernel
theorem d_L_law_1381 : dec m_L_law 1381 = .ok (.iadd, 1) := by decide +kernel
theorem d_L_law_1382 : dec m_L_law 1382 = .ok (.iaload, 1) := by decide +kernel
theorem d_L_law_1383 : dec m_L_law 1383 = .ok (.aload_n 0, 1) := by decide +kernel
theorem d_L_law_1384 : dec m_L_law 1384 = .ok (.iload_n 3, 1) := by decide +kernel
theorem d_L_law_1385 : dec m_L_law 1385 = .ok (.iconst 2, 1) := by decide +kernel
theorem d_L_law_1386 : dec m_L_law 1386 = .ok (.iadd, 1) := by decide +kernel
theorem d_L_law_1387 : dec m_L_law 1387 = .ok (.iaload, 1) := by decide +kernel
theorem d_L_law_1388 : dec m_L_law 1388 = .ok (.aload_n 0, 1) := by decide +kernel
theorem d_L_law_1389 : dec m_L_law 1389 = .ok (.iload_n 3, 1) := by decide +kernel
theorem d_L_law_1390 : dec m_L_law 1390 = .ok (.iconst 3, 1) := by decide +kernel
theorem d_L_law_1391 : dec m_L_law 1391 = .ok (.iadd, 1) := by decide +kernel
theorem d_L_law_1392 : dec m_L_law 1392 = .ok (.iaload, 1) := by decide +kernel
theorem d_L_law_1393 : dec m_L_law 1393 = .ok (.invokevirtual 169, 3) := by decide +kernel
theorem d_L_law_1396 : dec m_L_law 1396 = .ok (.if_icmp .eq 213, 3) := by decide +kernel
theorem d_L_law_1399 : dec m_L_law 1399 = .ok (.iconst 0, 1) := by decide +kernel
theorem d_L_law_1400 : dec m_L_law 1400 = .ok (.ireturn, 1) := by decide +kernel
theorem d_L_law_1401 : dec m_L_law 1401 = .ok (.aload_n 1, 1) := by decide +kernel
theorem d_L_law_1402 : dec m_L_law 1402 = .ok (.aload_n 0, 1) := by decide +kernel
theorem d_L_law_1403 : dec m_L_law 1403 = .ok (.iload_n 3, 1) := by decide +kernel
theorem d_L_law_1404 : dec m_L_law 1404 = .ok (.iconst 1, 1) := by decide +kernel
theorem d_L_law_1405 : dec m_L_law 1405 = .ok (.iadd, 1) := by decide +kernel
theorem d_L_law_1406 : dec m_L_law 1406 = .ok (.iaload, 1) := by decide +kernel
theorem d_L_law_1407 : dec m_L_law 1407 = .ok (.aload_n 0, 1) := by decide +kernel
theorem d_L_law_1408 : dec m_L_law 1408 = .ok (.iload_n 3, 1) := by decide +kernel
theorem d_L_law_1409 : dec m_L_law 1409 = .ok (.iconst 2, 1) := by decide +kernel
theorem d_L_law_1410 : dec m_L_law 1410 = .ok (.iadd, 1) := by decide +kernel
theorem d_L_law_1411 : dec m_L_law 1411 = .ok (.iaload, 1) := by decide +kernel
theorem d_L_law_1412 : dec m_L_law 1412 = .ok (.invokevirtual 170, 3) := by decide +kernel
theorem d_L_law_1415 : dec m_L_law 1415 = .ok (.aload_n 2, 1) := by decide +kernel
theorem d_L_law_1416 : dec m_L_law 1416 = .ok (.aload_n 0, 1) := by decide +kernel
theorem d_L_law_1417 : dec m_L_law 1417 = .ok (.iload_n 3, 1) := by decide +kernel
theorem d_L_law_1418 : dec m_L_law 1418 = .ok (.iconst 1, 1) := by decide +kernel
theorem d_L_law_1419 : dec m_L_law 1419 = .ok (.iadd, 1) := by decide +kernel
theorem d_L_law_1420 : dec m_L_law 1420 = .ok (.iaload, 1) := by decide +kernel
theorem d_L_law_1421 : dec m_L_law 1421 = .ok (.aload_n 0, 1) := by decide +kernel
theorem d_L_law_1422 : dec m_L_law 1422 = .ok (.iload_n 3, 1) := by decide +kernel
theorem d_L_law_1423 : dec m_L_law 1423 = .ok (.iconst 2, 1) := by decide +kernel
theorem d_L_law_1424 : dec m_L_law 1424 = .ok (.iadd, 1) := by decide +kernel
theorem d_L_law_1425 : dec m_L_law 1425 = .ok (.iaload, 1) := by decide +kernel
theorem d_L_law_1426 : dec m_L_law 1426 = .ok (.invokevirtual 173, 3) := by decide +kernel
theorem d_L_law_1429 : dec m_L_law 1429 = .ok (.if_icmp .eq 180, 3) := by decide +kernel
theorem d_L_law_1432 : dec m_L_law 1432 = .ok (.iconst 0, 1) := by decide +kernel
theorem d_L_law_1433 : dec m_L_law 1433 = .ok (.ireturn, 1) := by decide +kernel
theorem d_L_law_1434 : dec m_L_law 1434 = .ok (.aload_n 1, 1) := by decide +kernel
theorem d_L_law_1435 : dec m_L_law 1435 = .ok (.aload_n 0, 1) := by decide +kernel
theorem d_L_law_1436 : dec m_L_law 1436 = .ok (.iload_n 3, 1) := by decide +kernel
theorem d_L_law_1437 : dec m_L_law 1437 = .ok (.iconst 1, 1) := by decide +kernel
theorem d_L_law_1438 : dec m_L_law 1438 = .ok (.iadd, 1) := by decide +kernel
theorem d_L_law_1439 : dec m_L_law 1439 = .ok (.iaload, 1) := by decide +kernel
theorem d_L_law_1440 : dec m_L_law 1440 = .ok (.aload_n 0, 1) := by decide +kernel
theorem d_L_law_1441 : dec m_L_law 1441 = .ok (.iload_n 3, 1) := by decide +kernel
theorem d_L_law_1442 : dec m_L_law 1442 = .ok (.iconst 2, 1) := by decide +kernel
theorem d_L_law_1443 : dec m_L_law 1443 = .ok (.iadd, 1) := by decide +kernel
theorem d_L_law_1444 : dec m_L_law 1444 = .ok (.iaload, 1) := by decide +kernel
theorem d_L_law_1445 : dec m_L_law 1445 = .ok (.aload_n 0, 1) := by decide +kernel
theorem d_L_law_1446 : dec m_L_law 1446 = .ok (.iload_n 3, 1) := by decide +kernel
theorem d_L_law_1447 : dec m_L_law 1447 = .ok (.iconst 3, 1) := by decide +kernel
theorem d_L_law_1448 : dec m_L_law 1448 = .ok (.iadd, 1) := by decide +kernel
theorem d_L_law_1449 : dec m_L_law 1449 = .ok (.iaload, 1) := by decide +kernel
theorem d_L_law_1450 : dec m_L_law 1450 = .ok (.invokevirtual 174, 3) := by decide +kernel
theorem d_L_law_1453 : dec m_L_law 1453 = .ok (.aload_n 2, 1) := by decide +kernel
theorem d_L_law_1454 : dec m_L_law 1454 = .ok (.aload_n 0, 1) := by decide +kernel
theorem d_L_law_1455 : dec m_L_law 1455 = .ok (.iload_n 3, 1) := by decide +kernel
theorem d_L_law_1456 : dec m_L_law 1456 = .ok (.iconst 1, 1) := by decide +kernel
theorem d_L_law_1457 : dec m_L_law 1457 = .ok (.iadd, 1) := by decide +kernel
theorem d_L_law_1458 : dec m_L_law 1458 = .ok (.iaload, 1) := by decide +kernel
theorem d_L_law_1459 : dec m_L_law 1459 = .ok (.aload_n 0, 1) := by decide +kernel
theorem d_L_law_1460 : dec m_L_law 1460 = .ok (.iload_n 3, 1) := by decide +kernel
theorem d_L_law_1461 : dec m_L_law 1461 = .ok (.iconst 2, 1) := by decide +kernel
theorem d_L_law_1462 : dec m_L_law 1462 = .ok (.iadd, 1) := by decide +kernel
theorem d_L_law_1463 : dec m_L_law 1463 = .ok (.iaload, 1) := by decide +kernel
theorem d_L_law_1464 : dec m_L_law 1464 = .ok (.aload_n 0, 1) := by decide +kernel
theorem d_L_law_1465 : dec m_L_law 1465 = .ok (.iload_n 3, 1) := by decide +kernel
theorem d_L_law_1466 : dec m_L_law 1466 = .ok (.iconst 3, 1) := by decide +kernel
theorem d_L_law_1467 : dec m_L_law 1467 = .ok (.iadd, 1) := by decide +kernel
theorem d_L_law_1468 : dec m_L_law 1468 = .ok (.iaload, 1) := by decide +kernel
theorem d_L_law_1469 : dec m_L_law 1469 = .ok (.invokevirtual 177, 3) := by decide +kernel
theorem d_L_law_1472 : dec m_L_law 1472 = .ok (.if_icmp .eq 137, 3) := by decide +kernel
theorem d_L_law_1475 : dec m_L_law 1475 = .ok (.iconst 0, 1) := by decide +kernel
theorem d_L_law_1476 : dec m_L_law 1476 = .ok (.ireturn, 1) := by decide +kernel
theorem d_L_law_1477 : dec m_L_law 1477 = .ok (.aload_n 1, 1) := by decide +kernel
theorem d_L_law_1478 : dec m_L_law 1478 = .ok (.aload_n 0, 1) := by decide +kernel
theorem d_L_law_1479 : dec m_L_law 1479 = .ok (.iload_n 3, 1) := by decide +kernel
theorem d_L_law_1480 : dec m_L_law 1480 = .ok (.iconst 1, 1) := by decide +kernel
theorem d_L_law_1481 : dec m_L_law 1481 = .ok (.iadd, 1) := by decide +kernel
theorem d_L_law_1482 : dec m_L_law 1482 = .ok (.iaload, 1) := by decide +kernel
theorem d_L_law_1483 : dec m_L_law 1483 = .ok (.aload_n 0, 1) := by decide +kernel
theorem d_L_law_1484 : dec m_L_law 1484 = .ok (.iload_n 3, 1) := by decide +kernel
theorem d_L_law_1485 : dec m_L_law 1485 = .ok (.iconst 2, 1) := by decide +kernel
theorem d_L_law_1486 : dec m_L_law 1486 = .ok (.iadd, 1) := by decide +kernel
theorem d_L_law_1487 : dec m_L_law 1487 = .ok (.iaload, 1) := by decide +kernel
theorem d_L_law_1488 : dec m_L_law 1488 = .ok (.invokevirtual 178, 3) := by decide +kernel
theorem d_L_law_1491 : dec m_L_law 1491 = .ok (.aload_n 2, 1) := by decide +kernel
theorem d_L_law_1492 : dec m_L_law 1492 = .ok (.aload_n 0, 1) := by decide +kernel
theorem d_L_law_1493 : dec m_L_law 1493 = .ok (.iload_n 3, 1) := by decide +kernel
theorem d_L_law_1494 : dec m_L_law 1494 = .ok (.iconst 1, 1) := by decide +kernel
theorem d_L_law_1495 : dec m_L_law 1495 = .ok (.iadd, 1) := by decide +kernel
theorem d_L_law_1496 : dec m_L_law 1496 = .ok (.iaload, 1) := by decide +kernel
theorem d_L_law_1497 : dec m_L_law 1497 = .ok (.aload_n 0, 1) := by decide +kernel
theorem d_L_law_1498 : dec m_L_law 1498 = .ok (.iload_n 3, 1) := by decide +kernel
theorem d_L_law_1499 : dec m_L_law 1499 = .ok (.iconst 2, 1) := by decide +kernel
theorem d_L_law_1500 : dec m_L_law 1500 = .ok (.iadd, 1) := by decide +kernel
theorem d_L_law_1501 : dec m_L_law 1501 = .ok (.iaload, 1) := by decide +kernel
theorem d_L_law_1502 : dec m_L_law 1502 = .ok (.invokevirtual 181, 3) := by decide +kernel
theorem d_L_law_1505 : dec m_L_law 1505 = .ok (.if_icmp .eq 104, 3) := by decide +kernel
theorem d_L_law_1508 : dec m_L_law 1508 = .ok (.iconst 0, 1) := by decide +kernel
theorem d_L_law_1509 : dec m_L_law 1509 = .ok (.ireturn, 1) := by decide +kernel
theorem d_L_law_1510 : dec m_L_law 1510 = .ok (.aload_n 1, 1) := by decide +kernel
theorem d_L_law_1511 : dec m_L_law 1511 = .ok (.aload_n 0, 1) := by decide +kernel
theorem d_L_law_1512 : dec m_L_law 1512 = .ok (.iload_n 3, 1) := by decide +kernel
theorem d_L_law_1513 : dec m_L_law 1513 = .ok (.iconst 1, 1) := by decide +kernel
theorem d_L_law_1514 : dec m_L_law 1514 = .ok (.iadd, 1) := by decide +kernel
theorem d_L_law_1515 : dec m_L_law 1515 = .ok (.iaload, 1) := by decide +kernel
theorem d_L_law_1516 : dec m_L_law 1516 = .ok (.aload_n 0, 1) := by decide +kernel
theorem d_L_law_1517 : dec m_L_law 1517 = .ok (.iload_n 3, 1) := by decide +kernel
theorem d_L_law_1518 : dec m_L_law 1518 = .ok (.iconst 2, 1) := by decide +kernel
theorem d_L_law_1519 : dec m_L_law 1519 = .ok (.iadd, 1) := by decide +kernel
theorem d_L_law_1520 : dec m_L_law 1520 = .ok (.iaload, 1) := by decide +kernel
theorem d_L_law_1521 : dec m_L_law 1521 = .ok (.invokevirtual 182, 3) := by decide +kernel
theorem d_L_law_1524 : dec m_L_law 1524 = .ok (.aload_n 2, 1) := by decide +kernel
theorem d_L_law_1525 : dec m_L_law 1525 = .ok (.aload_n 0, 1) := by decide +kernel
theorem d_L_law_1526 : dec m_L_law 1526 = .ok (.iload_n 3, 1) := by decide +kernel
theorem d_L_law_1527 : dec m_L_law 1527 = .ok (.iconst 1, 1) := by decide +kernel
theorem d_L_law_1528 : dec m_L_law 1528 = .ok (.iadd, 1) := by decide +kernel
theorem d_L_law_1529 : dec m_L_law 1529 = .ok (.iaload, 1) := by decide +kernel
theorem d_L_law_1530 : dec m_L_law 1530 = .ok (.aload_n 0, 1) := by decide +kernel
theorem d_L_law_1531 : dec m_L_law 1531 = .ok (.iload_n 3, 1) := by decide +kernel
theorem d_L_law_1532 : dec m_L_law 1532 = .ok (.iconst 2, 1) := by decide +kernel
theorem d_L_law_1533 : dec m_L_law 1533 = .ok (.iadd, 1) := by decide +kernel
theorem d_L_law_1534 : dec m_L_law 1534 = .ok (.iaload, 1) := by decide +kernel
theorem d_L_law_1535 : dec m_L_law 1535 = .ok (.invokevirtual 185, 3) := by decide +kernel
theorem d_L_law_1538 : dec m_L_law 1538 = .ok (.if_icmp .eq 71, 3) := by decide +kernel
theorem d_L_law_1541 : dec m_L_law 1541 = .ok (.iconst 0, 1) := by decide +kernel
theorem d_L_law_1542 : dec m_L_law 1542 = .ok (.ireturn, 1) := by decide +kernel
theorem d_L_law_1543 : dec m_L_law 1543 = .ok (.aload_n 1, 1) := by decide +kernel
theorem d_L_law_1544 : dec m_L_law 1544 = .ok (.aload_n 0, 1) := by decide +kernel
theorem d_L_law_1545 : dec m_L_law 1545 = .ok (.iload_n 3, 1) := by decide +kernel
theorem d_L_law_1546 : dec m_L_law 1546 = .ok (.iconst 1, 1) := by decide +kernel
theorem d_L_law_1547 : dec m_L_law 1547 = .ok (.iadd, 1) := by decide +kernel
theorem d_L_law_1548 : dec m_L_law 1548 = .ok (.iaload, 1) := by decide +kernel
theorem d_L_law_1549 : dec m_L_law 1549 = .ok (.aload_n 0, 1) := by decide +kernel
theorem d_L_law_1550 : dec m_L_law 1550 = .ok (.iload_n 3, 1) := by decide +kernel
theorem d_L_law_1551 : dec m_L_law 1551 = .ok (.iconst 2, 1) := by decide +kernel
theorem d_L_law_1552 : dec m_L_law 1552 = .ok (.iadd, 1) := by decide +kernel
theorem d_L_law_1553 : dec m_L_law 1553 = .ok (.iaload, 1) := by decide +kernel
theorem d_L_law_1554 : dec m_L_law 1554 = .ok (.aload_n 0, 1) := by decide +kernel
theorem d_L_law_1555 : dec m_L_law 1555 = .ok (.iload_n 3, 1) := by decide +kernel
theorem d_L_law_1556 : dec m_L_law 1556 = .ok (.iconst 3, 1) := by decide +kernel
theorem d_L_law_1557 : dec m_L_law 1557 = .ok (.iadd, 1) := by decide +kernel
theorem d_L_law_1558 : dec m_L_law 1558 = .ok (.iaload, 1) := by decide +kernel
theorem d_L_law_1559 : dec m_L_law 1559 = .ok (.invokevirtual 186, 3) := by decide +kernel
theorem d_L_law_1562 : dec m_L_law 1562 = .ok (.aload_n 2, 1) := by decide +kernel
theorem d_L_law_1563 : dec m_L_law 1563 = .ok (.aload_n 0, 1) := by decide +kernel
theorem d_L_law_1564 : dec m_L_law 1564 = .ok (.iload_n 3, 1) := by decide +kernel
theorem d_L_law_1565 : dec m_L_law 1565 = .ok (.iconst 1, 1) := by decide +kernel
theorem d_L_law_1566 : dec m_L_law 1566 = .ok (.iadd, 1) := by decide +kernel
theorem d_L_law_1567 : dec m_L_law 1567 = .ok (.iaload, 1) := by decide +kernel
theorem d_L_law_1568 : dec m_L_law 1568 = .ok (.aload_n 0, 1) := by decide +kernel
theorem d_L_law_1569 : dec m_L_law 1569 = .ok (.iload_n 3, 1) := by decide +kernel
theorem d_L_law_1570 : dec m_L_law 1570 = .ok (.iconst 2, 1) := by decide +kernel
theorem d_L_law_1571 : dec m_L_law 1571 = .ok (.iadd, 1) := by decide +kernel
theorem d_L_law_1572 : dec m_L_law 1572 = .ok (.iaload, 1) := by decide +kernel
theorem d_L_law_1573 : dec m_L_law 1573 = .ok (.aload_n 0, 1) := by decide +kernel
theorem d_L_law_1574 : dec m_L_law 1574 = .ok (.iload_n 3, 1) := by decide +kernel
theorem d_L_law_1575 : dec m_L_law 1575 = .ok (.iconst 3, 1) := by decide +kernel
theorem d_L_law_1576 : dec m_L_law 1576 = .ok (.iadd, 1) := by decide +kernel
theorem d_L_law_1577 : dec m_L_law 1577 = .ok (.iaload, 1) := by decide +kernel
theorem d_L_law_1578 : dec m_L_law 1578 = .ok (.invokevirtual 189, 3) := by decide +kernel
theorem d_L_law_1581 : dec m_L_law 1581 = .ok (.if_icmp .eq 28, 3) := by decide +kernel
theorem d_L_law_1584 : dec m_L_law 1584 = .ok (.iconst 0, 1) := by decide +kernel
theorem d_L_law_1585 : dec m_L_law 1585 = .ok (.ireturn, 1) := by decide +kernel
theorem d_L_law_1586 : dec m_L_law 1586 = .ok (.aload_n 1, 1) := by decide +kernel
theorem d_L_law_1587 : dec m_L_law 1587 = .ok (.aload_n 0, 1) := by decide +kernel
theorem d_L_law_1588 : dec m_L_law 1588 = .ok (.iload_n 3, 1) := by decide +kernel
theorem d_L_law_1589 : dec m_L_law 1589 = .ok (.iconst 1, 1) := by decide +kernel
theorem d_L_law_1590 : dec m_L_law 1590 = .ok (.iadd, 1) := by decide +kernel
theorem d_L_law_1591 : dec m_L_law 1591 = .ok (.iaload, 1) := by decide +kernel
theorem d_L_law_1592 : dec m_L_law 1592 = .ok (.invokevirtual 190, 3) := by decide +kernel
theorem d_L_law_1595 : dec m_L_law 1595 = .ok (.aload_n 2, 1) := by decide +kernel
theorem d_L_law_1596 : dec m_L_law 1596 = .ok (.aload_n 0, 1) := by decide +kernel
theorem d_L_law_1597 : dec m_L_law 1597 = .ok (.iload_n 3, 1) := by decide +kernel
theorem d_L_law_1598 : dec m_L_law 1598 = .ok (.iconst 1, 1) := by decide +kernel
theorem d_L_law_1599 : dec m_L_law 1599 = .ok (.iadd, 1) := by decide +kernel
theorem d_L_law_1600 : dec m_L_law 1600 = .ok (.iaload, 1) := by decide +kernel
theorem d_L_law_1601 : dec m_L_law 1601 = .ok (.invokevirtual 193, 3) := by decide +kernel
theorem d_L_law_1604 : dec m_L_law 1604 = .ok (.if_icmp .eq 5, 3) := by decide +kernel
theorem d_L_law_1607 : dec m_L_law 1607 = .ok (.iconst 0, 1) := by decide +kernel
theorem d_L_law_1608 : dec m_L_law 1608 = .ok (.ireturn, 1) := by decide +kernel
theorem d_L_law_1609 : dec m_L_law 1609 = .ok (.iinc 3 6, 3) := by decide +kernel
theorem d_L_law_1612 : dec m_L_law 1612 = .ok (.goto (-1594), 3) := by decide +kernel
theorem d_L_law_1615 : dec m_L_law 1615 = .ok (.iconst 1, 1) := by decide +kernel
theorem d_L_law_1616 : dec m_L_law 1616 = .ok (.ireturn, 1) := by decide +kernel
