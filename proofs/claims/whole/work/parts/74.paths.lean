theorem dL_law_1238 : decode cL_law 1238 = .ok (.aload_n 1, 1) := by decide +kernel
theorem dL_law_1239 : decode cL_law 1239 = .ok (.invokevirtual 176, 3) := by decide +kernel
theorem dL_law_1242 : decode cL_law 1242 = .ok (.aload_n 2, 1) := by decide +kernel
theorem dL_law_1243 : decode cL_law 1243 = .ok (.invokevirtual 179, 3) := by decide +kernel
theorem dL_law_1246 : decode cL_law 1246 = .ok (.if_icmp .eq 519, 3) := by decide +kernel
theorem dL_law_1251 : decode cL_law 1251 = .ok (.aload_n 1, 1) := by decide +kernel
theorem dL_law_1252 : decode cL_law 1252 = .ok (.aload_n 0, 1) := by decide +kernel
theorem dL_law_1253 : decode cL_law 1253 = .ok (.iload 4, 2) := by decide +kernel
theorem dL_law_1255 : decode cL_law 1255 = .ok (.iconst 1, 1) := by decide +kernel
theorem dL_law_1256 : decode cL_law 1256 = .ok (.iadd, 1) := by decide +kernel
theorem dL_law_1257 : decode cL_law 1257 = .ok (.iaload, 1) := by decide +kernel
theorem dL_law_1258 : decode cL_law 1258 = .ok (.invokevirtual 180, 3) := by decide +kernel
theorem dL_law_1261 : decode cL_law 1261 = .ok (.aload_n 2, 1) := by decide +kernel
theorem dL_law_1262 : decode cL_law 1262 = .ok (.aload_n 0, 1) := by decide +kernel
theorem dL_law_1263 : decode cL_law 1263 = .ok (.iload 4, 2) := by decide +kernel
theorem dL_law_1265 : decode cL_law 1265 = .ok (.iconst 1, 1) := by decide +kernel
theorem dL_law_1266 : decode cL_law 1266 = .ok (.iadd, 1) := by decide +kernel
theorem dL_law_1267 : decode cL_law 1267 = .ok (.iaload, 1) := by decide +kernel
theorem dL_law_1268 : decode cL_law 1268 = .ok (.invokevirtual 183, 3) := by decide +kernel
theorem dL_law_1271 : decode cL_law 1271 = .ok (.if_icmp .eq 494, 3) := by decide +kernel
theorem dL_law_1276 : decode cL_law 1276 = .ok (.aload_n 1, 1) := by decide +kernel
theorem dL_law_1277 : decode cL_law 1277 = .ok (.aload_n 0, 1) := by decide +kernel
theorem dL_law_1278 : decode cL_law 1278 = .ok (.iload 4, 2) := by decide +kernel
theorem dL_law_1280 : decode cL_law 1280 = .ok (.iconst 1, 1) := by decide +kernel
theorem dL_law_1281 : decode cL_law 1281 = .ok (.iadd, 1) := by decide +kernel
theorem dL_law_1282 : decode cL_law 1282 = .ok (.iaload, 1) := by decide +kernel
theorem dL_law_1283 : decode cL_law 1283 = .ok (.aload_n 0, 1) := by decide +kernel
theorem dL_law_1284 : decode cL_law 1284 = .ok (.iload 4, 2) := by decide +kernel
theorem dL_law_1286 : decode cL_law 1286 = .ok (.iconst 2, 1) := by decide +kernel
theorem dL_law_1287 : decode cL_law 1287 = .ok (.iadd, 1) := by decide +kernel
theorem dL_law_1288 : decode cL_law 1288 = .ok (.iaload, 1) := by decide +kernel
theorem dL_law_1289 : decode cL_law 1289 = .ok (.invokevirtual 184, 3) := by decide +kernel
theorem dL_law_1292 : decode cL_law 1292 = .ok (.aload_n 2, 1) := by decide +kernel
theorem dL_law_1293 : decode cL_law 1293 = .ok (.aload_n 0, 1) := by decide +kernel
theorem dL_law_1294 : decode cL_law 1294 = .ok (.iload 4, 2) := by decide +kernel
theorem dL_law_1296 : decode cL_law 1296 = .ok (.iconst 1, 1) := by decide +kernel
theorem dL_law_1297 : decode cL_law 1297 = .ok (.iadd, 1) := by decide +kernel
theorem dL_law_1298 : decode cL_law 1298 = .ok (.iaload, 1) := by decide +kernel
theorem dL_law_1299 : decode cL_law 1299 = .ok (.aload_n 0, 1) := by decide +kernel
theorem dL_law_1300 : decode cL_law 1300 = .ok (.iload 4, 2) := by decide +kernel
theorem dL_law_1302 : decode cL_law 1302 = .ok (.iconst 2, 1) := by decide +kernel
theorem dL_law_1303 : decode cL_law 1303 = .ok (.iadd, 1) := by decide +kernel
theorem dL_law_1304 : decode cL_law 1304 = .ok (.iaload, 1) := by decide +kernel
theorem dL_law_1305 : decode cL_law 1305 = .ok (.invokevirtual 187, 3) := by decide +kernel
theorem dL_law_1308 : decode cL_law 1308 = .ok (.if_icmp .eq 457, 3) := by decide +kernel
theorem dL_law_1313 : decode cL_law 1313 = .ok (.aload_n 1, 1) := by decide +kernel
theorem dL_law_1314 : decode cL_law 1314 = .ok (.invokevirtual 188, 3) := by decide +kernel
theorem dL_law_1317 : decode cL_law 1317 = .ok (.aload_n 2, 1) := by decide +kernel
theorem dL_law_1318 : decode cL_law 1318 = .ok (.invokevirtual 191, 3) := by decide +kernel
theorem dL_law_1321 : decode cL_law 1321 = .ok (.if_icmp .eq 444, 3) := by decide +kernel
theorem dL_law_1326 : decode cL_law 1326 = .ok (.aload_n 1, 1) := by decide +kernel
theorem dL_law_1327 : decode cL_law 1327 = .ok (.aload_n 0, 1) := by decide +kernel
theorem dL_law_1328 : decode cL_law 1328 = .ok (.iload 4, 2) := by decide +kernel
theorem dL_law_1330 : decode cL_law 1330 = .ok (.iconst 1, 1) := by decide +kernel
theorem dL_law_1331 : decode cL_law 1331 = .ok (.iadd, 1) := by decide +kernel
theorem dL_law_1332 : decode cL_law 1332 = .ok (.iaload, 1) := by decide +kernel
theorem dL_law_1333 : decode cL_law 1333 = .ok (.invokevirtual 192, 3) := by decide +kernel
theorem dL_law_1336 : decode cL_law 1336 = .ok (.aload_n 2, 1) := by decide +kernel
theorem dL_law_1337 : decode cL_law 1337 = .ok (.aload_n 0, 1) := by decide +kernel
theorem dL_law_1338 : decode cL_law 1338 = .ok (.iload 4, 2) := by decide +kernel
theorem dL_law_1340 : decode cL_law 1340 = .ok (.iconst 1, 1) := by decide +kernel
theorem dL_law_1341 : decode cL_law 1341 = .ok (.iadd, 1) := by decide +kernel
theorem dL_law_1342 : decode cL_law 1342 = .ok (.iaload, 1) := by decide +kernel
theorem dL_law_1343 : decode cL_law 1343 = .ok (.invokevirtual 195, 3) := by decide +kernel
theorem dL_law_1346 : decode cL_law 1346 = .ok (.if_icmp .eq 419, 3) := by decide +kernel
theorem dL_law_1351 : decode cL_law 1351 = .ok (.aload_n 1, 1) := by decide +kernel
theorem dL_law_1352 : decode cL_law 1352 = .ok (.aload_n 0, 1) := by decide +kernel
theorem dL_law_1353 : decode cL_law 1353 = .ok (.iload 4, 2) := by decide +kernel
theorem dL_law_1355 : decode cL_law 1355 = .ok (.iconst 1, 1) := by decide +kernel
theorem dL_law_1356 : decode cL_law 1356 = .ok (.iadd, 1) := by decide +kernel
theorem dL_law_1357 : decode cL_law 1357 = .ok (.iaload, 1) := by decide +kernel
theorem dL_law_1358 : decode cL_law 1358 = .ok (.aload_n 0, 1) := by decide +kernel
theorem dL_law_1359 : decode cL_law 1359 = .ok (.iload 4, 2) := by decide +kernel
theorem dL_law_1361 : decode cL_law 1361 = .ok (.iconst 2, 1) := by decide +kernel
theorem dL_law_1362 : decode cL_law 1362 = .ok (.iadd, 1) := by decide +kernel
theorem dL_law_1363 : decode cL_law 1363 = .ok (.iaload, 1) := by decide +kernel
theorem dL_law_1364 : decode cL_law 1364 = .ok (.aload_n 3, 1) := by decide +kernel
theorem dL_law_1365 : decode cL_law 1365 = .ok (.invokestatic 196, 3) := by decide +kernel
theorem dL_law_1368 : decode cL_law 1368 = .ok (.istore 5, 2) := by decide +kernel
theorem dL_law_1370 : decode cL_law 1370 = .ok (.aload_n 2, 1) := by decide +kernel
theorem dL_law_1371 : decode cL_law 1371 = .ok (.aload_n 0, 1) := by decide +kernel
theorem dL_law_1372 : decode cL_law 1372 = .ok (.iload 4, 2) := by decide +kernel
theorem dL_law_1374 : decode cL_law 1374 = .ok (.iconst 1, 1) := by decide +kernel
theorem dL_law_1375 : decode cL_law 1375 = .ok (.iadd, 1) := by decide +kernel
theorem dL_law_1376 : decode cL_law 1376 = .ok (.iaload, 1) := by decide +kernel
theorem dL_law_1377 : decode cL_law 1377 = .ok (.aload_n 0, 1) := by decide +kernel
theorem dL_law_1378 : decode cL_law 1378 = .ok (.iload 4, 2) := by decide +kernel
theorem dL_law_1380 : decode cL_law 1380 = .ok (.iconst 2, 1) := by decide +kernel
theorem dL_law_1381 : decode cL_law 1381 = .ok (.iadd, 1) := by decide +kernel
theorem dL_law_1382 : decode cL_law 1382 = .ok (.iaload, 1) := by decide +kernel
theorem dL_law_1383 : decode cL_law 1383 = .ok (.invokevirtual 198, 3) := by decide +kernel
theorem dL_law_1386 : decode cL_law 1386 = .ok (.istore 6, 2) := by decide +kernel
theorem dL_law_1388 : decode cL_law 1388 = .ok (.aload_n 2, 1) := by decide +kernel
theorem dL_law_1389 : decode cL_law 1389 = .ok (.invokevirtual 61, 3) := by decide +kernel
theorem dL_law_1392 : decode cL_law 1392 = .ok (.iload 5, 2) := by decide +kernel
theorem dL_law_1394 : decode cL_law 1394 = .ok (.if_icmp .eq 5, 3) := by decide +kernel
theorem dL_law_1399 : decode cL_law 1399 = .ok (.iload 5, 2) := by decide +kernel
theorem dL_law_1401 : decode cL_law 1401 = .ok (.ifCond .ne 15, 3) := by decide +kernel
theorem dL_law_1416 : decode cL_law 1416 = .ok (.goto 349, 3) := by decide +kernel
theorem dL_law_1419 : decode cL_law 1419 = .ok (.aload_n 1, 1) := by decide +kernel
theorem dL_law_1420 : decode cL_law 1420 = .ok (.aload_n 0, 1) := by decide +kernel
theorem dL_law_1421 : decode cL_law 1421 = .ok (.iload 4, 2) := by decide +kernel
theorem dL_law_1423 : decode cL_law 1423 = .ok (.iconst 1, 1) := by decide +kernel
theorem dL_law_1424 : decode cL_law 1424 = .ok (.iadd, 1) := by decide +kernel
theorem dL_law_1425 : decode cL_law 1425 = .ok (.iaload, 1) := by decide +kernel
theorem dL_law_1426 : decode cL_law 1426 = .ok (.aload_n 0, 1) := by decide +kernel
theorem dL_law_1427 : decode cL_law 1427 = .ok (.iload 4, 2) := by decide +kernel
theorem dL_law_1429 : decode cL_law 1429 = .ok (.iconst 2, 1) := by decide +kernel
theorem dL_law_1430 : decode cL_law 1430 = .ok (.iadd, 1) := by decide +kernel
theorem dL_law_1431 : decode cL_law 1431 = .ok (.iaload, 1) := by decide +kernel
theorem dL_law_1432 : decode cL_law 1432 = .ok (.aload_n 3, 1) := by decide +kernel
theorem dL_law_1433 : decode cL_law 1433 = .ok (.invokestatic 199, 3) := by decide +kernel
theorem dL_law_1436 : decode cL_law 1436 = .ok (.istore 5, 2) := by decide +kernel
theorem dL_law_1438 : decode cL_law 1438 = .ok (.aload_n 2, 1) := by decide +kernel
theorem dL_law_1439 : decode cL_law 1439 = .ok (.aload_n 0, 1) := by decide +kernel
theorem dL_law_1440 : decode cL_law 1440 = .ok (.iload 4, 2) := by decide +kernel
theorem dL_law_1442 : decode cL_law 1442 = .ok (.iconst 1, 1) := by decide +kernel
theorem dL_law_1443 : decode cL_law 1443 = .ok (.iadd, 1) := by decide +kernel
theorem dL_law_1444 : decode cL_law 1444 = .ok (.iaload, 1) := by decide +kernel
theorem dL_law_1445 : decode cL_law 1445 = .ok (.aload_n 0, 1) := by decide +kernel
theorem dL_law_1446 : decode cL_law 1446 = .ok (.iload 4, 2) := by decide +kernel
theorem dL_law_1448 : decode cL_law 1448 = .ok (.iconst 2, 1) := by decide +kernel
theorem dL_law_1449 : decode cL_law 1449 = .ok (.iadd, 1) := by decide +kernel
theorem dL_law_1450 : decode cL_law 1450 = .ok (.iaload, 1) := by decide +kernel
theorem dL_law_1451 : decode cL_law 1451 = .ok (.invokevirtual 201, 3) := by decide +kernel
theorem dL_law_1454 : decode cL_law 1454 = .ok (.istore 6, 2) := by decide +kernel
theorem dL_law_1456 : decode cL_law 1456 = .ok (.aload_n 2, 1) := by decide +kernel
theorem dL_law_1457 : decode cL_law 1457 = .ok (.invokevirtual 61, 3) := by decide +kernel
theorem dL_law_1460 : decode cL_law 1460 = .ok (.iload 5, 2) := by decide +kernel
theorem dL_law_1462 : decode cL_law 1462 = .ok (.if_icmp .eq 5, 3) := by decide +kernel
theorem dL_law_1467 : decode cL_law 1467 = .ok (.iload 5, 2) := by decide +kernel
theorem dL_law_1469 : decode cL_law 1469 = .ok (.ifCond .ne 15, 3) := by decide +kernel
theorem dL_law_1484 : decode cL_law 1484 = .ok (.goto 281, 3) := by decide +kernel
theorem dL_law_1487 : decode cL_law 1487 = .ok (.aload_n 1, 1) := by decide +kernel
theorem dL_law_1488 : decode cL_law 1488 = .ok (.invokevirtual 202, 3) := by decide +kernel
theorem dL_law_1491 : decode cL_law 1491 = .ok (.aload_n 2, 1) := by decide +kernel
theorem dL_law_1492 : decode cL_law 1492 = .ok (.invokevirtual 205, 3) := by decide +kernel
theorem dL_law_1495 : decode cL_law 1495 = .ok (.if_icmp .eq 270, 3) := by decide +kernel
theorem dL_law_1500 : decode cL_law 1500 = .ok (.aload_n 1, 1) := by decide +kernel
theorem dL_law_1501 : decode cL_law 1501 = .ok (.aload_n 0, 1) := by decide +kernel
theorem dL_law_1502 : decode cL_law 1502 = .ok (.iload 4, 2) := by decide +kernel
theorem dL_law_1504 : decode cL_law 1504 = .ok (.iconst 1, 1) := by decide +kernel
theorem dL_law_1505 : decode cL_law 1505 = .ok (.iadd, 1) := by decide +kernel
theorem dL_law_1506 : decode cL_law 1506 = .ok (.iaload, 1) := by decide +kernel
theorem dL_law_1507 : decode cL_law 1507 = .ok (.aload_n 3, 1) := by decide +kernel
theorem dL_law_1508 : decode cL_law 1508 = .ok (.invokestatic 206, 3) := by decide +kernel
theorem dL_law_1511 : decode cL_law 1511 = .ok (.istore 5, 2) := by decide +kernel
theorem dL_law_1513 : decode cL_law 1513 = .ok (.aload_n 2, 1) := by decide +kernel
theorem dL_law_1514 : decode cL_law 1514 = .ok (.aload_n 0, 1) := by decide +kernel
theorem dL_law_1515 : decode cL_law 1515 = .ok (.iload 4, 2) := by decide +kernel
theorem dL_law_1517 : decode cL_law 1517 = .ok (.iconst 1, 1) := by decide +kernel
theorem dL_law_1518 : decode cL_law 1518 = .ok (.iadd, 1) := by decide +kernel
theorem dL_law_1519 : decode cL_law 1519 = .ok (.iaload, 1) := by decide +kernel
theorem dL_law_1520 : decode cL_law 1520 = .ok (.invokevirtual 208, 3) := by decide +kernel
theorem dL_law_1523 : decode cL_law 1523 = .ok (.lstore 6, 2) := by decide +kernel
theorem dL_law_1525 : decode cL_law 1525 = .ok (.aload_n 2, 1) := by decide +kernel
theorem dL_law_1526 : decode cL_law 1526 = .ok (.invokevirtual 61, 3) := by decide +kernel
theorem dL_law_1529 : decode cL_law 1529 = .ok (.iload 5, 2) := by decide +kernel
theorem dL_law_1531 : decode cL_law 1531 = .ok (.if_icmp .eq 5, 3) := by decide +kernel
theorem dL_law_1536 : decode cL_law 1536 = .ok (.iload 5, 2) := by decide +kernel
theorem dL_law_1538 : decode cL_law 1538 = .ok (.ifCond .ne 14, 3) := by decide +kernel
theorem dL_law_1552 : decode cL_law 1552 = .ok (.goto 213, 3) := by decide +kernel
theorem dL_law_1555 : decode cL_law 1555 = .ok (.aload_n 1, 1) := by decide +kernel
theorem dL_law_1556 : decode cL_law 1556 = .ok (.aload_n 0, 1) := by decide +kernel
theorem dL_law_1557 : decode cL_law 1557 = .ok (.iload 4, 2) := by decide +kernel
theorem dL_law_1559 : decode cL_law 1559 = .ok (.iconst 1, 1) := by decide +kernel
theorem dL_law_1560 : decode cL_law 1560 = .ok (.iadd, 1) := by decide +kernel
theorem dL_law_1561 : decode cL_law 1561 = .ok (.iaload, 1) := by decide +kernel
theorem dL_law_1562 : decode cL_law 1562 = .ok (.aload_n 0, 1) := by decide +kernel
theorem dL_law_1563 : decode cL_law 1563 = .ok (.iload 4, 2) := by decide +kernel
theorem dL_law_1565 : decode cL_law 1565 = .ok (.iconst 2, 1) := by decide +kernel
theorem dL_law_1566 : decode cL_law 1566 = .ok (.iadd, 1) := by decide +kernel
theorem dL_law_1567 : decode cL_law 1567 = .ok (.iaload, 1) := by decide +kernel
theorem dL_law_1568 : decode cL_law 1568 = .ok (.invokevirtual 209, 3) := by decide +kernel
theorem dL_law_1571 : decode cL_law 1571 = .ok (.aload_n 2, 1) := by decide +kernel
theorem dL_law_1572 : decode cL_law 1572 = .ok (.aload_n 0, 1) := by decide +kernel
theorem dL_law_1573 : decode cL_law 1573 = .ok (.iload 4, 2) := by decide +kernel
theorem dL_law_1575 : decode cL_law 1575 = .ok (.iconst 1, 1) := by decide +kernel
theorem dL_law_1576 : decode cL_law 1576 = .ok (.iadd, 1) := by decide +kernel
theorem dL_law_1577 : decode cL_law 1577 = .ok (.iaload, 1) := by decide +kernel
theorem dL_law_1578 : decode cL_law 1578 = .ok (.aload_n 0, 1) := by decide +kernel
theorem dL_law_1579 : decode cL_law 1579 = .ok (.iload 4, 2) := by decide +kernel
theorem dL_law_1581 : decode cL_law 1581 = .ok (.iconst 2, 1) := by decide +kernel
theorem dL_law_1582 : decode cL_law 1582 = .ok (.iadd, 1) := by decide +kernel
theorem dL_law_1583 : decode cL_law 1583 = .ok (.iaload, 1) := by decide +kernel
theorem dL_law_1584 : decode cL_law 1584 = .ok (.invokevirtual 212, 3) := by decide +kernel
theorem dL_law_1587 : decode cL_law 1587 = .ok (.if_icmp .eq 178, 3) := by decide +kernel
theorem dL_law_1592 : decode cL_law 1592 = .ok (.aload_n 1, 1) := by decide +kernel
theorem dL_law_1593 : decode cL_law 1593 = .ok (.aload_n 0, 1) := by decide +kernel
theorem dL_law_1594 : decode cL_law 1594 = .ok (.iload 4, 2) := by decide +kernel
theorem dL_law_1596 : decode cL_law 1596 = .ok (.iconst 1, 1) := by decide +kernel
theorem dL_law_1597 : decode cL_law 1597 = .ok (.iadd, 1) := by decide +kernel
theorem dL_law_1598 : decode cL_law 1598 = .ok (.iaload, 1) := by decide +kernel
theorem dL_law_1599 : decode cL_law 1599 = .ok (.aload_n 3, 1) := by decide +kernel
theorem dL_law_1600 : decode cL_law 1600 = .ok (.invokestatic 213, 3) := by decide +kernel
theorem dL_law_1603 : decode cL_law 1603 = .ok (.istore 5, 2) := by decide +kernel
theorem dL_law_1605 : decode cL_law 1605 = .ok (.aload_n 2, 1) := by decide +kernel
theorem dL_law_1606 : decode cL_law 1606 = .ok (.aload_n 0, 1) := by decide +kernel
theorem dL_law_1607 : decode cL_law 1607 = .ok (.iload 4, 2) := by decide +kernel
theorem dL_law_1609 : decode cL_law 1609 = .ok (.iconst 1, 1) := by decide +kernel
theorem dL_law_1610 : decode cL_law 1610 = .ok (.iadd, 1) := by decide +kernel
theorem dL_law_1611 : decode cL_law 1611 = .ok (.iaload, 1) := by decide +kernel
theorem dL_law_1612 : decode cL_law 1612 = .ok (.invokevirtual 215, 3) := by decide +kernel
theorem dL_law_1615 : decode cL_law 1615 = .ok (.lstore 6, 2) := by decide +kernel
theorem dL_law_1617 : decode cL_law 1617 = .ok (.aload_n 2, 1) := by decide +kernel
theorem dL_law_1618 : decode cL_law 1618 = .ok (.invokevirtual 61, 3) := by decide +kernel
theorem dL_law_1621 : decode cL_law 1621 = .ok (.iload 5, 2) := by decide +kernel
theorem dL_law_1623 : decode cL_law 1623 = .ok (.if_icmp .eq 5, 3) := by decide +kernel
theorem dL_law_1628 : decode cL_law 1628 = .ok (.iload 5, 2) := by decide +kernel
theorem dL_law_1630 : decode cL_law 1630 = .ok (.ifCond .ne 14, 3) := by decide +kernel
theorem dL_law_1644 : decode cL_law 1644 = .ok (.goto 121, 3) := by decide +kernel
theorem dL_law_1647 : decode cL_law 1647 = .ok (.aload_n 1, 1) := by decide +kernel
theorem dL_law_1648 : decode cL_law 1648 = .ok (.invokevirtual 216, 3) := by decide +kernel
theorem dL_law_1651 : decode cL_law 1651 = .ok (.aload_n 2, 1) := by decide +kernel
theorem dL_law_1652 : decode cL_law 1652 = .ok (.invokevirtual 219, 3) := by decide +kernel
theorem dL_law_1655 : decode cL_law 1655 = .ok (.if_icmp .eq 110, 3) := by decide +kernel
theorem dL_law_1660 : decode cL_law 1660 = .ok (.aload_n 1, 1) := by decide +kernel
theorem dL_law_1661 : decode cL_law 1661 = .ok (.aload_n 0, 1) := by decide +kernel
theorem dL_law_1662 : decode cL_law 1662 = .ok (.iload 4, 2) := by decide +kernel
theorem dL_law_1664 : decode cL_law 1664 = .ok (.iconst 1, 1) := by decide +kernel
theorem dL_law_1665 : decode cL_law 1665 = .ok (.iadd, 1) := by decide +kernel
theorem dL_law_1666 : decode cL_law 1666 = .ok (.iaload, 1) := by decide +kernel
theorem dL_law_1667 : decode cL_law 1667 = .ok (.aload_n 0, 1) := by decide +kernel
theorem dL_law_1668 : decode cL_law 1668 = .ok (.iload 4, 2) := by decide +kernel
theorem dL_law_1670 : decode cL_law 1670 = .ok (.iconst 2, 1) := by decide +kernel
theorem dL_law_1671 : decode cL_law 1671 = .ok (.iadd, 1) := by decide +kernel
theorem dL_law_1672 : decode cL_law 1672 = .ok (.iaload, 1) := by decide +kernel
theorem dL_law_1673 : decode cL_law 1673 = .ok (.aload_n 3, 1) := by decide +kernel
theorem dL_law_1674 : decode cL_law 1674 = .ok (.invokestatic 220, 3) := by decide +kernel
theorem dL_law_1677 : decode cL_law 1677 = .ok (.istore 5, 2) := by decide +kernel
theorem dL_law_1679 : decode cL_law 1679 = .ok (.aload_n 2, 1) := by decide +kernel
theorem dL_law_1680 : decode cL_law 1680 = .ok (.aload_n 0, 1) := by decide +kernel
theorem dL_law_1681 : decode cL_law 1681 = .ok (.iload 4, 2) := by decide +kernel
theorem dL_law_1683 : decode cL_law 1683 = .ok (.iconst 1, 1) := by decide +kernel
theorem dL_law_1684 : decode cL_law 1684 = .ok (.iadd, 1) := by decide +kernel
theorem dL_law_1685 : decode cL_law 1685 = .ok (.iaload, 1) := by decide +kernel
theorem dL_law_1686 : decode cL_law 1686 = .ok (.aload_n 0, 1) := by decide +kernel
theorem dL_law_1687 : decode cL_law 1687 = .ok (.iload 4, 2) := by decide +kernel
theorem dL_law_1689 : decode cL_law 1689 = .ok (.iconst 2, 1) := by decide +kernel
theorem dL_law_1690 : decode cL_law 1690 = .ok (.iadd, 1) := by decide +kernel
theorem dL_law_1691 : decode cL_law 1691 = .ok (.iaload, 1) := by decide +kernel
theorem dL_law_1692 : decode cL_law 1692 = .ok (.invokevirtual 222, 3) := by decide +kernel
theorem dL_law_1695 : decode cL_law 1695 = .ok (.lstore 6, 2) := by decide +kernel
theorem dL_law_1697 : decode cL_law 1697 = .ok (.aload_n 2, 1) := by decide +kernel
theorem dL_law_1698 : decode cL_law 1698 = .ok (.invokevirtual 61, 3) := by decide +kernel
theorem dL_law_1701 : decode cL_law 1701 = .ok (.iload 5, 2) := by decide +kernel
theorem dL_law_1703 : decode cL_law 1703 = .ok (.if_icmp .eq 5, 3) := by decide +kernel
theorem dL_law_1708 : decode cL_law 1708 = .ok (.iload 5, 2) := by decide +kernel
theorem dL_law_1710 : decode cL_law 1710 = .ok (.ifCond .ne 14, 3) := by decide +kernel
theorem dL_law_1724 : decode cL_law 1724 = .ok (.goto 41, 3) := by decide +kernel
theorem dL_law_1727 : decode cL_law 1727 = .ok (.aload_n 1, 1) := by decide +kernel
theorem dL_law_1728 : decode cL_law 1728 = .ok (.aload_n 0, 1) := by decide +kernel
theorem dL_law_1729 : decode cL_law 1729 = .ok (.iload 4, 2) := by decide +kernel
theorem dL_law_1731 : decode cL_law 1731 = .ok (.iconst 1, 1) := by decide +kernel
theorem dL_law_1732 : decode cL_law 1732 = .ok (.iadd, 1) := by decide +kernel
theorem dL_law_1733 : decode cL_law 1733 = .ok (.iaload, 1) := by decide +kernel
theorem dL_law_1734 : decode cL_law 1734 = .ok (.invokevirtual 223, 3) := by decide +kernel
theorem dL_law_1737 : decode cL_law 1737 = .ok (.aload_n 2, 1) := by decide +kernel
theorem dL_law_1738 : decode cL_law 1738 = .ok (.aload_n 0, 1) := by decide +kernel
theorem dL_law_1739 : decode cL_law 1739 = .ok (.iload 4, 2) := by decide +kernel
theorem dL_law_1741 : decode cL_law 1741 = .ok (.iconst 1, 1) := by decide +kernel
theorem dL_law_1742 : decode cL_law 1742 = .ok (.iadd, 1) := by decide +kernel
theorem dL_law_1743 : decode cL_law 1743 = .ok (.iaload, 1) := by decide +kernel
theorem dL_law_1744 : decode cL_law 1744 = .ok (.invokevirtual 226, 3) := by decide +kernel
theorem dL_law_1747 : decode cL_law 1747 = .ok (.if_icmp .eq 18, 3) := by decide +kernel
theorem dL_law_1752 : decode cL_law 1752 = .ok (.aload_n 1, 1) := by decide +kernel
theorem dL_law_1753 : decode cL_law 1753 = .ok (.invokevirtual 227, 3) := by decide +kernel
theorem dL_law_1756 : decode cL_law 1756 = .ok (.aload_n 2, 1) := by decide +kernel
theorem dL_law_1757 : decode cL_law 1757 = .ok (.invokevirtual 230, 3) := by decide +kernel
theorem dL_law_1760 : decode cL_law 1760 = .ok (.if_icmp .eq 5, 3) := by decide +kernel
set_option maxHeartbeats 400000000 in
set_option maxRecDepth 100000 in
theorem law_27_0 {p : Program} {l : Launch} {e : Env} {s : State} {m : MethodId} {below : List Frame} {meth : Method} {c : Code} {b : Nat} {xs : Nat → Int32} (E : kE) (D : va_G) (cI cJ cB cZ : ClassId) (A : Nat → Prop) (Q : State → Prop) (h0 : Nat) (h1 : Nat) (h2 : Nat) (f0 : List Value) (h3 : Nat) (f1 : List Value) (h4 : Nat) (h5 : Nat) (f2 : List Value) (f3 : List Value) (h6 : Nat) (h7 : Nat) (h8 : Nat) (h9 : Nat) (f4 : List Value) (g0 : Nat → Int32) (g1 : Nat → Int32) (g2 : Nat → Int32) (f5 : List Value) (h10 : Nat) (h11 : Nat) (h12 : Nat) (h13 : Nat) (h14 : Nat) (h15 : Nat) (h16 : Nat) (h17 : Nat) (h18 : Nat) (h19 : Nat) (g3 : Nat → Int32) (g4 : Nat → Int32) (g5 : Nat → Int32) (g6 : Nat → Int32) (g7 : Nat → Int32) (g8 : Nat → Int32) (g9 : Nat → Int32) (g10 : Nat → Int32) (g11 : Nat → Int32) (g12 : Nat → Int32) (e0 : f0[1]? = some (.ref h3)) (e1 : f1[8]? = some (.int 0)) (e2 : f0[6]? = some (.ref h4)) (e3 : f0[2]? = some (.ref h5)) (e4 : f2[13]? = some (.int 0)) (e5 : f3[10]? = some (.int 0)) (e6 : f3[11]? = some (.int 0)) (e7 : f3[0]? = some (.ref h5)) (e8 : f2[10]? = some (.int 0)) (e9 : f3[12]? = some (.int 0)) (e10 : f3[9]? = some (.ref h6)) (e11 : f3[13]? = some (.int 0)) (e12 : f3[7]? = some (.ref h7)) (e13 : f3[8]? = some (.ref h8)) (e14 : f0[7]? = some (.ref h9)) (e15 : f4[14]? = some (.int 0)) (e16 : f4[1]? = some (.ref h4)) (e17 : f5[0]? = some (.int 0)) (e18 : f5[5]? = some (.int 0)) (e19 : f5[134]? = some (.ref h10)) (e20 : f5[119]? = some (.int 0)) (e21 : f5[121]? = some (.ref h11)) (e22 : f5[33]? = some (.int 0)) (e23 : f5[32]? = some (.int 0)) (e24 : f5[131]? = some (.int 0)) (e25 : f5[127]? = some (.ref h12)) (e26 : f5[129]? = some (.int 0)) (e27 : f5[128]? = some (.ref h13)) (e28 : f5[126]? = some (.ref h14)) (e29 : f5[136]? = some (.ref h15)) (e30 : f5[132]? = some (.ref h16)) (e31 : f5[133]? = some (.ref h17)) (e32 : f5[135]? = some (.ref h18)) (e33 : f5[137]? = some (.ref h19)) (e34 : f5[149]? = some (.int 0)) (X9 : kLaw p l s m c b xs E D cI cJ cB cZ A) (T9 : kTail p l e s m b below meth c A Q) {H : Heap} {locs : List Loc} {ls : Array Slot} (hP : va_P D vwCl [(h0, .inr (11, f0)), (h3, .inr (1, f1)), (h5, .inr (2, f2)), (h4, .inr (6, f3)), (h9, .inr (0, f4)), (h6, .inl (cI, 8192, .inl g0)), (h7, .inl (cI, 48000, .inl g1)), (h8, .inl (cI, 48000, .inl g2)), (h1, .inr (12, f5)), (h10, .inl (cZ, 24, .inl g3)), (h11, .inl (cZ, 26, .inl g4)), (h12, .inl (cI, 32768, .inl g5)), (h13, .inl (cI, 3000, .inl g6)), (h14, .inl (cI, 48000, .inl g7)), (h15, .inl (cI, 4096, .inl g8)), (h16, .inl (cI, 3000, .inl g9)), (h17, .inl (cI, 3000, .inl g10)), (h18, .inl (cI, 4096, .inl g11)), (h19, .inl (cI, 3000, .inl g12))] H) (hD : va_D A [(h0, .inr (11, f0)), (h3, .inr (1, f1)), (h5, .inr (2, f2)), (h4, .inr (6, f3)), (h9, .inr (0, f4)), (h6, .inl (cI, 8192, .inl g0)), (h7, .inl (cI, 48000, .inl g1)), (h8, .inl (cI, 48000, .inl g2)), (h1, .inr (12, f5)), (h10, .inl (cZ, 24, .inl g3)), (h11, .inl (cZ, 26, .inl g4)), (h12, .inl (cI, 32768, .inl g5)), (h13, .inl (cI, 3000, .inl g6)), (h14, .inl (cI, 48000, .inl g7)), (h15, .inl (cI, 4096, .inl g8)), (h16, .inl (cI, 3000, .inl g9)), (h17, .inl (cI, 3000, .inl g10)), (h18, .inl (cI, 4096, .inl g11)), (h19, .inl (cI, 3000, .inl g12))]) (hS : va_S A s.heap H locs) (hl : lv_has ls 8 [(0, .ref b), (1, .ref h0), (2, .ref h1), (3, .ref h2), (4, .int 0)]) : W p l e room_1 s m #[Value.ref b] below meth c H locs 218 1205840 Q (F0 m 1238 ls []) := by
  obtain ⟨hl9, hx, hb, hml, hown, hts, hN, hX, hAE, hK, hA, hXs, hbl, hbA⟩ := X9
  refine lv_aload_n hx hb dL_law_1238 rfl (lv_at hl 1 rfl) ?_
  refine k_cVi (As := []) (rest := []) (wc := [(h0, .inr (11, f0)), (h3, .inr (1, f1)), (h5, .inr (2, f2)), (h4, .inr (6, f3)), (h6, .inl (cI, 8192, .inl g0)), (h7, .inl (cI, 48000, .inl g1)), (h8, .inl (cI, 48000, .inl g2)), (h9, .inr (0, f4))]) (wr := [(h1, .inr (12, f5)), (h10, .inl (cZ, 24, .inl g3)), (h11, .inl (cZ, 26, .inl g4)), (h12, .inl (cI, 32768, .inl g5)), (h13, .inl (cI, 3000, .inl g6)), (h14, .inl (cI, 48000, .inl g7)), (h15, .inl (cI, 4096, .inl g8)), (h16, .inl (cI, 3000, .inl g9)), (h17, .inl (cI, 3000, .inl g10)), (h18, .inl (cI, 4096, .inl g11)), (h19, .inl (cI, 3000, .inl g12))]) (w1 := [(h0, .inr (11, f0)), (h3, .inr (1, f1)), (h5, .inr (2, f2)), (h4, .inr (6, ((((((((((((((((((((((((((((((f3.set 10 (.int 0)).set 11 (.int 0)).set 12 (.int 1)).set 11 (.int 0)).set 11 (.int 0)).set 11 (.int 0)).set 11 (.int 0)).set 11 (.int 0)).set 11 (.int 0)).set 11 (.int 0)).set 11 (.int 0)).set 11 (.int 0)).set 11 (.int 0)).set 11 (.int 0)).set 11 (.int 0)).set 11 (.int 0)).set 11 (.int 0)).set 11 (.int 0)).set 11 (.int 0)).set 11 (.int 0)).set 11 (.int 0)).set 11 (.int 0)).set 11 (.int 0)).set 11 (.int 0)).set 11 (.int 0)).set 11 (.int 0)).set 11 (.int 0)).set 11 (.int 0)).set 13 (.int 0)).set 13 (.int 1)))), (h6, .inl (cI, 8192, .inl (upd (k_fill 0 8192 g0) 782 1))), (h7, .inl (cI, 48000, .inl (upd g1 0 0))), (h8, .inl (cI, 48000, .inl (upd g2 0 0))), (h9, .inr (0, (f4.set 14 (.int 0))))]) ⟨hx, hb, hml, hown, hts⟩ hN hX hAE hK hP hD hS hA [0, 1, 2, 3, 5, 6, 7, 4] [8, 9, 10, 11, 12, 13, 14, 15, 16, 17, 18] (ci := 11) rfl rfl rfl rfl (by decide +kernel) (by decide +kernel) (by decide +kernel) (c_X11_core_0 l E D cI cJ cB cZ h0 f0 h3 f1 h4 h5 f2 f3 h6 h7 h8 g0 g1 g2 h9 f4 e0 e1 e2 e3 e4 e5 e6 e7 e8 e9 e10 e11 e12 e13 e14 e15 e16) (cwV 0 hts g9_L_law_X11_core_176 rfl rfl rfl (by decide +kernel) ⟨Nat.le_of_ble_eq_true rfl, Nat.le_of_ble_eq_true rfl⟩) rfl hl.1 (Nat.le_of_ble_eq_true rfl) dL_law_1239 ⟨Nat.le_of_ble_eq_true rfl, Nat.le_of_ble_eq_true rfl⟩ (fun H locs hP hD hS => ?_)
  have hP : va_P D vwCl [(h1, .inr (12, f5)), (h10, .inl (cZ, 24, .inl g3)), (h11, .inl (cZ, 26, .inl g4)), (h12, .inl (cI, 32768, .inl g5)), (h13, .inl (cI, 3000, .inl g6)), (h14, .inl (cI, 48000, .inl g7)), (h15, .inl (cI, 4096, .inl g8)), (h16, .inl (cI, 3000, .inl g9)), (h17, .inl (cI, 3000, .inl g10)), (h18, .inl (cI, 4096, .inl g11)), (h19, .inl (cI, 3000, .inl g12)), (h0, .inr (11, f0)), (h3, .inr (1, f1)), (h5, .inr (2, f2)), (h4, .inr (6, ((((((((((((((((((((((((((((((f3.set 10 (.int 0)).set 11 (.int 0)).set 12 (.int 1)).set 11 (.int 0)).set 11 (.int 0)).set 11 (.int 0)).set 11 (.int 0)).set 11 (.int 0)).set 11 (.int 0)).set 11 (.int 0)).set 11 (.int 0)).set 11 (.int 0)).set 11 (.int 0)).set 11 (.int 0)).set 11 (.int 0)).set 11 (.int 0)).set 11 (.int 0)).set 11 (.int 0)).set 11 (.int 0)).set 11 (.int 0)).set 11 (.int 0)).set 11 (.int 0)).set 11 (.int 0)).set 11 (.int 0)).set 11 (.int 0)).set 11 (.int 0)).set 11 (.int 0)).set 11 (.int 0)).set 13 (.int 0)).set 13 (.int 1)))), (h6, .inl (cI, 8192, .inl (upd (k_fill 0 8192 g0) 782 1))), (h7, .inl (cI, 48000, .inl (upd g1 0 0))), (h8, .inl (cI, 48000, .inl (upd g2 0 0))), (h9, .inr (0, (f4.set 14 (.int 0))))] H := hP
  have hD : va_D A [(h1, .inr (12, f5)), (h10, .inl (cZ, 24, .inl g3)), (h11, .inl (cZ, 26, .inl g4)), (h12, .inl (cI, 32768, .inl g5)), (h13, .inl (cI, 3000, .inl g6)), (h14, .inl (cI, 48000, .inl g7)), (h15, .inl (cI, 4096, .inl g8)), (h16, .inl (cI, 3000, .inl g9)), (h17, .inl (cI, 3000, .inl g10)), (h18, .inl (cI, 4096, .inl g11)), (h19, .inl (cI, 3000, .inl g12)), (h0, .inr (11, f0)), (h3, .inr (1, f1)), (h5, .inr (2, f2)), (h4, .inr (6, ((((((((((((((((((((((((((((((f3.set 10 (.int 0)).set 11 (.int 0)).set 12 (.int 1)).set 11 (.int 0)).set 11 (.int 0)).set 11 (.int 0)).set 11 (.int 0)).set 11 (.int 0)).set 11 (.int 0)).set 11 (.int 0)).set 11 (.int 0)).set 11 (.int 0)).set 11 (.int 0)).set 11 (.int 0)).set 11 (.int 0)).set 11 (.int 0)).set 11 (.int 0)).set 11 (.int 0)).set 11 (.int 0)).set 11 (.int 0)).set 11 (.int 0)).set 11 (.int 0)).set 11 (.int 0)).set 11 (.int 0)).set 11 (.int 0)).set 11 (.int 0)).set 11 (.int 0)).set 11 (.int 0)).set 13 (.int 0)).set 13 (.int 1)))), (h6, .inl (cI, 8192, .inl (upd (k_fill 0 8192 g0) 782 1))), (h7, .inl (cI, 48000, .inl (upd g1 0 0))), (h8, .inl (cI, 48000, .inl (upd g2 0 0))), (h9, .inr (0, (f4.set 14 (.int 0))))] := hD
  refine lv_aload_n hx hb dL_law_1242 rfl (lv_at hl 2 rfl) ?_
  refine k_cVi (As := []) (rest := [.int 0]) (wc := [(h1, .inr (12, f5)), (h10, .inl (cZ, 24, .inl g3)), (h11, .inl (cZ, 26, .inl g4)), (h12, .inl (cI, 32768, .inl g5)), (h13, .inl (cI, 3000, .inl g6)), (h14, .inl (cI, 48000, .inl g7)), (h15, .inl (cI, 4096, .inl g8)), (h16, .inl (cI, 3000, .inl g9)), (h17, .inl (cI, 3000, .inl g10)), (h18, .inl (cI, 4096, .inl g11)), (h19, .inl (cI, 3000, .inl g12))]) (wr := [(h0, .inr (11, f0)), (h3, .inr (1, f1)), (h5, .inr (2, f2)), (h4, .inr (6, ((((((((((((((((((((((((((((((f3.set 10 (.int 0)).set 11 (.int 0)).set 12 (.int 1)).set 11 (.int 0)).set 11 (.int 0)).set 11 (.int 0)).set 11 (.int 0)).set 11 (.int 0)).set 11 (.int 0)).set 11 (.int 0)).set 11 (.int 0)).set 11 (.int 0)).set 11 (.int 0)).set 11 (.int 0)).set 11 (.int 0)).set 11 (.int 0)).set 11 (.int 0)).set 11 (.int 0)).set 11 (.int 0)).set 11 (.int 0)).set 11 (.int 0)).set 11 (.int 0)).set 11 (.int 0)).set 11 (.int 0)).set 11 (.int 0)).set 11 (.int 0)).set 11 (.int 0)).set 11 (.int 0)).set 13 (.int 0)).set 13 (.int 1)))), (h6, .inl (cI, 8192, .inl (upd (k_fill 0 8192 g0) 782 1))), (h7, .inl (cI, 48000, .inl (upd g1 0 0))), (h8, .inl (cI, 48000, .inl (upd g2 0 0))), (h9, .inr (0, (f4.set 14 (.int 0))))]) (w1 := [(h1, .inr (12, ((((((f5.set 0 (.int 0)).set 119 (.int 0)).set 131 (.int 1)).set 129 (.int 0)).set 129 (.int 1)).set 149 (.int 0)))), (h10, .inl (cZ, 24, .inl (upd (upd (upd (upd (upd (upd (upd (upd (upd (upd (upd (upd (upd (upd (upd (upd (upd (upd (upd (upd (upd (upd (upd (upd g3 0 0) 1 0) 2 0) 3 0) 4 0) 5 0) 6 0) 7 0) 8 0) 9 0) 10 0) 11 0) 12 0) 13 0) 14 0) 15 0) 16 0) 17 0) 18 0) 19 0) 20 0) 21 0) 22 0) 23 0))), (h11, .inl (cZ, 26, .inl (upd (upd (upd (upd (upd (upd (upd (upd (upd (upd (upd (upd (upd (upd (upd (upd (upd (upd (upd (upd (upd (upd (upd (upd (upd (upd g4 0 0) 1 0) 2 0) 3 0) 4 0) 5 0) 6 0) 7 0) 8 0) 9 0) 10 0) 11 0) 12 0) 13 0) 14 0) 15 0) 16 0) 17 0) 18 0) 19 0) 20 0) 21 0) 22 0) 23 0) 24 0) 25 0))), (h12, .inl (cI, 32768, .inl (upd (k_fill (-1) 32768 g5) 17 0))), (h13, .inl (cI, 3000, .inl (upd g6 0 (-1)))), (h14, .inl (cI, 48000, .inl (upd g7 0 0))), (h15, .inl (cI, 4096, .inl (upd (k_fill (-1) 4096 g8) 0 1))), (h16, .inl (cI, 3000, .inl (upd (upd g9 0 0) 0 1))), (h17, .inl (cI, 3000, .inl (upd (upd g10 0 0) 0 0))), (h18, .inl (cI, 4096, .inl (upd g11 0 0))), (h19, .inl (cI, 3000, .inl (upd g12 0 0)))]) ⟨hx, hb, hml, hown, hts⟩ hN hX hAE hK hP hD hS hA [0, 1, 2, 3, 4, 5, 6, 7, 8, 9, 10] [11, 12, 13, 14, 15, 16, 17, 18] (ci := 12) rfl rfl rfl rfl (by decide +kernel) (by decide +kernel) (by decide +kernel) (c_X12_core_0 l E D cI cJ cB cZ h1 f5 h10 g3 h11 h12 h13 h14 h15 h16 h17 h18 h19 g4 g5 g6 g7 g8 g9 g10 g11 g12 e17 e18 e19 e20 e21 e22 e23 e24 e25 e26 e27 e28 e29 e30 e31 e32 e33 e34) (cwV 0 hts g9_L_law_X12_core_179 rfl rfl rfl (by decide +kernel) ⟨Nat.le_of_ble_eq_true rfl, Nat.le_of_ble_eq_true rfl⟩) rfl hl.1 (Nat.le_of_ble_eq_true rfl) dL_law_1243 ⟨Nat.le_of_ble_eq_true rfl, Nat.le_of_ble_eq_true rfl⟩ (fun H locs hP hD hS => ?_)
  have hP : va_P D vwCl [(h0, .inr (11, f0)), (h3, .inr (1, f1)), (h5, .inr (2, f2)), (h4, .inr (6, ((((((((((((((((((((((((((((((f3.set 10 (.int 0)).set 11 (.int 0)).set 12 (.int 1)).set 11 (.int 0)).set 11 (.int 0)).set 11 (.int 0)).set 11 (.int 0)).set 11 (.int 0)).set 11 (.int 0)).set 11 (.int 0)).set 11 (.int 0)).set 11 (.int 0)).set 11 (.int 0)).set 11 (.int 0)).set 11 (.int 0)).set 11 (.int 0)).set 11 (.int 0)).set 11 (.int 0)).set 11 (.int 0)).set 11 (.int 0)).set 11 (.int 0)).set 11 (.int 0)).set 11 (.int 0)).set 11 (.int 0)).set 11 (.int 0)).set 11 (.int 0)).set 11 (.int 0)).set 11 (.int 0)).set 13 (.int 0)).set 13 (.int 1)))), (h6, .inl (cI, 8192, .inl (upd (k_fill 0 8192 g0) 782 1))), (h7, .inl (cI, 48000, .inl (upd g1 0 0))), (h8, .inl (cI, 48000, .inl (upd g2 0 0))), (h9, .inr (0, (f4.set 14 (.int 0)))), (h1, .inr (12, ((((((f5.set 0 (.int 0)).set 119 (.int 0)).set 131 (.int 1)).set 129 (.int 0)).set 129 (.int 1)).set 149 (.int 0)))), (h10, .inl (cZ, 24, .inl (upd (upd (upd (upd (upd (upd (upd (upd (upd (upd (upd (upd (upd (upd (upd (upd (upd (upd (upd (upd (upd (upd (upd (upd g3 0 0) 1 0) 2 0) 3 0) 4 0) 5 0) 6 0) 7 0) 8 0) 9 0) 10 0) 11 0) 12 0) 13 0) 14 0) 15 0) 16 0) 17 0) 18 0) 19 0) 20 0) 21 0) 22 0) 23 0))), (h11, .inl (cZ, 26, .inl (upd (upd (upd (upd (upd (upd (upd (upd (upd (upd (upd (upd (upd (upd (upd (upd (upd (upd (upd (upd (upd (upd (upd (upd (upd (upd g4 0 0) 1 0) 2 0) 3 0) 4 0) 5 0) 6 0) 7 0) 8 0) 9 0) 10 0) 11 0) 12 0) 13 0) 14 0) 15 0) 16 0) 17 0) 18 0) 19 0) 20 0) 21 0) 22 0) 23 0) 24 0) 25 0))), (h12, .inl (cI, 32768, .inl (upd (k_fill (-1) 32768 g5) 17 0))), (h13, .inl (cI, 3000, .inl (upd g6 0 (-1)))), (h14, .inl (cI, 48000, .inl (upd g7 0 0))), (h15, .inl (cI, 4096, .inl (upd (k_fill (-1) 4096 g8) 0 1))), (h16, .inl (cI, 3000, .inl (upd (upd g9 0 0) 0 1))), (h17, .inl (cI, 3000, .inl (upd (upd g10 0 0) 0 0))), (h18, .inl (cI, 4096, .inl (upd g11 0 0))), (h19, .inl (cI, 3000, .inl (upd g12 0 0)))] H := hP
  have hD : va_D A [(h0, .inr (11, f0)), (h3, .inr (1, f1)), (h5, .inr (2, f2)), (h4, .inr (6, ((((((((((((((((((((((((((((((f3.set 10 (.int 0)).set 11 (.int 0)).set 12 (.int 1)).set 11 (.int 0)).set 11 (.int 0)).set 11 (.int 0)).set 11 (.int 0)).set 11 (.int 0)).set 11 (.int 0)).set 11 (.int 0)).set 11 (.int 0)).set 11 (.int 0)).set 11 (.int 0)).set 11 (.int 0)).set 11 (.int 0)).set 11 (.int 0)).set 11 (.int 0)).set 11 (.int 0)).set 11 (.int 0)).set 11 (.int 0)).set 11 (.int 0)).set 11 (.int 0)).set 11 (.int 0)).set 11 (.int 0)).set 11 (.int 0)).set 11 (.int 0)).set 11 (.int 0)).set 11 (.int 0)).set 13 (.int 0)).set 13 (.int 1)))), (h6, .inl (cI, 8192, .inl (upd (k_fill 0 8192 g0) 782 1))), (h7, .inl (cI, 48000, .inl (upd g1 0 0))), (h8, .inl (cI, 48000, .inl (upd g2 0 0))), (h9, .inr (0, (f4.set 14 (.int 0)))), (h1, .inr (12, ((((((f5.set 0 (.int 0)).set 119 (.int 0)).set 131 (.int 1)).set 129 (.int 0)).set 129 (.int 1)).set 149 (.int 0)))), (h10, .inl (cZ, 24, .inl (upd (upd (upd (upd (upd (upd (upd (upd (upd (upd (upd (upd (upd (upd (upd (upd (upd (upd (upd (upd (upd (upd (upd (upd g3 0 0) 1 0) 2 0) 3 0) 4 0) 5 0) 6 0) 7 0) 8 0) 9 0) 10 0) 11 0) 12 0) 13 0) 14 0) 15 0) 16 0) 17 0) 18 0) 19 0) 20 0) 21 0) 22 0) 23 0))), (h11, .inl (cZ, 26, .inl (upd (upd (upd (upd (upd (upd (upd (upd (upd (upd (upd (upd (upd (upd (upd (upd (upd (upd (upd (upd (upd (upd (upd (upd (upd (upd g4 0 0) 1 0) 2 0) 3 0) 4 0) 5 0) 6 0) 7 0) 8 0) 9 0) 10 0) 11 0) 12 0) 13 0) 14 0) 15 0) 16 0) 17 0) 18 0) 19 0) 20 0) 21 0) 22 0) 23 0) 24 0) 25 0))), (h12, .inl (cI, 32768, .inl (upd (k_fill (-1) 32768 g5) 17 0))), (h13, .inl (cI, 3000, .inl (upd g6 0 (-1)))), (h14, .inl (cI, 48000, .inl (upd g7 0 0))), (h15, .inl (cI, 4096, .inl (upd (k_fill (-1) 4096 g8) 0 1))), (h16, .inl (cI, 3000, .inl (upd (upd g9 0 0) 0 1))), (h17, .inl (cI, 3000, .inl (upd (upd g10 0 0) 0 0))), (h18, .inl (cI, 4096, .inl (upd g11 0 0))), (h19, .inl (cI, 3000, .inl (upd g12 0 0)))] := hD
  refine lv_icmp_eq (tgt := 1765) hx hb dL_law_1246 (by decide) (fun _ => ?_) (fun c9 => absurd (by decide) c9)
  refine W.widen (k := 601024) (n := 7293034) (Nat.le_of_ble_eq_true rfl) (Nat.le_of_ble_eq_true rfl) ?_
  exact T9 _ _ _ hS (lv_sub hl [0, 4] rfl)
set_option maxHeartbeats 400000000 in
set_option maxRecDepth 100000 in
theorem law_28_0 {p : Program} {l : Launch} {e : Env} {s : State} {m : MethodId} {below : List Frame} {meth : Method} {c : Code} {b : Nat} {xs : Nat → Int32} (E : kE) (D : va_G) (cI cJ cB cZ : ClassId) (A : Nat → Prop) (Q : State → Prop) (h0 : Nat) (h1 : Nat) (h2 : Nat) (f0 : List Value) (h3 : Nat) (f1 : List Value) (f2 : List Value) (e0 : f0[7]? = some (.ref h3)) (e1 : ((xs 1) : Int32) < 0) (e2 : f2[0]? = some (.int 0)) (e3 : f2[149]? = some (.int 0)) (X9 : kLaw p l s m c b xs E D cI cJ cB cZ A) (T9 : kTail p l e s m b below meth c A Q) {H : Heap} {locs : List Loc} {ls : Array Slot} (hP : va_P D vwCl [(h0, .inr (11, f0)), (h3, .inr (0, f1)), (h1, .inr (12, f2))] H) (hD : va_D A [(h0, .inr (11, f0)), (h3, .inr (0, f1)), (h1, .inr (12, f2))]) (hS : va_S A s.heap H locs) (hl : lv_has ls 8 [(0, .ref b), (1, .ref h0), (2, .ref h1), (3, .ref h2), (4, .int 0)]) : W p l e room_1 s m #[Value.ref b] below meth c H locs 218 1205840 Q (F0 m 1251 ls []) := by
  obtain ⟨hl9, hx, hb, hml, hown, hts, hN, hX, hAE, hK, hA, hXs, hbl, hbA⟩ := X9
  refine lv_aload_n hx hb dL_law_1251 rfl (lv_at hl 1 rfl) ?_
  refine lv_aload_n hx hb dL_law_1252 rfl (lv_at hl 0 rfl) ?_
  refine lv_iload hx hb dL_law_1253 (lv_at hl 4 rfl) ?_
  refine lv_iconst (v := 1) hx hb dL_law_1255 (by decide) ?_
  refine lv_iadd hx hb dL_law_1256 ?_
  refine k_topi (y := 1) (by decide) ?_
  refine va_sld (xs := xs) hx hb hXs hbl hbA hS (k_in (by decide)) dL_law_1257 ?_
  refine k_topi (y := (xs 1)) (congrArg xs (by decide)) ?_
  refine k_cVi (As := [.int (xs 1)]) (rest := []) (wc := [(h0, .inr (11, f0)), (h3, .inr (0, f1))]) (wr := [(h1, .inr (12, f2))]) (w1 := [(h0, .inr (11, f0)), (h3, .inr (0, f1))]) ⟨hx, hb, hml, hown, hts⟩ hN hX hAE hK hP hD hS hA [0, 1] [2] (ci := 11) rfl rfl rfl rfl (by decide +kernel) (by decide +kernel) (by decide +kernel) (c_X11_inCore_1 l E D cI cJ cB cZ h0 (xs 1) f0 h3 f1 e0 e1) (cwV 1 hts g9_L_law_X11_inCore_180 rfl rfl rfl (by decide +kernel) ⟨Nat.le_of_ble_eq_true rfl, Nat.le_of_ble_eq_true rfl⟩) rfl hl.1 (Nat.le_of_ble_eq_true rfl) dL_law_1258 ⟨Nat.le_of_ble_eq_true rfl, Nat.le_of_ble_eq_true rfl⟩ (fun H locs hP hD hS => ?_)
  have hP : va_P D vwCl [(h1, .inr (12, f2)), (h0, .inr (11, f0)), (h3, .inr (0, f1))] H := hP
  have hD : va_D A [(h1, .inr (12, f2)), (h0, .inr (11, f0)), (h3, .inr (0, f1))] := hD
  refine lv_aload_n hx hb dL_law_1261 rfl (lv_at hl 2 rfl) ?_
  refine lv_aload_n hx hb dL_law_1262 rfl (lv_at hl 0 rfl) ?_
  refine lv_iload hx hb dL_law_1263 (lv_at hl 4 rfl) ?_
  refine lv_iconst (v := 1) hx hb dL_law_1265 (by decide) ?_
  refine lv_iadd hx hb dL_law_1266 ?_
  refine k_topi (y := 1) (by decide) ?_
  refine va_sld (xs := xs) hx hb hXs hbl hbA hS (k_in (by decide)) dL_law_1267 ?_
  refine k_topi (y := (xs 1)) (congrArg xs (by decide)) ?_
  refine k_cVi (As := [.int (xs 1)]) (rest := [.int (-1)]) (wc := [(h1, .inr (12, f2))]) (wr := [(h0, .inr (11, f0)), (h3, .inr (0, f1))]) (w1 := [(h1, .inr (12, (f2.set 0 (.int 0))))]) ⟨hx, hb, hml, hown, hts⟩ hN hX hAE hK hP hD hS hA [0] [1, 2] (ci := 12) rfl rfl rfl rfl (by decide +kernel) (by decide +kernel) (by decide +kernel) (c_X12_inCore_1 l E D cI cJ cB cZ h1 (xs 1) f2 e2 e3 e1) (cwV 1 hts g9_L_law_X12_inCore_183 rfl rfl rfl (by decide +kernel) ⟨Nat.le_of_ble_eq_true rfl, Nat.le_of_ble_eq_true rfl⟩) rfl hl.1 (Nat.le_of_ble_eq_true rfl) dL_law_1268 ⟨Nat.le_of_ble_eq_true rfl, Nat.le_of_ble_eq_true rfl⟩ (fun H locs hP hD hS => ?_)
  have hP : va_P D vwCl [(h0, .inr (11, f0)), (h3, .inr (0, f1)), (h1, .inr (12, (f2.set 0 (.int 0))))] H := hP
  have hD : va_D A [(h0, .inr (11, f0)), (h3, .inr (0, f1)), (h1, .inr (12, (f2.set 0 (.int 0))))] := hD
  refine lv_icmp_eq (tgt := 1765) hx hb dL_law_1271 (by decide) (fun _ => ?_) (fun c9 => absurd (by decide) c9)
  refine W.widen (k := 601024) (n := 7293034) (Nat.le_of_ble_eq_true rfl) (Nat.le_of_ble_eq_true rfl) ?_
  exact T9 _ _ _ hS (lv_sub hl [0, 4] rfl)
set_option maxHeartbeats 400000000 in
set_option maxRecDepth 100000 in
theorem law_28_1 {p : Program} {l : Launch} {e : Env} {s : State} {m : MethodId} {below : List Frame} {meth : Method} {c : Code} {b : Nat} {xs : Nat → Int32} (E : kE) (D : va_G) (cI cJ cB cZ : ClassId) (A : Nat → Prop) (Q : State → Prop) (h0 : Nat) (h1 : Nat) (h2 : Nat) (f0 : List Value) (h3 : Nat) (f1 : List Value) (f2 : List Value) (e0 : f0[7]? = some (.ref h3)) (e1 : f1[14]? = some (.int 0)) (e2 : ¬ (((xs 1) : Int32) < 0)) (e3 : f2[0]? = some (.int 0)) (e4 : f2[149]? = some (.int 0)) (X9 : kLaw p l s m c b xs E D cI cJ cB cZ A) (T9 : kTail p l e s m b below meth c A Q) {H : Heap} {locs : List Loc} {ls : Array Slot} (hP : va_P D vwCl [(h0, .inr (11, f0)), (h3, .inr (0, f1)), (h1, .inr (12, f2))] H) (hD : va_D A [(h0, .inr (11, f0)), (h3, .inr (0, f1)), (h1, .inr (12, f2))]) (hS : va_S A s.heap H locs) (hl : lv_has ls 8 [(0, .ref b), (1, .ref h0), (2, .ref h1), (3, .ref h2), (4, .int 0)]) : W p l e room_1 s m #[Value.ref b] below meth c H locs 218 1205840 Q (F0 m 1251 ls []) := by
  obtain ⟨hl9, hx, hb, hml, hown, hts, hN, hX, hAE, hK, hA, hXs, hbl, hbA⟩ := X9
  refine lv_aload_n hx hb dL_law_1251 rfl (lv_at hl 1 rfl) ?_
  refine lv_aload_n hx hb dL_law_1252 rfl (lv_at hl 0 rfl) ?_
  refine lv_iload hx hb dL_law_1253 (lv_at hl 4 rfl) ?_
  refine lv_iconst (v := 1) hx hb dL_law_1255 (by decide) ?_
  refine lv_iadd hx hb dL_law_1256 ?_
  refine k_topi (y := 1) (by decide) ?_
  refine va_sld (xs := xs) hx hb hXs hbl hbA hS (k_in (by decide)) dL_law_1257 ?_
  refine k_topi (y := (xs 1)) (congrArg xs (by decide)) ?_
  refine k_cVi (As := [.int (xs 1)]) (rest := []) (wc := [(h0, .inr (11, f0)), (h3, .inr (0, f1))]) (wr := [(h1, .inr (12, f2))]) (w1 := [(h0, .inr (11, f0)), (h3, .inr (0, f1))]) ⟨hx, hb, hml, hown, hts⟩ hN hX hAE hK hP hD hS hA [0, 1] [2] (ci := 11) rfl rfl rfl rfl (by decide +kernel) (by decide +kernel) (by decide +kernel) (c_X11_inCore_0 l E D cI cJ cB cZ h0 (xs 1) f0 h3 f1 e0 e1 e2) (cwV 1 hts g9_L_law_X11_inCore_180 rfl rfl rfl (by decide +kernel) ⟨Nat.le_of_ble_eq_true rfl, Nat.le_of_ble_eq_true rfl⟩) rfl hl.1 (Nat.le_of_ble_eq_true rfl) dL_law_1258 ⟨Nat.le_of_ble_eq_true rfl, Nat.le_of_ble_eq_true rfl⟩ (fun H locs hP hD hS => ?_)
  have hP : va_P D vwCl [(h1, .inr (12, f2)), (h0, .inr (11, f0)), (h3, .inr (0, f1))] H := hP
  have hD : va_D A [(h1, .inr (12, f2)), (h0, .inr (11, f0)), (h3, .inr (0, f1))] := hD
  refine lv_aload_n hx hb dL_law_1261 rfl (lv_at hl 2 rfl) ?_
  refine lv_aload_n hx hb dL_law_1262 rfl (lv_at hl 0 rfl) ?_
  refine lv_iload hx hb dL_law_1263 (lv_at hl 4 rfl) ?_
  refine lv_iconst (v := 1) hx hb dL_law_1265 (by decide) ?_
  refine lv_iadd hx hb dL_law_1266 ?_
  refine k_topi (y := 1) (by decide) ?_
  refine va_sld (xs := xs) hx hb hXs hbl hbA hS (k_in (by decide)) dL_law_1267 ?_
  refine k_topi (y := (xs 1)) (congrArg xs (by decide)) ?_
  refine k_cVi (As := [.int (xs 1)]) (rest := [.int (-1)]) (wc := [(h1, .inr (12, f2))]) (wr := [(h0, .inr (11, f0)), (h3, .inr (0, f1))]) (w1 := [(h1, .inr (12, (f2.set 0 (.int 0))))]) ⟨hx, hb, hml, hown, hts⟩ hN hX hAE hK hP hD hS hA [0] [1, 2] (ci := 12) rfl rfl rfl rfl (by decide +kernel) (by decide +kernel) (by decide +kernel) (c_X12_inCore_0 l E D cI cJ cB cZ h1 (xs 1) f2 e3 e4 e2) (cwV 1 hts g9_L_law_X12_inCore_183 rfl rfl rfl (by decide +kernel) ⟨Nat.le_of_ble_eq_true rfl, Nat.le_of_ble_eq_true rfl⟩) rfl hl.1 (Nat.le_of_ble_eq_true rfl) dL_law_1268 ⟨Nat.le_of_ble_eq_true rfl, Nat.le_of_ble_eq_true rfl⟩ (fun H locs hP hD hS => ?_)
  have hP : va_P D vwCl [(h0, .inr (11, f0)), (h3, .inr (0, f1)), (h1, .inr (12, (f2.set 0 (.int 0))))] H := hP
  have hD : va_D A [(h0, .inr (11, f0)), (h3, .inr (0, f1)), (h1, .inr (12, (f2.set 0 (.int 0))))] := hD
  refine lv_icmp_eq (tgt := 1765) hx hb dL_law_1271 (by decide) (fun _ => ?_) (fun c9 => absurd (by decide) c9)
  refine W.widen (k := 601024) (n := 7293034) (Nat.le_of_ble_eq_true rfl) (Nat.le_of_ble_eq_true rfl) ?_
  exact T9 _ _ _ hS (lv_sub hl [0, 4] rfl)
set_option maxHeartbeats 400000000 in
set_option maxRecDepth 100000 in
theorem law_29_0 {p : Program} {l : Launch} {e : Env} {s : State} {m : MethodId} {below : List Frame} {meth : Method} {c : Code} {b : Nat} {xs : Nat → Int32} (E : kE) (D : va_G) (cI cJ cB cZ : ClassId) (A : Nat → Prop) (Q : State → Prop) (h0 : Nat) (h1 : Nat) (h2 : Nat) (f0 : List Value) (h3 : Nat) (f1 : List Value) (h4 : Nat) (f2 : List Value) (f3 : List Value) (e0 : f0[1]? = some (.ref h3)) (e1 : f1[8]? = some (.int 0)) (e2 : f0[2]? = some (.ref h4)) (e3 : ((xs 1) : Int32) < 0) (e4 : f3[0]? = some (.int 0)) (e5 : f3[5]? = some (.int 0)) (e6 : f3[33]? = some (.int 0)) (X9 : kLaw p l s m c b xs E D cI cJ cB cZ A) (T9 : kTail p l e s m b below meth c A Q) {H : Heap} {locs : List Loc} {ls : Array Slot} (hP : va_P D vwCl [(h0, .inr (11, f0)), (h3, .inr (1, f1)), (h4, .inr (2, f2)), (h1, .inr (12, f3))] H) (hD : va_D A [(h0, .inr (11, f0)), (h3, .inr (1, f1)), (h4, .inr (2, f2)), (h1, .inr (12, f3))]) (hS : va_S A s.heap H locs) (hl : lv_has ls 8 [(0, .ref b), (1, .ref h0), (2, .ref h1), (3, .ref h2), (4, .int 0)]) : W p l e room_1 s m #[Value.ref b] below meth c H locs 218 1205840 Q (F0 m 1276 ls []) := by
  obtain ⟨hl9, hx, hb, hml, hown, hts, hN, hX, hAE, hK, hA, hXs, hbl, hbA⟩ := X9
  refine lv_aload_n hx hb dL_law_1276 rfl (lv_at hl 1 rfl) ?_
  refine lv_aload_n hx hb dL_law_1277 rfl (lv_at hl 0 rfl) ?_
  refine lv_iload hx hb dL_law_1278 (lv_at hl 4 rfl) ?_
  refine lv_iconst (v := 1) hx hb dL_law_1280 (by decide) ?_
  refine lv_iadd hx hb dL_law_1281 ?_
  refine k_topi (y := 1) (by decide) ?_
  refine va_sld (xs := xs) hx hb hXs hbl hbA hS (k_in (by decide)) dL_law_1282 ?_
  refine k_topi (y := (xs 1)) (congrArg xs (by decide)) ?_
  refine lv_aload_n hx hb dL_law_1283 rfl (lv_at hl 0 rfl) ?_
  refine lv_iload hx hb dL_law_1284 (lv_at hl 4 rfl) ?_
  refine lv_iconst (v := 2) hx hb dL_law_1286 (by decide) ?_
  refine lv_iadd hx hb dL_law_1287 ?_
  refine k_topi (y := 2) (by decide) ?_
  refine va_sld (xs := xs) hx hb hXs hbl hbA hS (k_in (by decide)) dL_law_1288 ?_
  refine k_topi (y := (xs 2)) (congrArg xs (by decide)) ?_
  refine k_cVi (As := [.int (xs 1), .int (xs 2)]) (rest := []) (wc := [(h0, .inr (11, f0)), (h3, .inr (1, f1)), (h4, .inr (2, f2))]) (wr := [(h1, .inr (12, f3))]) (w1 := [(h0, .inr (11, f0)), (h3, .inr (1, f1)), (h4, .inr (2, f2))]) ⟨hx, hb, hml, hown, hts⟩ hN hX hAE hK hP hD hS hA [0, 1, 2] [3] (ci := 11) rfl rfl rfl rfl (by decide +kernel) (by decide +kernel) (by decide +kernel) (c_X11_alike_1 l E D cI cJ cB cZ h0 (xs 1) (xs 2) f0 h3 f1 h4 f2 e0 e1 e2 e3) (cwV 2 hts g9_L_law_X11_alike_184 rfl rfl rfl (by decide +kernel) ⟨Nat.le_of_ble_eq_true rfl, Nat.le_of_ble_eq_true rfl⟩) rfl hl.1 (Nat.le_of_ble_eq_true rfl) dL_law_1289 ⟨Nat.le_of_ble_eq_true rfl, Nat.le_of_ble_eq_true rfl⟩ (fun H locs hP hD hS => ?_)
  have hP : va_P D vwCl [(h1, .inr (12, f3)), (h0, .inr (11, f0)), (h3, .inr (1, f1)), (h4, .inr (2, f2))] H := hP
  have hD : va_D A [(h1, .inr (12, f3)), (h0, .inr (11, f0)), (h3, .inr (1, f1)), (h4, .inr (2, f2))] := hD
  refine lv_aload_n hx hb dL_law_1292 rfl (lv_at hl 2 rfl) ?_
  refine lv_aload_n hx hb dL_law_1293 rfl (lv_at hl 0 rfl) ?_
  refine lv_iload hx hb dL_law_1294 (lv_at hl 4 rfl) ?_
  refine lv_iconst (v := 1) hx hb dL_law_1296 (by decide) ?_
  refine lv_iadd hx hb dL_law_1297 ?_
  refine k_topi (y := 1) (by decide) ?_
  refine va_sld (xs := xs) hx hb hXs hbl hbA hS (k_in (by decide)) dL_law_1298 ?_
  refine k_topi (y := (xs 1)) (congrArg xs (by decide)) ?_
  refine lv_aload_n hx hb dL_law_1299 rfl (lv_at hl 0 rfl) ?_
  refine lv_iload hx hb dL_law_1300 (lv_at hl 4 rfl) ?_
  refine lv_iconst (v := 2) hx hb dL_law_1302 (by decide) ?_
  refine lv_iadd hx hb dL_law_1303 ?_
  refine k_topi (y := 2) (by decide) ?_
  refine va_sld (xs := xs) hx hb hXs hbl hbA hS (k_in (by decide)) dL_law_1304 ?_
  refine k_topi (y := (xs 2)) (congrArg xs (by decide)) ?_
  refine k_cVi (As := [.int (xs 1), .int (xs 2)]) (rest := [.int (-101)]) (wc := [(h1, .inr (12, f3))]) (wr := [(h0, .inr (11, f0)), (h3, .inr (1, f1)), (h4, .inr (2, f2))]) (w1 := [(h1, .inr (12, (f3.set 0 (.int 0))))]) ⟨hx, hb, hml, hown, hts⟩ hN hX hAE hK hP hD hS hA [0] [1, 2, 3] (ci := 12) rfl rfl rfl rfl (by decide +kernel) (by decide +kernel) (by decide +kernel) (c_X12_alike_1 l E D cI cJ cB cZ h1 (xs 1) (xs 2) f3 e4 e5 e6 e3) (cwV 2 hts g9_L_law_X12_alike_187 rfl rfl rfl (by decide +kernel) ⟨Nat.le_of_ble_eq_true rfl, Nat.le_of_ble_eq_true rfl⟩) rfl hl.1 (Nat.le_of_ble_eq_true rfl) dL_law_1305 ⟨Nat.le_of_ble_eq_true rfl, Nat.le_of_ble_eq_true rfl⟩ (fun H locs hP hD hS => ?_)
  have hP : va_P D vwCl [(h0, .inr (11, f0)), (h3, .inr (1, f1)), (h4, .inr (2, f2)), (h1, .inr (12, (f3.set 0 (.int 0))))] H := hP
  have hD : va_D A [(h0, .inr (11, f0)), (h3, .inr (1, f1)), (h4, .inr (2, f2)), (h1, .inr (12, (f3.set 0 (.int 0))))] := hD
  refine lv_icmp_eq (tgt := 1765) hx hb dL_law_1308 (by decide) (fun _ => ?_) (fun c9 => absurd (by decide) c9)
  refine W.widen (k := 601024) (n := 7293034) (Nat.le_of_ble_eq_true rfl) (Nat.le_of_ble_eq_true rfl) ?_
  exact T9 _ _ _ hS (lv_sub hl [0, 4] rfl)
set_option maxHeartbeats 400000000 in
set_option maxRecDepth 100000 in
theorem law_29_1 {p : Program} {l : Launch} {e : Env} {s : State} {m : MethodId} {below : List Frame} {meth : Method} {c : Code} {b : Nat} {xs : Nat → Int32} (E : kE) (D : va_G) (cI cJ cB cZ : ClassId) (A : Nat → Prop) (Q : State → Prop) (h0 : Nat) (h1 : Nat) (h2 : Nat) (f0 : List Value) (h3 : Nat) (f1 : List Value) (h4 : Nat) (f2 : List Value) (f3 : List Value) (e0 : f0[1]? = some (.ref h3)) (e1 : f1[8]? = some (.int 0)) (e2 : f0[2]? = some (.ref h4)) (e3 : ¬ (((xs 1) : Int32) < 0)) (e4 : f2[11]? = some (.int 0)) (e5 : f3[0]? = some (.int 0)) (e6 : f3[5]? = some (.int 0)) (e7 : f3[33]? = some (.int 0)) (X9 : kLaw p l s m c b xs E D cI cJ cB cZ A) (T9 : kTail p l e s m b below meth c A Q) {H : Heap} {locs : List Loc} {ls : Array Slot} (hP : va_P D vwCl [(h0, .inr (11, f0)), (h3, .inr (1, f1)), (h4, .inr (2, f2)), (h1, .inr (12, f3))] H) (hD : va_D A [(h0, .inr (11, f0)), (h3, .inr (1, f1)), (h4, .inr (2, f2)), (h1, .inr (12, f3))]) (hS : va_S A s.heap H locs) (hl : lv_has ls 8 [(0, .ref b), (1, .ref h0), (2, .ref h1), (3, .ref h2), (4, .int 0)]) : W p l e room_1 s m #[Value.ref b] below meth c H locs 218 1205840 Q (F0 m 1276 ls []) := by
  obtain ⟨hl9, hx, hb, hml, hown, hts, hN, hX, hAE, hK, hA, hXs, hbl, hbA⟩ := X9
  refine lv_aload_n hx hb dL_law_1276 rfl (lv_at hl 1 rfl) ?_
  refine lv_aload_n hx hb dL_law_1277 rfl (lv_at hl 0 rfl) ?_
  refine lv_iload hx hb dL_law_1278 (lv_at hl 4 rfl) ?_
  refine lv_iconst (v := 1) hx hb dL_law_1280 (by decide) ?_
  refine lv_iadd hx hb dL_law_1281 ?_
  refine k_topi (y := 1) (by decide) ?_
  refine va_sld (xs := xs) hx hb hXs hbl hbA hS (k_in (by decide)) dL_law_1282 ?_
  refine k_topi (y := (xs 1)) (congrArg xs (by decide)) ?_
  refine lv_aload_n hx hb dL_law_1283 rfl (lv_at hl 0 rfl) ?_
  refine lv_iload hx hb dL_law_1284 (lv_at hl 4 rfl) ?_
  refine lv_iconst (v := 2) hx hb dL_law_1286 (by decide) ?_
  refine lv_iadd hx hb dL_law_1287 ?_
  refine k_topi (y := 2) (by decide) ?_
  refine va_sld (xs := xs) hx hb hXs hbl hbA hS (k_in (by decide)) dL_law_1288 ?_
  refine k_topi (y := (xs 2)) (congrArg xs (by decide)) ?_
  refine k_cVi (As := [.int (xs 1), .int (xs 2)]) (rest := []) (wc := [(h0, .inr (11, f0)), (h3, .inr (1, f1)), (h4, .inr (2, f2))]) (wr := [(h1, .inr (12, f3))]) (w1 := [(h0, .inr (11, f0)), (h3, .inr (1, f1)), (h4, .inr (2, f2))]) ⟨hx, hb, hml, hown, hts⟩ hN hX hAE hK hP hD hS hA [0, 1, 2] [3] (ci := 11) rfl rfl rfl rfl (by decide +kernel) (by decide +kernel) (by decide +kernel) (c_X11_alike_0 l E D cI cJ cB cZ h0 (xs 1) (xs 2) f0 h3 f1 h4 f2 e0 e1 e2 e3 e4) (cwV 2 hts g9_L_law_X11_alike_184 rfl rfl rfl (by decide +kernel) ⟨Nat.le_of_ble_eq_true rfl, Nat.le_of_ble_eq_true rfl⟩) rfl hl.1 (Nat.le_of_ble_eq_true rfl) dL_law_1289 ⟨Nat.le_of_ble_eq_true rfl, Nat.le_of_ble_eq_true rfl⟩ (fun H locs hP hD hS => ?_)
  have hP : va_P D vwCl [(h1, .inr (12, f3)), (h0, .inr (11, f0)), (h3, .inr (1, f1)), (h4, .inr (2, f2))] H := hP
  have hD : va_D A [(h1, .inr (12, f3)), (h0, .inr (11, f0)), (h3, .inr (1, f1)), (h4, .inr (2, f2))] := hD
  refine lv_aload_n hx hb dL_law_1292 rfl (lv_at hl 2 rfl) ?_
  refine lv_aload_n hx hb dL_law_1293 rfl (lv_at hl 0 rfl) ?_
  refine lv_iload hx hb dL_law_1294 (lv_at hl 4 rfl) ?_
  refine lv_iconst (v := 1) hx hb dL_law_1296 (by decide) ?_
  refine lv_iadd hx hb dL_law_1297 ?_
  refine k_topi (y := 1) (by decide) ?_
  refine va_sld (xs := xs) hx hb hXs hbl hbA hS (k_in (by decide)) dL_law_1298 ?_
  refine k_topi (y := (xs 1)) (congrArg xs (by decide)) ?_
  refine lv_aload_n hx hb dL_law_1299 rfl (lv_at hl 0 rfl) ?_
  refine lv_iload hx hb dL_law_1300 (lv_at hl 4 rfl) ?_
  refine lv_iconst (v := 2) hx hb dL_law_1302 (by decide) ?_
  refine lv_iadd hx hb dL_law_1303 ?_
  refine k_topi (y := 2) (by decide) ?_
  refine va_sld (xs := xs) hx hb hXs hbl hbA hS (k_in (by decide)) dL_law_1304 ?_
  refine k_topi (y := (xs 2)) (congrArg xs (by decide)) ?_
  refine k_cVi (As := [.int (xs 1), .int (xs 2)]) (rest := [.int (-101)]) (wc := [(h1, .inr (12, f3))]) (wr := [(h0, .inr (11, f0)), (h3, .inr (1, f1)), (h4, .inr (2, f2))]) (w1 := [(h1, .inr (12, (f3.set 0 (.int 0))))]) ⟨hx, hb, hml, hown, hts⟩ hN hX hAE hK hP hD hS hA [0] [1, 2, 3] (ci := 12) rfl rfl rfl rfl (by decide +kernel) (by decide +kernel) (by decide +kernel) (c_X12_alike_0 l E D cI cJ cB cZ h1 (xs 1) (xs 2) f3 e5 e6 e7 e3) (cwV 2 hts g9_L_law_X12_alike_187 rfl rfl rfl (by decide +kernel) ⟨Nat.le_of_ble_eq_true rfl, Nat.le_of_ble_eq_true rfl⟩) rfl hl.1 (Nat.le_of_ble_eq_true rfl) dL_law_1305 ⟨Nat.le_of_ble_eq_true rfl, Nat.le_of_ble_eq_true rfl⟩ (fun H locs hP hD hS => ?_)
  have hP : va_P D vwCl [(h0, .inr (11, f0)), (h3, .inr (1, f1)), (h4, .inr (2, f2)), (h1, .inr (12, (f3.set 0 (.int 0))))] H := hP
  have hD : va_D A [(h0, .inr (11, f0)), (h3, .inr (1, f1)), (h4, .inr (2, f2)), (h1, .inr (12, (f3.set 0 (.int 0))))] := hD
  refine lv_icmp_eq (tgt := 1765) hx hb dL_law_1308 (by decide) (fun _ => ?_) (fun c9 => absurd (by decide) c9)
  refine W.widen (k := 601024) (n := 7293034) (Nat.le_of_ble_eq_true rfl) (Nat.le_of_ble_eq_true rfl) ?_
  exact T9 _ _ _ hS (lv_sub hl [0, 4] rfl)
set_option maxHeartbeats 400000000 in
set_option maxRecDepth 100000 in
theorem law_30_0 {p : Program} {l : Launch} {e : Env} {s : State} {m : MethodId} {below : List Frame} {meth : Method} {c : Code} {b : Nat} {xs : Nat → Int32} (E : kE) (D : va_G) (cI cJ cB cZ : ClassId) (A : Nat → Prop) (Q : State → Prop) (h0 : Nat) (h1 : Nat) (h2 : Nat) (f0 : List Value) (h3 : Nat) (f1 : List Value) (h4 : Nat) (h5 : Nat) (f2 : List Value) (f3 : List Value) (h6 : Nat) (h7 : Nat) (g0 : Nat → Int32) (g1 : Nat → Int32) (f4 : List Value) (h8 : Nat) (h9 : Nat) (h10 : Nat) (h11 : Nat) (g2 : Nat → Int32) (g3 : Nat → Int32) (g4 : Nat → Int32) (g5 : Nat → Int32) (e0 : f0[1]? = some (.ref h3)) (e1 : f1[8]? = some (.int 0)) (e2 : f0[6]? = some (.ref h4)) (e3 : f0[2]? = some (.ref h5)) (e4 : f2[13]? = some (.int 0)) (e5 : f3[10]? = some (.int 0)) (e6 : f3[11]? = some (.int 0)) (e7 : f3[0]? = some (.ref h5)) (e8 : f2[10]? = some (.int 0)) (e9 : f3[12]? = some (.int 0)) (e10 : f3[9]? = some (.ref h6)) (e11 : f3[13]? = some (.int 0)) (e12 : f3[7]? = some (.ref h7)) (e13 : f4[0]? = some (.int 0)) (e14 : f4[5]? = some (.int 0)) (e15 : f4[119]? = some (.int 0)) (e16 : f4[121]? = some (.ref h8)) (e17 : f4[33]? = some (.int 0)) (e18 : f4[32]? = some (.int 0)) (e19 : f4[131]? = some (.int 0)) (e20 : f4[127]? = some (.ref h9)) (e21 : f4[129]? = some (.int 0)) (e22 : f4[128]? = some (.ref h10)) (e23 : f4[126]? = some (.ref h11)) (X9 : kLaw p l s m c b xs E D cI cJ cB cZ A) (T9 : kTail p l e s m b below meth c A Q) {H : Heap} {locs : List Loc} {ls : Array Slot} (hP : va_P D vwCl [(h0, .inr (11, f0)), (h3, .inr (1, f1)), (h5, .inr (2, f2)), (h4, .inr (6, f3)), (h6, .inl (cI, 8192, .inl g0)), (h7, .inl (cI, 48000, .inl g1)), (h1, .inr (12, f4)), (h8, .inl (cZ, 26, .inl g2)), (h9, .inl (cI, 32768, .inl g3)), (h10, .inl (cI, 3000, .inl g4)), (h11, .inl (cI, 48000, .inl g5))] H) (hD : va_D A [(h0, .inr (11, f0)), (h3, .inr (1, f1)), (h5, .inr (2, f2)), (h4, .inr (6, f3)), (h6, .inl (cI, 8192, .inl g0)), (h7, .inl (cI, 48000, .inl g1)), (h1, .inr (12, f4)), (h8, .inl (cZ, 26, .inl g2)), (h9, .inl (cI, 32768, .inl g3)), (h10, .inl (cI, 3000, .inl g4)), (h11, .inl (cI, 48000, .inl g5))]) (hS : va_S A s.heap H locs) (hl : lv_has ls 8 [(0, .ref b), (1, .ref h0), (2, .ref h1), (3, .ref h2), (4, .int 0)]) : W p l e room_1 s m #[Value.ref b] below meth c H locs 218 1205840 Q (F0 m 1313 ls []) := by
  obtain ⟨hl9, hx, hb, hml, hown, hts, hN, hX, hAE, hK, hA, hXs, hbl, hbA⟩ := X9
  refine lv_aload_n hx hb dL_law_1313 rfl (lv_at hl 1 rfl) ?_
  refine k_cVi (As := []) (rest := []) (wc := [(h0, .inr (11, f0)), (h3, .inr (1, f1)), (h5, .inr (2, f2)), (h4, .inr (6, f3)), (h6, .inl (cI, 8192, .inl g0)), (h7, .inl (cI, 48000, .inl g1))]) (wr := [(h1, .inr (12, f4)), (h8, .inl (cZ, 26, .inl g2)), (h9, .inl (cI, 32768, .inl g3)), (h10, .inl (cI, 3000, .inl g4)), (h11, .inl (cI, 48000, .inl g5))]) (w1 := [(h0, .inr (11, f0)), (h3, .inr (1, f1)), (h5, .inr (2, f2)), (h4, .inr (6, ((((((((((((((((((((((((((((((f3.set 10 (.int 0)).set 11 (.int 0)).set 12 (.int 1)).set 11 (.int 0)).set 11 (.int 0)).set 11 (.int 0)).set 11 (.int 0)).set 11 (.int 0)).set 11 (.int 0)).set 11 (.int 0)).set 11 (.int 0)).set 11 (.int 0)).set 11 (.int 0)).set 11 (.int 0)).set 11 (.int 0)).set 11 (.int 0)).set 11 (.int 0)).set 11 (.int 0)).set 11 (.int 0)).set 11 (.int 0)).set 11 (.int 0)).set 11 (.int 0)).set 11 (.int 0)).set 11 (.int 0)).set 11 (.int 0)).set 11 (.int 0)).set 11 (.int 0)).set 11 (.int 0)).set 13 (.int 0)).set 13 (.int 1)))), (h6, .inl (cI, 8192, .inl (upd (k_fill 0 8192 g0) 782 1))), (h7, .inl (cI, 48000, .inl (upd g1 0 0)))]) ⟨hx, hb, hml, hown, hts⟩ hN hX hAE hK hP hD hS hA [0, 1, 2, 3, 4, 5] [6, 7, 8, 9, 10] (ci := 11) rfl rfl rfl rfl (by decide +kernel) (by decide +kernel) (by decide +kernel) (c_X11_places_0 l E D cI cJ cB cZ h0 f0 h3 f1 h4 h5 f2 f3 h6 h7 g0 g1 e0 e1 e2 e3 e4 e5 e6 e7 e8 e9 e10 e11 e12) (cwV 0 hts g9_L_law_X11_places_188 rfl rfl rfl (by decide +kernel) ⟨Nat.le_of_ble_eq_true rfl, Nat.le_of_ble_eq_true rfl⟩) rfl hl.1 (Nat.le_of_ble_eq_true rfl) dL_law_1314 ⟨Nat.le_of_ble_eq_true rfl, Nat.le_of_ble_eq_true rfl⟩ (fun H locs hP hD hS => ?_)
  have hP : va_P D vwCl [(h1, .inr (12, f4)), (h8, .inl (cZ, 26, .inl g2)), (h9, .inl (cI, 32768, .inl g3)), (h10, .inl (cI, 3000, .inl g4)), (h11, .inl (cI, 48000, .inl g5)), (h0, .inr (11, f0)), (h3, .inr (1, f1)), (h5, .inr (2, f2)), (h4, .inr (6, ((((((((((((((((((((((((((((((f3.set 10 (.int 0)).set 11 (.int 0)).set 12 (.int 1)).set 11 (.int 0)).set 11 (.int 0)).set 11 (.int 0)).set 11 (.int 0)).set 11 (.int 0)).set 11 (.int 0)).set 11 (.int 0)).set 11 (.int 0)).set 11 (.int 0)).set 11 (.int 0)).set 11 (.int 0)).set 11 (.int 0)).set 11 (.int 0)).set 11 (.int 0)).set 11 (.int 0)).set 11 (.int 0)).set 11 (.int 0)).set 11 (.int 0)).set 11 (.int 0)).set 11 (.int 0)).set 11 (.int 0)).set 11 (.int 0)).set 11 (.int 0)).set 11 (.int 0)).set 11 (.int 0)).set 13 (.int 0)).set 13 (.int 1)))), (h6, .inl (cI, 8192, .inl (upd (k_fill 0 8192 g0) 782 1))), (h7, .inl (cI, 48000, .inl (upd g1 0 0)))] H := hP
  have hD : va_D A [(h1, .inr (12, f4)), (h8, .inl (cZ, 26, .inl g2)), (h9, .inl (cI, 32768, .inl g3)), (h10, .inl (cI, 3000, .inl g4)), (h11, .inl (cI, 48000, .inl g5)), (h0, .inr (11, f0)), (h3, .inr (1, f1)), (h5, .inr (2, f2)), (h4, .inr (6, ((((((((((((((((((((((((((((((f3.set 10 (.int 0)).set 11 (.int 0)).set 12 (.int 1)).set 11 (.int 0)).set 11 (.int 0)).set 11 (.int 0)).set 11 (.int 0)).set 11 (.int 0)).set 11 (.int 0)).set 11 (.int 0)).set 11 (.int 0)).set 11 (.int 0)).set 11 (.int 0)).set 11 (.int 0)).set 11 (.int 0)).set 11 (.int 0)).set 11 (.int 0)).set 11 (.int 0)).set 11 (.int 0)).set 11 (.int 0)).set 11 (.int 0)).set 11 (.int 0)).set 11 (.int 0)).set 11 (.int 0)).set 11 (.int 0)).set 11 (.int 0)).set 11 (.int 0)).set 11 (.int 0)).set 13 (.int 0)).set 13 (.int 1)))), (h6, .inl (cI, 8192, .inl (upd (k_fill 0 8192 g0) 782 1))), (h7, .inl (cI, 48000, .inl (upd g1 0 0)))] := hD
  refine lv_aload_n hx hb dL_law_1317 rfl (lv_at hl 2 rfl) ?_
  refine k_cVi (As := []) (rest := [.int 1]) (wc := [(h1, .inr (12, f4)), (h8, .inl (cZ, 26, .inl g2)), (h9, .inl (cI, 32768, .inl g3)), (h10, .inl (cI, 3000, .inl g4)), (h11, .inl (cI, 48000, .inl g5))]) (wr := [(h0, .inr (11, f0)), (h3, .inr (1, f1)), (h5, .inr (2, f2)), (h4, .inr (6, ((((((((((((((((((((((((((((((f3.set 10 (.int 0)).set 11 (.int 0)).set 12 (.int 1)).set 11 (.int 0)).set 11 (.int 0)).set 11 (.int 0)).set 11 (.int 0)).set 11 (.int 0)).set 11 (.int 0)).set 11 (.int 0)).set 11 (.int 0)).set 11 (.int 0)).set 11 (.int 0)).set 11 (.int 0)).set 11 (.int 0)).set 11 (.int 0)).set 11 (.int 0)).set 11 (.int 0)).set 11 (.int 0)).set 11 (.int 0)).set 11 (.int 0)).set 11 (.int 0)).set 11 (.int 0)).set 11 (.int 0)).set 11 (.int 0)).set 11 (.int 0)).set 11 (.int 0)).set 11 (.int 0)).set 13 (.int 0)).set 13 (.int 1)))), (h6, .inl (cI, 8192, .inl (upd (k_fill 0 8192 g0) 782 1))), (h7, .inl (cI, 48000, .inl (upd g1 0 0)))]) (w1 := [(h1, .inr (12, (((((f4.set 0 (.int 0)).set 119 (.int 0)).set 131 (.int 1)).set 129 (.int 0)).set 129 (.int 1)))), (h8, .inl (cZ, 26, .inl (upd (upd (upd (upd (upd (upd (upd (upd (upd (upd (upd (upd (upd (upd (upd (upd (upd (upd (upd (upd (upd (upd (upd (upd (upd (upd g2 0 0) 1 0) 2 0) 3 0) 4 0) 5 0) 6 0) 7 0) 8 0) 9 0) 10 0) 11 0) 12 0) 13 0) 14 0) 15 0) 16 0) 17 0) 18 0) 19 0) 20 0) 21 0) 22 0) 23 0) 24 0) 25 0))), (h9, .inl (cI, 32768, .inl (upd (k_fill (-1) 32768 g3) 17 0))), (h10, .inl (cI, 3000, .inl (upd g4 0 (-1)))), (h11, .inl (cI, 48000, .inl (upd g5 0 0)))]) ⟨hx, hb, hml, hown, hts⟩ hN hX hAE hK hP hD hS hA [0, 1, 2, 3, 4] [5, 6, 7, 8, 9, 10] (ci := 12) rfl rfl rfl rfl (by decide +kernel) (by decide +kernel) (by decide +kernel) (c_X12_places_0 l E D cI cJ cB cZ h1 f4 h8 g2 h9 h10 h11 g3 g4 g5 e13 e14 e15 e16 e17 e18 e19 e20 e21 e22 e23) (cwV 0 hts g9_L_law_X12_places_191 rfl rfl rfl (by decide +kernel) ⟨Nat.le_of_ble_eq_true rfl, Nat.le_of_ble_eq_true rfl⟩) rfl hl.1 (Nat.le_of_ble_eq_true rfl) dL_law_1318 ⟨Nat.le_of_ble_eq_true rfl, Nat.le_of_ble_eq_true rfl⟩ (fun H locs hP hD hS => ?_)
  have hP : va_P D vwCl [(h0, .inr (11, f0)), (h3, .inr (1, f1)), (h5, .inr (2, f2)), (h4, .inr (6, ((((((((((((((((((((((((((((((f3.set 10 (.int 0)).set 11 (.int 0)).set 12 (.int 1)).set 11 (.int 0)).set 11 (.int 0)).set 11 (.int 0)).set 11 (.int 0)).set 11 (.int 0)).set 11 (.int 0)).set 11 (.int 0)).set 11 (.int 0)).set 11 (.int 0)).set 11 (.int 0)).set 11 (.int 0)).set 11 (.int 0)).set 11 (.int 0)).set 11 (.int 0)).set 11 (.int 0)).set 11 (.int 0)).set 11 (.int 0)).set 11 (.int 0)).set 11 (.int 0)).set 11 (.int 0)).set 11 (.int 0)).set 11 (.int 0)).set 11 (.int 0)).set 11 (.int 0)).set 11 (.int 0)).set 13 (.int 0)).set 13 (.int 1)))), (h6, .inl (cI, 8192, .inl (upd (k_fill 0 8192 g0) 782 1))), (h7, .inl (cI, 48000, .inl (upd g1 0 0))), (h1, .inr (12, (((((f4.set 0 (.int 0)).set 119 (.int 0)).set 131 (.int 1)).set 129 (.int 0)).set 129 (.int 1)))), (h8, .inl (cZ, 26, .inl (upd (upd (upd (upd (upd (upd (upd (upd (upd (upd (upd (upd (upd (upd (upd (upd (upd (upd (upd (upd (upd (upd (upd (upd (upd (upd g2 0 0) 1 0) 2 0) 3 0) 4 0) 5 0) 6 0) 7 0) 8 0) 9 0) 10 0) 11 0) 12 0) 13 0) 14 0) 15 0) 16 0) 17 0) 18 0) 19 0) 20 0) 21 0) 22 0) 23 0) 24 0) 25 0))), (h9, .inl (cI, 32768, .inl (upd (k_fill (-1) 32768 g3) 17 0))), (h10, .inl (cI, 3000, .inl (upd g4 0 (-1)))), (h11, .inl (cI, 48000, .inl (upd g5 0 0)))] H := hP
  have hD : va_D A [(h0, .inr (11, f0)), (h3, .inr (1, f1)), (h5, .inr (2, f2)), (h4, .inr (6, ((((((((((((((((((((((((((((((f3.set 10 (.int 0)).set 11 (.int 0)).set 12 (.int 1)).set 11 (.int 0)).set 11 (.int 0)).set 11 (.int 0)).set 11 (.int 0)).set 11 (.int 0)).set 11 (.int 0)).set 11 (.int 0)).set 11 (.int 0)).set 11 (.int 0)).set 11 (.int 0)).set 11 (.int 0)).set 11 (.int 0)).set 11 (.int 0)).set 11 (.int 0)).set 11 (.int 0)).set 11 (.int 0)).set 11 (.int 0)).set 11 (.int 0)).set 11 (.int 0)).set 11 (.int 0)).set 11 (.int 0)).set 11 (.int 0)).set 11 (.int 0)).set 11 (.int 0)).set 11 (.int 0)).set 13 (.int 0)).set 13 (.int 1)))), (h6, .inl (cI, 8192, .inl (upd (k_fill 0 8192 g0) 782 1))), (h7, .inl (cI, 48000, .inl (upd g1 0 0))), (h1, .inr (12, (((((f4.set 0 (.int 0)).set 119 (.int 0)).set 131 (.int 1)).set 129 (.int 0)).set 129 (.int 1)))), (h8, .inl (cZ, 26, .inl (upd (upd (upd (upd (upd (upd (upd (upd (upd (upd (upd (upd (upd (upd (upd (upd (upd (upd (upd (upd (upd (upd (upd (upd (upd (upd g2 0 0) 1 0) 2 0) 3 0) 4 0) 5 0) 6 0) 7 0) 8 0) 9 0) 10 0) 11 0) 12 0) 13 0) 14 0) 15 0) 16 0) 17 0) 18 0) 19 0) 20 0) 21 0) 22 0) 23 0) 24 0) 25 0))), (h9, .inl (cI, 32768, .inl (upd (k_fill (-1) 32768 g3) 17 0))), (h10, .inl (cI, 3000, .inl (upd g4 0 (-1)))), (h11, .inl (cI, 48000, .inl (upd g5 0 0)))] := hD
  refine lv_icmp_eq (tgt := 1765) hx hb dL_law_1321 (by decide) (fun _ => ?_) (fun c9 => absurd (by decide) c9)
  refine W.widen (k := 601024) (n := 7293034) (Nat.le_of_ble_eq_true rfl) (Nat.le_of_ble_eq_true rfl) ?_
  exact T9 _ _ _ hS (lv_sub hl [0, 4] rfl)
set_option maxHeartbeats 400000000 in
set_option maxRecDepth 100000 in
theorem law_31_0 {p : Program} {l : Launch} {e : Env} {s : State} {m : MethodId} {below : List Frame} {meth : Method} {c : Code} {b : Nat} {xs : Nat → Int32} (E : kE) (D : va_G) (cI cJ cB cZ : ClassId) (A : Nat → Prop) (Q : State → Prop) (h0 : Nat) (h1 : Nat) (h2 : Nat) (f0 : List Value) (h3 : Nat) (f1 : List Value) (h4 : Nat) (f2 : List Value) (f3 : List Value) (e0 : f0[1]? = some (.ref h3)) (e1 : f1[8]? = some (.int 0)) (e2 : f0[2]? = some (.ref h4)) (e3 : ((xs 1) : Int32) < 0) (e4 : f3[0]? = some (.int 0)) (e5 : f3[5]? = some (.int 0)) (e6 : f3[33]? = some (.int 0)) (X9 : kLaw p l s m c b xs E D cI cJ cB cZ A) (T9 : kTail p l e s m b below meth c A Q) {H : Heap} {locs : List Loc} {ls : Array Slot} (hP : va_P D vwCl [(h0, .inr (11, f0)), (h3, .inr (1, f1)), (h4, .inr (2, f2)), (h1, .inr (12, f3))] H) (hD : va_D A [(h0, .inr (11, f0)), (h3, .inr (1, f1)), (h4, .inr (2, f2)), (h1, .inr (12, f3))]) (hS : va_S A s.heap H locs) (hl : lv_has ls 8 [(0, .ref b), (1, .ref h0), (2, .ref h1), (3, .ref h2), (4, .int 0)]) : W p l e room_1 s m #[Value.ref b] below meth c H locs 218 1205840 Q (F0 m 1326 ls []) := by
  obtain ⟨hl9, hx, hb, hml, hown, hts, hN, hX, hAE, hK, hA, hXs, hbl, hbA⟩ := X9
  refine lv_aload_n hx hb dL_law_1326 rfl (lv_at hl 1 rfl) ?_
  refine lv_aload_n hx hb dL_law_1327 rfl (lv_at hl 0 rfl) ?_
  refine lv_iload hx hb dL_law_1328 (lv_at hl 4 rfl) ?_
  refine lv_iconst (v := 1) hx hb dL_law_1330 (by decide) ?_
  refine lv_iadd hx hb dL_law_1331 ?_
  refine k_topi (y := 1) (by decide) ?_
  refine va_sld (xs := xs) hx hb hXs hbl hbA hS (k_in (by decide)) dL_law_1332 ?_
  refine k_topi (y := (xs 1)) (congrArg xs (by decide)) ?_
  refine k_cVi (As := [.int (xs 1)]) (rest := []) (wc := [(h0, .inr (11, f0)), (h3, .inr (1, f1)), (h4, .inr (2, f2))]) (wr := [(h1, .inr (12, f3))]) (w1 := [(h0, .inr (11, f0)), (h3, .inr (1, f1)), (h4, .inr (2, f2))]) ⟨hx, hb, hml, hown, hts⟩ hN hX hAE hK hP hD hS hA [0, 1, 2] [3] (ci := 11) rfl rfl rfl rfl (by decide +kernel) (by decide +kernel) (by decide +kernel) (c_X11_own_1 l E D cI cJ cB cZ h0 (xs 1) f0 h3 f1 h4 f2 e0 e1 e2 e3) (cwV 1 hts g9_L_law_X11_own_192 rfl rfl rfl (by decide +kernel) ⟨Nat.le_of_ble_eq_true rfl, Nat.le_of_ble_eq_true rfl⟩) rfl hl.1 (Nat.le_of_ble_eq_true rfl) dL_law_1333 ⟨Nat.le_of_ble_eq_true rfl, Nat.le_of_ble_eq_true rfl⟩ (fun H locs hP hD hS => ?_)
  have hP : va_P D vwCl [(h1, .inr (12, f3)), (h0, .inr (11, f0)), (h3, .inr (1, f1)), (h4, .inr (2, f2))] H := hP
  have hD : va_D A [(h1, .inr (12, f3)), (h0, .inr (11, f0)), (h3, .inr (1, f1)), (h4, .inr (2, f2))] := hD
  refine lv_aload_n hx hb dL_law_1336 rfl (lv_at hl 2 rfl) ?_
  refine lv_aload_n hx hb dL_law_1337 rfl (lv_at hl 0 rfl) ?_
  refine lv_iload hx hb dL_law_1338 (lv_at hl 4 rfl) ?_
  refine lv_iconst (v := 1) hx hb dL_law_1340 (by decide) ?_
  refine lv_iadd hx hb dL_law_1341 ?_
  refine k_topi (y := 1) (by decide) ?_
  refine va_sld (xs := xs) hx hb hXs hbl hbA hS (k_in (by decide)) dL_law_1342 ?_
  refine k_topi (y := (xs 1)) (congrArg xs (by decide)) ?_
  refine k_cVi (As := [.int (xs 1)]) (rest := [.int (-101)]) (wc := [(h1, .inr (12, f3))]) (wr := [(h0, .inr (11, f0)), (h3, .inr (1, f1)), (h4, .inr (2, f2))]) (w1 := [(h1, .inr (12, (f3.set 0 (.int 0))))]) ⟨hx, hb, hml, hown, hts⟩ hN hX hAE hK hP hD hS hA [0] [1, 2, 3] (ci := 12) rfl rfl rfl rfl (by decide +kernel) (by decide +kernel) (by decide +kernel) (c_X12_own_1 l E D cI cJ cB cZ h1 (xs 1) f3 e4 e5 e6 e3) (cwV 1 hts g9_L_law_X12_own_195 rfl rfl rfl (by decide +kernel) ⟨Nat.le_of_ble_eq_true rfl, Nat.le_of_ble_eq_true rfl⟩) rfl hl.1 (Nat.le_of_ble_eq_true rfl) dL_law_1343 ⟨Nat.le_of_ble_eq_true rfl, Nat.le_of_ble_eq_true rfl⟩ (fun H locs hP hD hS => ?_)
  have hP : va_P D vwCl [(h0, .inr (11, f0)), (h3, .inr (1, f1)), (h4, .inr (2, f2)), (h1, .inr (12, (f3.set 0 (.int 0))))] H := hP
  have hD : va_D A [(h0, .inr (11, f0)), (h3, .inr (1, f1)), (h4, .inr (2, f2)), (h1, .inr (12, (f3.set 0 (.int 0))))] := hD
  refine lv_icmp_eq (tgt := 1765) hx hb dL_law_1346 (by decide) (fun _ => ?_) (fun c9 => absurd (by decide) c9)
  refine W.widen (k := 601024) (n := 7293034) (Nat.le_of_ble_eq_true rfl) (Nat.le_of_ble_eq_true rfl) ?_
  exact T9 _ _ _ hS (lv_sub hl [0, 4] rfl)
set_option maxHeartbeats 400000000 in
set_option maxRecDepth 100000 in
theorem law_31_1 {p : Program} {l : Launch} {e : Env} {s : State} {m : MethodId} {below : List Frame} {meth : Method} {c : Code} {b : Nat} {xs : Nat → Int32} (E : kE) (D : va_G) (cI cJ cB cZ : ClassId) (A : Nat → Prop) (Q : State → Prop) (h0 : Nat) (h1 : Nat) (h2 : Nat) (f0 : List Value) (h3 : Nat) (f1 : List Value) (h4 : Nat) (f2 : List Value) (f3 : List Value) (e0 : f0[1]? = some (.ref h3)) (e1 : f1[8]? = some (.int 0)) (e2 : f0[2]? = some (.ref h4)) (e3 : ¬ (((xs 1) : Int32) < 0)) (e4 : f2[11]? = some (.int 0)) (e5 : f3[0]? = some (.int 0)) (e6 : f3[5]? = some (.int 0)) (e7 : f3[33]? = some (.int 0)) (X9 : kLaw p l s m c b xs E D cI cJ cB cZ A) (T9 : kTail p l e s m b below meth c A Q) {H : Heap} {locs : List Loc} {ls : Array Slot} (hP : va_P D vwCl [(h0, .inr (11, f0)), (h3, .inr (1, f1)), (h4, .inr (2, f2)), (h1, .inr (12, f3))] H) (hD : va_D A [(h0, .inr (11, f0)), (h3, .inr (1, f1)), (h4, .inr (2, f2)), (h1, .inr (12, f3))]) (hS : va_S A s.heap H locs) (hl : lv_has ls 8 [(0, .ref b), (1, .ref h0), (2, .ref h1), (3, .ref h2), (4, .int 0)]) : W p l e room_1 s m #[Value.ref b] below meth c H locs 218 1205840 Q (F0 m 1326 ls []) := by
  obtain ⟨hl9, hx, hb, hml, hown, hts, hN, hX, hAE, hK, hA, hXs, hbl, hbA⟩ := X9
  refine lv_aload_n hx hb dL_law_1326 rfl (lv_at hl 1 rfl) ?_
  refine lv_aload_n hx hb dL_law_1327 rfl (lv_at hl 0 rfl) ?_
  refine lv_iload hx hb dL_law_1328 (lv_at hl 4 rfl) ?_
  refine lv_iconst (v := 1) hx hb dL_law_1330 (by decide) ?_
  refine lv_iadd hx hb dL_law_1331 ?_
  refine k_topi (y := 1) (by decide) ?_
  refine va_sld (xs := xs) hx hb hXs hbl hbA hS (k_in (by decide)) dL_law_1332 ?_
  refine k_topi (y := (xs 1)) (congrArg xs (by decide)) ?_
  refine k_cVi (As := [.int (xs 1)]) (rest := []) (wc := [(h0, .inr (11, f0)), (h3, .inr (1, f1)), (h4, .inr (2, f2))]) (wr := [(h1, .inr (12, f3))]) (w1 := [(h0, .inr (11, f0)), (h3, .inr (1, f1)), (h4, .inr (2, f2))]) ⟨hx, hb, hml, hown, hts⟩ hN hX hAE hK hP hD hS hA [0, 1, 2] [3] (ci := 11) rfl rfl rfl rfl (by decide +kernel) (by decide +kernel) (by decide +kernel) (c_X11_own_0 l E D cI cJ cB cZ h0 (xs 1) f0 h3 f1 h4 f2 e0 e1 e2 e3 e4) (cwV 1 hts g9_L_law_X11_own_192 rfl rfl rfl (by decide +kernel) ⟨Nat.le_of_ble_eq_true rfl, Nat.le_of_ble_eq_true rfl⟩) rfl hl.1 (Nat.le_of_ble_eq_true rfl) dL_law_1333 ⟨Nat.le_of_ble_eq_true rfl, Nat.le_of_ble_eq_true rfl⟩ (fun H locs hP hD hS => ?_)
  have hP : va_P D vwCl [(h1, .inr (12, f3)), (h0, .inr (11, f0)), (h3, .inr (1, f1)), (h4, .inr (2, f2))] H := hP
  have hD : va_D A [(h1, .inr (12, f3)), (h0, .inr (11, f0)), (h3, .inr (1, f1)), (h4, .inr (2, f2))] := hD
  refine lv_aload_n hx hb dL_law_1336 rfl (lv_at hl 2 rfl) ?_
  refine lv_aload_n hx hb dL_law_1337 rfl (lv_at hl 0 rfl) ?_
  refine lv_iload hx hb dL_law_1338 (lv_at hl 4 rfl) ?_
  refine lv_iconst (v := 1) hx hb dL_law_1340 (by decide) ?_
  refine lv_iadd hx hb dL_law_1341 ?_
  refine k_topi (y := 1) (by decide) ?_
  refine va_sld (xs := xs) hx hb hXs hbl hbA hS (k_in (by decide)) dL_law_1342 ?_
  refine k_topi (y := (xs 1)) (congrArg xs (by decide)) ?_
  refine k_cVi (As := [.int (xs 1)]) (rest := [.int (-101)]) (wc := [(h1, .inr (12, f3))]) (wr := [(h0, .inr (11, f0)), (h3, .inr (1, f1)), (h4, .inr (2, f2))]) (w1 := [(h1, .inr (12, (f3.set 0 (.int 0))))]) ⟨hx, hb, hml, hown, hts⟩ hN hX hAE hK hP hD hS hA [0] [1, 2, 3] (ci := 12) rfl rfl rfl rfl (by decide +kernel) (by decide +kernel) (by decide +kernel) (c_X12_own_0 l E D cI cJ cB cZ h1 (xs 1) f3 e5 e6 e7 e3) (cwV 1 hts g9_L_law_X12_own_195 rfl rfl rfl (by decide +kernel) ⟨Nat.le_of_ble_eq_true rfl, Nat.le_of_ble_eq_true rfl⟩) rfl hl.1 (Nat.le_of_ble_eq_true rfl) dL_law_1343 ⟨Nat.le_of_ble_eq_true rfl, Nat.le_of_ble_eq_true rfl⟩ (fun H locs hP hD hS => ?_)
  have hP : va_P D vwCl [(h0, .inr (11, f0)), (h3, .inr (1, f1)), (h4, .inr (2, f2)), (h1, .inr (12, (f3.set 0 (.int 0))))] H := hP
  have hD : va_D A [(h0, .inr (11, f0)), (h3, .inr (1, f1)), (h4, .inr (2, f2)), (h1, .inr (12, (f3.set 0 (.int 0))))] := hD
  refine lv_icmp_eq (tgt := 1765) hx hb dL_law_1346 (by decide) (fun _ => ?_) (fun c9 => absurd (by decide) c9)
  refine W.widen (k := 601024) (n := 7293034) (Nat.le_of_ble_eq_true rfl) (Nat.le_of_ble_eq_true rfl) ?_
  exact T9 _ _ _ hS (lv_sub hl [0, 4] rfl)
set_option maxHeartbeats 400000000 in
set_option maxRecDepth 100000 in
theorem law_32_0 {p : Program} {l : Launch} {e : Env} {s : State} {m : MethodId} {below : List Frame} {meth : Method} {c : Code} {b : Nat} {xs : Nat → Int32} (E : kE) (D : va_G) (cI cJ cB cZ : ClassId) (A : Nat → Prop) (Q : State → Prop) (h0 : Nat) (h1 : Nat) (h2 : Nat) (f0 : List Value) (h3 : Nat) (f1 : List Value) (f2 : List Value) (e0 : f0[8]? = some (.ref h3)) (e1 : ((xs 1) : Int32) < 0) (e2 : f2[156]? = some (.int 0)) (e3 : f2[0]? = some (.int 0)) (X9 : kLaw p l s m c b xs E D cI cJ cB cZ A) (T9 : kTail p l e s m b below meth c A Q) {H : Heap} {locs : List Loc} {ls : Array Slot} (hP : va_P D vwCl [(h0, .inr (11, f0)), (h3, .inr (5, f1)), (h1, .inr (12, f2))] H) (hD : va_D A [(h0, .inr (11, f0)), (h3, .inr (5, f1)), (h1, .inr (12, f2))]) (hS : va_S A s.heap H locs) (hl : lv_has ls 8 [(0, .ref b), (1, .ref h0), (2, .ref h1), (3, .ref h2), (4, .int 0)]) : W p l e room_1 s m #[Value.ref b] below meth c H locs 218 1205840 Q (F0 m 1351 ls []) := by
  obtain ⟨hl9, hx, hb, hml, hown, hts, hN, hX, hAE, hK, hA, hXs, hbl, hbA⟩ := X9
  refine lv_aload_n hx hb dL_law_1351 rfl (lv_at hl 1 rfl) ?_
  refine lv_aload_n hx hb dL_law_1352 rfl (lv_at hl 0 rfl) ?_
  refine lv_iload hx hb dL_law_1353 (lv_at hl 4 rfl) ?_
  refine lv_iconst (v := 1) hx hb dL_law_1355 (by decide) ?_
  refine lv_iadd hx hb dL_law_1356 ?_
  refine k_topi (y := 1) (by decide) ?_
  refine va_sld (xs := xs) hx hb hXs hbl hbA hS (k_in (by decide)) dL_law_1357 ?_
  refine k_topi (y := (xs 1)) (congrArg xs (by decide)) ?_
  refine lv_aload_n hx hb dL_law_1358 rfl (lv_at hl 0 rfl) ?_
  refine lv_iload hx hb dL_law_1359 (lv_at hl 4 rfl) ?_
  refine lv_iconst (v := 2) hx hb dL_law_1361 (by decide) ?_
  refine lv_iadd hx hb dL_law_1362 ?_
  refine k_topi (y := 2) (by decide) ?_
  refine va_sld (xs := xs) hx hb hXs hbl hbA hS (k_in (by decide)) dL_law_1363 ?_
  refine k_topi (y := (xs 2)) (congrArg xs (by decide)) ?_
  refine lv_aload_n hx hb dL_law_1364 rfl (lv_at hl 3 rfl) ?_
  refine k_cSWi (As := [.ref h0, .int (xs 1), .int (xs 2), .ref h2]) (rest := []) (wc := [(h0, .inr (11, f0)), (h3, .inr (5, f1))]) (wr := [(h1, .inr (12, f2))]) (w1 := [(h0, .inr (11, f0)), (h3, .inr (5, f1))]) ⟨hx, hb, hml, hown, hts⟩ hN hX hAE hK hP hD hS hA [0, 1] [2] rfl rfl (by decide +kernel) (by decide +kernel) (by decide +kernel) (c_L_half_1 l E D cI cJ cB cZ h0 (xs 1) (xs 2) h2 f0 h3 f1 e0 e1 hl9) (vx_cwSW 4 hts g9_L_law_L_half_196 rfl rfl rfl (by decide +kernel) ⟨Nat.le_of_ble_eq_true rfl, Nat.le_of_ble_eq_true rfl⟩) rfl hl.1 (Nat.le_of_ble_eq_true rfl) dL_law_1365 ⟨Nat.le_of_ble_eq_true rfl, Nat.le_of_ble_eq_true rfl⟩ (fun H locs hP hD hS => ?_)
  have hP : va_P D vwCl [(h1, .inr (12, f2)), (h0, .inr (11, f0)), (h3, .inr (5, f1))] H := hP
  have hD : va_D A [(h1, .inr (12, f2)), (h0, .inr (11, f0)), (h3, .inr (5, f1))] := hD
  refine W.widen (k := 219) (n := 1205846) (Nat.le_of_ble_eq_true rfl) (Nat.le_of_ble_eq_true rfl) ?_
  refine lv_istore (lv' := [(5, .int 1), (0, .ref b), (1, .ref h0), (2, .ref h1), (3, .ref h2), (4, .int 0)]) hx hb dL_law_1368 hl (by decide) rfl (fun ls hl => ?_)
  refine lv_aload_n hx hb dL_law_1370 rfl (lv_at hl 3 rfl) ?_
  refine lv_aload_n hx hb dL_law_1371 rfl (lv_at hl 1 rfl) ?_
  refine lv_iload hx hb dL_law_1372 (lv_at hl 5 rfl) ?_
  refine lv_iconst (v := 1) hx hb dL_law_1374 (by decide) ?_
  refine lv_iadd hx hb dL_law_1375 ?_
  refine k_topi (y := 1) (by decide) ?_
  refine va_sld (xs := xs) hx hb hXs hbl hbA hS (k_in (by decide)) dL_law_1376 ?_
  refine k_topi (y := (xs 1)) (congrArg xs (by decide)) ?_
  refine lv_aload_n hx hb dL_law_1377 rfl (lv_at hl 1 rfl) ?_
  refine lv_iload hx hb dL_law_1378 (lv_at hl 5 rfl) ?_
  refine lv_iconst (v := 2) hx hb dL_law_1380 (by decide) ?_
  refine lv_iadd hx hb dL_law_1381 ?_
  refine k_topi (y := 2) (by decide) ?_
  refine va_sld (xs := xs) hx hb hXs hbl hbA hS (k_in (by decide)) dL_law_1382 ?_
  refine k_topi (y := (xs 2)) (congrArg xs (by decide)) ?_
  refine k_cVi (As := [.int (xs 1), .int (xs 2)]) (rest := []) (wc := [(h1, .inr (12, f2))]) (wr := [(h0, .inr (11, f0)), (h3, .inr (5, f1))]) (w1 := [(h1, .inr (12, (f2.set 0 (.int 1))))]) ⟨hx, hb, hml, hown, hts⟩ hN hX hAE hK hP hD hS hA [0] [1, 2] (ci := 12) rfl rfl rfl rfl (by decide +kernel) (by decide +kernel) (by decide +kernel) (c_X12_half_1 l E D cI cJ cB cZ h1 (xs 1) (xs 2) f2 e2 e1 e3) (cwV 2 hts g9_L_law_X12_half_198 rfl rfl rfl (by decide +kernel) ⟨Nat.le_of_ble_eq_true rfl, Nat.le_of_ble_eq_true rfl⟩) rfl hl.1 (Nat.le_of_ble_eq_true rfl) dL_law_1383 ⟨Nat.le_of_ble_eq_true rfl, Nat.le_of_ble_eq_true rfl⟩ (fun H locs hP hD hS => ?_)
  have hP : va_P D vwCl [(h0, .inr (11, f0)), (h3, .inr (5, f1)), (h1, .inr (12, (f2.set 0 (.int 1))))] H := hP
  have hD : va_D A [(h0, .inr (11, f0)), (h3, .inr (5, f1)), (h1, .inr (12, (f2.set 0 (.int 1))))] := hD
  refine lv_istore (lv' := [(6, .int 0), (5, .int 1), (0, .ref b), (1, .ref h0), (2, .ref h1), (3, .ref h2), (4, .int 0)]) hx hb dL_law_1386 hl (by decide) rfl (fun ls hl => ?_)
  refine lv_aload_n hx hb dL_law_1388 rfl (lv_at hl 4 rfl) ?_
  refine k_cVi (As := []) (rest := []) (wc := [(h1, .inr (12, (f2.set 0 (.int 1))))]) (wr := [(h0, .inr (11, f0)), (h3, .inr (5, f1))]) (w1 := [(h1, .inr (12, (f2.set 0 (.int 1))))]) ⟨hx, hb, hml, hown, hts⟩ hN hX hAE hK hP hD hS hA [2] [0, 1] (ci := 12) rfl rfl rfl rfl (by decide +kernel) (by decide +kernel) (by decide +kernel) (c_X12_thrown_1 l E D cI cJ cB cZ h1 ((f2.set 0 (.int 1))) (k_set e3)) (cwV 0 hts g9_L_law_X12_thrown_61 rfl rfl rfl (by decide +kernel) ⟨Nat.le_of_ble_eq_true rfl, Nat.le_of_ble_eq_true rfl⟩) rfl hl.1 (Nat.le_of_ble_eq_true rfl) dL_law_1389 ⟨Nat.le_of_ble_eq_true rfl, Nat.le_of_ble_eq_true rfl⟩ (fun H locs hP hD hS => ?_)
  have hP : va_P D vwCl [(h0, .inr (11, f0)), (h3, .inr (5, f1)), (h1, .inr (12, (f2.set 0 (.int 1))))] H := hP
  have hD : va_D A [(h0, .inr (11, f0)), (h3, .inr (5, f1)), (h1, .inr (12, (f2.set 0 (.int 1))))] := hD
  refine lv_iload hx hb dL_law_1392 (lv_at hl 1 rfl) ?_
  refine lv_icmp_eq (tgt := 1399) hx hb dL_law_1394 (by decide) (fun _ => ?_) (fun c9 => absurd (by decide) c9)
  refine lv_iload hx hb dL_law_1399 (lv_at hl 1 rfl) ?_
  refine lv_if_ne (tgt := 1416) hx hb dL_law_1401 (by decide) (fun _ => ?_) (fun c9 => absurd c9 (by decide))
  refine lv_goto (tgt := 1765) hx hb dL_law_1416 (by decide) ?_
  refine W.widen (k := 601024) (n := 7293034) (Nat.le_of_ble_eq_true rfl) (Nat.le_of_ble_eq_true rfl) ?_
  exact T9 _ _ _ hS (lv_sub hl [2, 6] rfl)
set_option maxHeartbeats 400000000 in
set_option maxRecDepth 100000 in
theorem law_32_1 {p : Program} {l : Launch} {e : Env} {s : State} {m : MethodId} {below : List Frame} {meth : Method} {c : Code} {b : Nat} {xs : Nat → Int32} (E : kE) (D : va_G) (cI cJ cB cZ : ClassId) (A : Nat → Prop) (Q : State → Prop) (h0 : Nat) (h1 : Nat) (h2 : Nat) (f0 : List Value) (h3 : Nat) (f1 : List Value) (f2 : List Value) (e0 : f0[8]? = some (.ref h3)) (e1 : f1[9]? = some (.int 0)) (e2 : ¬ (((xs 1) : Int32) < 0)) (e3 : f2[156]? = some (.int 0)) (e4 : f2[0]? = some (.int 0)) (X9 : kLaw p l s m c b xs E D cI cJ cB cZ A) (T9 : kTail p l e s m b below meth c A Q) {H : Heap} {locs : List Loc} {ls : Array Slot} (hP : va_P D vwCl [(h0, .inr (11, f0)), (h3, .inr (5, f1)), (h1, .inr (12, f2))] H) (hD : va_D A [(h0, .inr (11, f0)), (h3, .inr (5, f1)), (h1, .inr (12, f2))]) (hS : va_S A s.heap H locs) (hl : lv_has ls 8 [(0, .ref b), (1, .ref h0), (2, .ref h1), (3, .ref h2), (4, .int 0)]) : W p l e room_1 s m #[Value.ref b] below meth c H locs 218 1205840 Q (F0 m 1351 ls []) := by
  obtain ⟨hl9, hx, hb, hml, hown, hts, hN, hX, hAE, hK, hA, hXs, hbl, hbA⟩ := X9
  refine lv_aload_n hx hb dL_law_1351 rfl (lv_at hl 1 rfl) ?_
  refine lv_aload_n hx hb dL_law_1352 rfl (lv_at hl 0 rfl) ?_
  refine lv_iload hx hb dL_law_1353 (lv_at hl 4 rfl) ?_
  refine lv_iconst (v := 1) hx hb dL_law_1355 (by decide) ?_
  refine lv_iadd hx hb dL_law_1356 ?_
  refine k_topi (y := 1) (by decide) ?_
  refine va_sld (xs := xs) hx hb hXs hbl hbA hS (k_in (by decide)) dL_law_1357 ?_
  refine k_topi (y := (xs 1)) (congrArg xs (by decide)) ?_
  refine lv_aload_n hx hb dL_law_1358 rfl (lv_at hl 0 rfl) ?_
  refine lv_iload hx hb dL_law_1359 (lv_at hl 4 rfl) ?_
  refine lv_iconst (v := 2) hx hb dL_law_1361 (by decide) ?_
  refine lv_iadd hx hb dL_law_1362 ?_
  refine k_topi (y := 2) (by decide) ?_
  refine va_sld (xs := xs) hx hb hXs hbl hbA hS (k_in (by decide)) dL_law_1363 ?_
  refine k_topi (y := (xs 2)) (congrArg xs (by decide)) ?_
  refine lv_aload_n hx hb dL_law_1364 rfl (lv_at hl 3 rfl) ?_
  refine k_cSWi (As := [.ref h0, .int (xs 1), .int (xs 2), .ref h2]) (rest := []) (wc := [(h0, .inr (11, f0)), (h3, .inr (5, f1))]) (wr := [(h1, .inr (12, f2))]) (w1 := [(h0, .inr (11, f0)), (h3, .inr (5, f1))]) ⟨hx, hb, hml, hown, hts⟩ hN hX hAE hK hP hD hS hA [0, 1] [2] rfl rfl (by decide +kernel) (by decide +kernel) (by decide +kernel) (c_L_half_0 l E D cI cJ cB cZ h0 (xs 1) (xs 2) h2 f0 h3 f1 e0 e1 e2 hl9) (vx_cwSW 4 hts g9_L_law_L_half_196 rfl rfl rfl (by decide +kernel) ⟨Nat.le_of_ble_eq_true rfl, Nat.le_of_ble_eq_true rfl⟩) rfl hl.1 (Nat.le_of_ble_eq_true rfl) dL_law_1365 ⟨Nat.le_of_ble_eq_true rfl, Nat.le_of_ble_eq_true rfl⟩ (fun H locs hP hD hS => ?_)
  have hP : va_P D vwCl [(h1, .inr (12, f2)), (h0, .inr (11, f0)), (h3, .inr (5, f1))] H := hP
  have hD : va_D A [(h1, .inr (12, f2)), (h0, .inr (11, f0)), (h3, .inr (5, f1))] := hD
  refine W.widen (k := 219) (n := 1205846) (Nat.le_of_ble_eq_true rfl) (Nat.le_of_ble_eq_true rfl) ?_
  refine lv_istore (lv' := [(5, .int 1), (0, .ref b), (1, .ref h0), (2, .ref h1), (3, .ref h2), (4, .int 0)]) hx hb dL_law_1368 hl (by decide) rfl (fun ls hl => ?_)
  refine lv_aload_n hx hb dL_law_1370 rfl (lv_at hl 3 rfl) ?_
  refine lv_aload_n hx hb dL_law_1371 rfl (lv_at hl 1 rfl) ?_
  refine lv_iload hx hb dL_law_1372 (lv_at hl 5 rfl) ?_
  refine lv_iconst (v := 1) hx hb dL_law_1374 (by decide) ?_
  refine lv_iadd hx hb dL_law_1375 ?_
  refine k_topi (y := 1) (by decide) ?_
  refine va_sld (xs := xs) hx hb hXs hbl hbA hS (k_in (by decide)) dL_law_1376 ?_
  refine k_topi (y := (xs 1)) (congrArg xs (by decide)) ?_
  refine lv_aload_n hx hb dL_law_1377 rfl (lv_at hl 1 rfl) ?_
  refine lv_iload hx hb dL_law_1378 (lv_at hl 5 rfl) ?_
  refine lv_iconst (v := 2) hx hb dL_law_1380 (by decide) ?_
  refine lv_iadd hx hb dL_law_1381 ?_
  refine k_topi (y := 2) (by decide) ?_
  refine va_sld (xs := xs) hx hb hXs hbl hbA hS (k_in (by decide)) dL_law_1382 ?_
  refine k_topi (y := (xs 2)) (congrArg xs (by decide)) ?_
  refine k_cVi (As := [.int (xs 1), .int (xs 2)]) (rest := []) (wc := [(h1, .inr (12, f2))]) (wr := [(h0, .inr (11, f0)), (h3, .inr (5, f1))]) (w1 := [(h1, .inr (12, (f2.set 0 (.int 1))))]) ⟨hx, hb, hml, hown, hts⟩ hN hX hAE hK hP hD hS hA [0] [1, 2] (ci := 12) rfl rfl rfl rfl (by decide +kernel) (by decide +kernel) (by decide +kernel) (c_X12_half_0 l E D cI cJ cB cZ h1 (xs 1) (xs 2) f2 e3 e2 e4) (cwV 2 hts g9_L_law_X12_half_198 rfl rfl rfl (by decide +kernel) ⟨Nat.le_of_ble_eq_true rfl, Nat.le_of_ble_eq_true rfl⟩) rfl hl.1 (Nat.le_of_ble_eq_true rfl) dL_law_1383 ⟨Nat.le_of_ble_eq_true rfl, Nat.le_of_ble_eq_true rfl⟩ (fun H locs hP hD hS => ?_)
  have hP : va_P D vwCl [(h0, .inr (11, f0)), (h3, .inr (5, f1)), (h1, .inr (12, (f2.set 0 (.int 1))))] H := hP
  have hD : va_D A [(h0, .inr (11, f0)), (h3, .inr (5, f1)), (h1, .inr (12, (f2.set 0 (.int 1))))] := hD
  refine lv_istore (lv' := [(6, .int 0), (5, .int 1), (0, .ref b), (1, .ref h0), (2, .ref h1), (3, .ref h2), (4, .int 0)]) hx hb dL_law_1386 hl (by decide) rfl (fun ls hl => ?_)
  refine lv_aload_n hx hb dL_law_1388 rfl (lv_at hl 4 rfl) ?_
  refine k_cVi (As := []) (rest := []) (wc := [(h1, .inr (12, (f2.set 0 (.int 1))))]) (wr := [(h0, .inr (11, f0)), (h3, .inr (5, f1))]) (w1 := [(h1, .inr (12, (f2.set 0 (.int 1))))]) ⟨hx, hb, hml, hown, hts⟩ hN hX hAE hK hP hD hS hA [2] [0, 1] (ci := 12) rfl rfl rfl rfl (by decide +kernel) (by decide +kernel) (by decide +kernel) (c_X12_thrown_1 l E D cI cJ cB cZ h1 ((f2.set 0 (.int 1))) (k_set e4)) (cwV 0 hts g9_L_law_X12_thrown_61 rfl rfl rfl (by decide +kernel) ⟨Nat.le_of_ble_eq_true rfl, Nat.le_of_ble_eq_true rfl⟩) rfl hl.1 (Nat.le_of_ble_eq_true rfl) dL_law_1389 ⟨Nat.le_of_ble_eq_true rfl, Nat.le_of_ble_eq_true rfl⟩ (fun H locs hP hD hS => ?_)
  have hP : va_P D vwCl [(h0, .inr (11, f0)), (h3, .inr (5, f1)), (h1, .inr (12, (f2.set 0 (.int 1))))] H := hP
  have hD : va_D A [(h0, .inr (11, f0)), (h3, .inr (5, f1)), (h1, .inr (12, (f2.set 0 (.int 1))))] := hD
  refine lv_iload hx hb dL_law_1392 (lv_at hl 1 rfl) ?_
  refine lv_icmp_eq (tgt := 1399) hx hb dL_law_1394 (by decide) (fun _ => ?_) (fun c9 => absurd (by decide) c9)
  refine lv_iload hx hb dL_law_1399 (lv_at hl 1 rfl) ?_
  refine lv_if_ne (tgt := 1416) hx hb dL_law_1401 (by decide) (fun _ => ?_) (fun c9 => absurd c9 (by decide))
  refine lv_goto (tgt := 1765) hx hb dL_law_1416 (by decide) ?_
  refine W.widen (k := 601024) (n := 7293034) (Nat.le_of_ble_eq_true rfl) (Nat.le_of_ble_eq_true rfl) ?_
  exact T9 _ _ _ hS (lv_sub hl [2, 6] rfl)
set_option maxHeartbeats 400000000 in
set_option maxRecDepth 100000 in
theorem law_33_0 {p : Program} {l : Launch} {e : Env} {s : State} {m : MethodId} {below : List Frame} {meth : Method} {c : Code} {b : Nat} {xs : Nat → Int32} (E : kE) (D : va_G) (cI cJ cB cZ : ClassId) (A : Nat → Prop) (Q : State → Prop) (h0 : Nat) (h1 : Nat) (h2 : Nat) (f0 : List Value) (h3 : Nat) (f1 : List Value) (f2 : List Value) (e0 : f0[8]? = some (.ref h3)) (e1 : ((xs 1) : Int32) < 0) (e2 : f2[156]? = some (.int 0)) (e3 : f2[0]? = some (.int 0)) (X9 : kLaw p l s m c b xs E D cI cJ cB cZ A) (T9 : kTail p l e s m b below meth c A Q) {H : Heap} {locs : List Loc} {ls : Array Slot} (hP : va_P D vwCl [(h0, .inr (11, f0)), (h3, .inr (5, f1)), (h1, .inr (12, f2))] H) (hD : va_D A [(h0, .inr (11, f0)), (h3, .inr (5, f1)), (h1, .inr (12, f2))]) (hS : va_S A s.heap H locs) (hl : lv_has ls 8 [(0, .ref b), (1, .ref h0), (2, .ref h1), (3, .ref h2), (4, .int 0)]) : W p l e room_1 s m #[Value.ref b] below meth c H locs 218 1205840 Q (F0 m 1419 ls []) := by
  obtain ⟨hl9, hx, hb, hml, hown, hts, hN, hX, hAE, hK, hA, hXs, hbl, hbA⟩ := X9
  refine lv_aload_n hx hb dL_law_1419 rfl (lv_at hl 1 rfl) ?_
  refine lv_aload_n hx hb dL_law_1420 rfl (lv_at hl 0 rfl) ?_
  refine lv_iload hx hb dL_law_1421 (lv_at hl 4 rfl) ?_
  refine lv_iconst (v := 1) hx hb dL_law_1423 (by decide) ?_
  refine lv_iadd hx hb dL_law_1424 ?_
  refine k_topi (y := 1) (by decide) ?_
  refine va_sld (xs := xs) hx hb hXs hbl hbA hS (k_in (by decide)) dL_law_1425 ?_
  refine k_topi (y := (xs 1)) (congrArg xs (by decide)) ?_
  refine lv_aload_n hx hb dL_law_1426 rfl (lv_at hl 0 rfl) ?_
  refine lv_iload hx hb dL_law_1427 (lv_at hl 4 rfl) ?_
  refine lv_iconst (v := 2) hx hb dL_law_1429 (by decide) ?_
  refine lv_iadd hx hb dL_law_1430 ?_
  refine k_topi (y := 2) (by decide) ?_
  refine va_sld (xs := xs) hx hb hXs hbl hbA hS (k_in (by decide)) dL_law_1431 ?_
  refine k_topi (y := (xs 2)) (congrArg xs (by decide)) ?_
  refine lv_aload_n hx hb dL_law_1432 rfl (lv_at hl 3 rfl) ?_
  refine k_cSWi (As := [.ref h0, .int (xs 1), .int (xs 2), .ref h2]) (rest := []) (wc := [(h0, .inr (11, f0)), (h3, .inr (5, f1))]) (wr := [(h1, .inr (12, f2))]) (w1 := [(h0, .inr (11, f0)), (h3, .inr (5, f1))]) ⟨hx, hb, hml, hown, hts⟩ hN hX hAE hK hP hD hS hA [0, 1] [2] rfl rfl (by decide +kernel) (by decide +kernel) (by decide +kernel) (c_L_takes_1 l E D cI cJ cB cZ h0 (xs 1) (xs 2) h2 f0 h3 f1 e0 e1 hl9) (vx_cwSW 4 hts g9_L_law_L_takes_199 rfl rfl rfl (by decide +kernel) ⟨Nat.le_of_ble_eq_true rfl, Nat.le_of_ble_eq_true rfl⟩) rfl hl.1 (Nat.le_of_ble_eq_true rfl) dL_law_1433 ⟨Nat.le_of_ble_eq_true rfl, Nat.le_of_ble_eq_true rfl⟩ (fun H locs hP hD hS => ?_)
  have hP : va_P D vwCl [(h1, .inr (12, f2)), (h0, .inr (11, f0)), (h3, .inr (5, f1))] H := hP
  have hD : va_D A [(h1, .inr (12, f2)), (h0, .inr (11, f0)), (h3, .inr (5, f1))] := hD
  refine W.widen (k := 219) (n := 1205846) (Nat.le_of_ble_eq_true rfl) (Nat.le_of_ble_eq_true rfl) ?_
  refine lv_istore (lv' := [(5, .int 1), (0, .ref b), (1, .ref h0), (2, .ref h1), (3, .ref h2), (4, .int 0)]) hx hb dL_law_1436 hl (by decide) rfl (fun ls hl => ?_)
  refine lv_aload_n hx hb dL_law_1438 rfl (lv_at hl 3 rfl) ?_
  refine lv_aload_n hx hb dL_law_1439 rfl (lv_at hl 1 rfl) ?_
  refine lv_iload hx hb dL_law_1440 (lv_at hl 5 rfl) ?_
  refine lv_iconst (v := 1) hx hb dL_law_1442 (by decide) ?_
  refine lv_iadd hx hb dL_law_1443 ?_
  refine k_topi (y := 1) (by decide) ?_
  refine va_sld (xs := xs) hx hb hXs hbl hbA hS (k_in (by decide)) dL_law_1444 ?_
  refine k_topi (y := (xs 1)) (congrArg xs (by decide)) ?_
  refine lv_aload_n hx hb dL_law_1445 rfl (lv_at hl 1 rfl) ?_
  refine lv_iload hx hb dL_law_1446 (lv_at hl 5 rfl) ?_
  refine lv_iconst (v := 2) hx hb dL_law_1448 (by decide) ?_
  refine lv_iadd hx hb dL_law_1449 ?_
  refine k_topi (y := 2) (by decide) ?_
  refine va_sld (xs := xs) hx hb hXs hbl hbA hS (k_in (by decide)) dL_law_1450 ?_
  refine k_topi (y := (xs 2)) (congrArg xs (by decide)) ?_
  refine k_cVi (As := [.int (xs 1), .int (xs 2)]) (rest := []) (wc := [(h1, .inr (12, f2))]) (wr := [(h0, .inr (11, f0)), (h3, .inr (5, f1))]) (w1 := [(h1, .inr (12, (f2.set 0 (.int 1))))]) ⟨hx, hb, hml, hown, hts⟩ hN hX hAE hK hP hD hS hA [0] [1, 2] (ci := 12) rfl rfl rfl rfl (by decide +kernel) (by decide +kernel) (by decide +kernel) (c_X12_takes_1 l E D cI cJ cB cZ h1 (xs 1) (xs 2) f2 e2 e1 e3) (cwV 2 hts g9_L_law_X12_takes_201 rfl rfl rfl (by decide +kernel) ⟨Nat.le_of_ble_eq_true rfl, Nat.le_of_ble_eq_true rfl⟩) rfl hl.1 (Nat.le_of_ble_eq_true rfl) dL_law_1451 ⟨Nat.le_of_ble_eq_true rfl, Nat.le_of_ble_eq_true rfl⟩ (fun H locs hP hD hS => ?_)
  have hP : va_P D vwCl [(h0, .inr (11, f0)), (h3, .inr (5, f1)), (h1, .inr (12, (f2.set 0 (.int 1))))] H := hP
  have hD : va_D A [(h0, .inr (11, f0)), (h3, .inr (5, f1)), (h1, .inr (12, (f2.set 0 (.int 1))))] := hD
  refine lv_istore (lv' := [(6, .int 0), (5, .int 1), (0, .ref b), (1, .ref h0), (2, .ref h1), (3, .ref h2), (4, .int 0)]) hx hb dL_law_1454 hl (by decide) rfl (fun ls hl => ?_)
  refine lv_aload_n hx hb dL_law_1456 rfl (lv_at hl 4 rfl) ?_
  refine k_cVi (As := []) (rest := []) (wc := [(h1, .inr (12, (f2.set 0 (.int 1))))]) (wr := [(h0, .inr (11, f0)), (h3, .inr (5, f1))]) (w1 := [(h1, .inr (12, (f2.set 0 (.int 1))))]) ⟨hx, hb, hml, hown, hts⟩ hN hX hAE hK hP hD hS hA [2] [0, 1] (ci := 12) rfl rfl rfl rfl (by decide +kernel) (by decide +kernel) (by decide +kernel) (c_X12_thrown_1 l E D cI cJ cB cZ h1 ((f2.set 0 (.int 1))) (k_set e3)) (cwV 0 hts g9_L_law_X12_thrown_61 rfl rfl rfl (by decide +kernel) ⟨Nat.le_of_ble_eq_true rfl, Nat.le_of_ble_eq_true rfl⟩) rfl hl.1 (Nat.le_of_ble_eq_true rfl) dL_law_1457 ⟨Nat.le_of_ble_eq_true rfl, Nat.le_of_ble_eq_true rfl⟩ (fun H locs hP hD hS => ?_)
  have hP : va_P D vwCl [(h0, .inr (11, f0)), (h3, .inr (5, f1)), (h1, .inr (12, (f2.set 0 (.int 1))))] H := hP
  have hD : va_D A [(h0, .inr (11, f0)), (h3, .inr (5, f1)), (h1, .inr (12, (f2.set 0 (.int 1))))] := hD
  refine lv_iload hx hb dL_law_1460 (lv_at hl 1 rfl) ?_
  refine lv_icmp_eq (tgt := 1467) hx hb dL_law_1462 (by decide) (fun _ => ?_) (fun c9 => absurd (by decide) c9)
  refine lv_iload hx hb dL_law_1467 (lv_at hl 1 rfl) ?_
  refine lv_if_ne (tgt := 1484) hx hb dL_law_1469 (by decide) (fun _ => ?_) (fun c9 => absurd c9 (by decide))
  refine lv_goto (tgt := 1765) hx hb dL_law_1484 (by decide) ?_
  refine W.widen (k := 601024) (n := 7293034) (Nat.le_of_ble_eq_true rfl) (Nat.le_of_ble_eq_true rfl) ?_
  exact T9 _ _ _ hS (lv_sub hl [2, 6] rfl)
set_option maxHeartbeats 400000000 in
set_option maxRecDepth 100000 in
theorem law_33_1 {p : Program} {l : Launch} {e : Env} {s : State} {m : MethodId} {below : List Frame} {meth : Method} {c : Code} {b : Nat} {xs : Nat → Int32} (E : kE) (D : va_G) (cI cJ cB cZ : ClassId) (A : Nat → Prop) (Q : State → Prop) (h0 : Nat) (h1 : Nat) (h2 : Nat) (f0 : List Value) (h3 : Nat) (f1 : List Value) (f2 : List Value) (e0 : f0[8]? = some (.ref h3)) (e1 : f1[9]? = some (.int 0)) (e2 : ¬ (((xs 1) : Int32) < 0)) (e3 : f2[156]? = some (.int 0)) (e4 : f2[0]? = some (.int 0)) (X9 : kLaw p l s m c b xs E D cI cJ cB cZ A) (T9 : kTail p l e s m b below meth c A Q) {H : Heap} {locs : List Loc} {ls : Array Slot} (hP : va_P D vwCl [(h0, .inr (11, f0)), (h3, .inr (5, f1)), (h1, .inr (12, f2))] H) (hD : va_D A [(h0, .inr (11, f0)), (h3, .inr (5, f1)), (h1, .inr (12, f2))]) (hS : va_S A s.heap H locs) (hl : lv_has ls 8 [(0, .ref b), (1, .ref h0), (2, .ref h1), (3, .ref h2), (4, .int 0)]) : W p l e room_1 s m #[Value.ref b] below meth c H locs 218 1205840 Q (F0 m 1419 ls []) := by
  obtain ⟨hl9, hx, hb, hml, hown, hts, hN, hX, hAE, hK, hA, hXs, hbl, hbA⟩ := X9
  refine lv_aload_n hx hb dL_law_1419 rfl (lv_at hl 1 rfl) ?_
  refine lv_aload_n hx hb dL_law_1420 rfl (lv_at hl 0 rfl) ?_
  refine lv_iload hx hb dL_law_1421 (lv_at hl 4 rfl) ?_
  refine lv_iconst (v := 1) hx hb dL_law_1423 (by decide) ?_
  refine lv_iadd hx hb dL_law_1424 ?_
  refine k_topi (y := 1) (by decide) ?_
  refine va_sld (xs := xs) hx hb hXs hbl hbA hS (k_in (by decide)) dL_law_1425 ?_
  refine k_topi (y := (xs 1)) (congrArg xs (by decide)) ?_
  refine lv_aload_n hx hb dL_law_1426 rfl (lv_at hl 0 rfl) ?_
  refine lv_iload hx hb dL_law_1427 (lv_at hl 4 rfl) ?_
  refine lv_iconst (v := 2) hx hb dL_law_1429 (by decide) ?_
  refine lv_iadd hx hb dL_law_1430 ?_
  refine k_topi (y := 2) (by decide) ?_
  refine va_sld (xs := xs) hx hb hXs hbl hbA hS (k_in (by decide)) dL_law_1431 ?_
  refine k_topi (y := (xs 2)) (congrArg xs (by decide)) ?_
  refine lv_aload_n hx hb dL_law_1432 rfl (lv_at hl 3 rfl) ?_
  refine k_cSWi (As := [.ref h0, .int (xs 1), .int (xs 2), .ref h2]) (rest := []) (wc := [(h0, .inr (11, f0)), (h3, .inr (5, f1))]) (wr := [(h1, .inr (12, f2))]) (w1 := [(h0, .inr (11, f0)), (h3, .inr (5, f1))]) ⟨hx, hb, hml, hown, hts⟩ hN hX hAE hK hP hD hS hA [0, 1] [2] rfl rfl (by decide +kernel) (by decide +kernel) (by decide +kernel) (c_L_takes_0 l E D cI cJ cB cZ h0 (xs 1) (xs 2) h2 f0 h3 f1 e0 e1 e2 hl9) (vx_cwSW 4 hts g9_L_law_L_takes_199 rfl rfl rfl (by decide +kernel) ⟨Nat.le_of_ble_eq_true rfl, Nat.le_of_ble_eq_true rfl⟩) rfl hl.1 (Nat.le_of_ble_eq_true rfl) dL_law_1433 ⟨Nat.le_of_ble_eq_true rfl, Nat.le_of_ble_eq_true rfl⟩ (fun H locs hP hD hS => ?_)
  have hP : va_P D vwCl [(h1, .inr (12, f2)), (h0, .inr (11, f0)), (h3, .inr (5, f1))] H := hP
  have hD : va_D A [(h1, .inr (12, f2)), (h0, .inr (11, f0)), (h3, .inr (5, f1))] := hD
  refine W.widen (k := 219) (n := 1205846) (Nat.le_of_ble_eq_true rfl) (Nat.le_of_ble_eq_true rfl) ?_
  refine lv_istore (lv' := [(5, .int 1), (0, .ref b), (1, .ref h0), (2, .ref h1), (3, .ref h2), (4, .int 0)]) hx hb dL_law_1436 hl (by decide) rfl (fun ls hl => ?_)
  refine lv_aload_n hx hb dL_law_1438 rfl (lv_at hl 3 rfl) ?_
  refine lv_aload_n hx hb dL_law_1439 rfl (lv_at hl 1 rfl) ?_
  refine lv_iload hx hb dL_law_1440 (lv_at hl 5 rfl) ?_
  refine lv_iconst (v := 1) hx hb dL_law_1442 (by decide) ?_
  refine lv_iadd hx hb dL_law_1443 ?_
  refine k_topi (y := 1) (by decide) ?_
  refine va_sld (xs := xs) hx hb hXs hbl hbA hS (k_in (by decide)) dL_law_1444 ?_
  refine k_topi (y := (xs 1)) (congrArg xs (by decide)) ?_
  refine lv_aload_n hx hb dL_law_1445 rfl (lv_at hl 1 rfl) ?_
  refine lv_iload hx hb dL_law_1446 (lv_at hl 5 rfl) ?_
  refine lv_iconst (v := 2) hx hb dL_law_1448 (by decide) ?_
  refine lv_iadd hx hb dL_law_1449 ?_
  refine k_topi (y := 2) (by decide) ?_
  refine va_sld (xs := xs) hx hb hXs hbl hbA hS (k_in (by decide)) dL_law_1450 ?_
  refine k_topi (y := (xs 2)) (congrArg xs (by decide)) ?_
  refine k_cVi (As := [.int (xs 1), .int (xs 2)]) (rest := []) (wc := [(h1, .inr (12, f2))]) (wr := [(h0, .inr (11, f0)), (h3, .inr (5, f1))]) (w1 := [(h1, .inr (12, (f2.set 0 (.int 1))))]) ⟨hx, hb, hml, hown, hts⟩ hN hX hAE hK hP hD hS hA [0] [1, 2] (ci := 12) rfl rfl rfl rfl (by decide +kernel) (by decide +kernel) (by decide +kernel) (c_X12_takes_0 l E D cI cJ cB cZ h1 (xs 1) (xs 2) f2 e3 e2 e4) (cwV 2 hts g9_L_law_X12_takes_201 rfl rfl rfl (by decide +kernel) ⟨Nat.le_of_ble_eq_true rfl, Nat.le_of_ble_eq_true rfl⟩) rfl hl.1 (Nat.le_of_ble_eq_true rfl) dL_law_1451 ⟨Nat.le_of_ble_eq_true rfl, Nat.le_of_ble_eq_true rfl⟩ (fun H locs hP hD hS => ?_)
  have hP : va_P D vwCl [(h0, .inr (11, f0)), (h3, .inr (5, f1)), (h1, .inr (12, (f2.set 0 (.int 1))))] H := hP
  have hD : va_D A [(h0, .inr (11, f0)), (h3, .inr (5, f1)), (h1, .inr (12, (f2.set 0 (.int 1))))] := hD
  refine lv_istore (lv' := [(6, .int 0), (5, .int 1), (0, .ref b), (1, .ref h0), (2, .ref h1), (3, .ref h2), (4, .int 0)]) hx hb dL_law_1454 hl (by decide) rfl (fun ls hl => ?_)
  refine lv_aload_n hx hb dL_law_1456 rfl (lv_at hl 4 rfl) ?_
  refine k_cVi (As := []) (rest := []) (wc := [(h1, .inr (12, (f2.set 0 (.int 1))))]) (wr := [(h0, .inr (11, f0)), (h3, .inr (5, f1))]) (w1 := [(h1, .inr (12, (f2.set 0 (.int 1))))]) ⟨hx, hb, hml, hown, hts⟩ hN hX hAE hK hP hD hS hA [2] [0, 1] (ci := 12) rfl rfl rfl rfl (by decide +kernel) (by decide +kernel) (by decide +kernel) (c_X12_thrown_1 l E D cI cJ cB cZ h1 ((f2.set 0 (.int 1))) (k_set e4)) (cwV 0 hts g9_L_law_X12_thrown_61 rfl rfl rfl (by decide +kernel) ⟨Nat.le_of_ble_eq_true rfl, Nat.le_of_ble_eq_true rfl⟩) rfl hl.1 (Nat.le_of_ble_eq_true rfl) dL_law_1457 ⟨Nat.le_of_ble_eq_true rfl, Nat.le_of_ble_eq_true rfl⟩ (fun H locs hP hD hS => ?_)
  have hP : va_P D vwCl [(h0, .inr (11, f0)), (h3, .inr (5, f1)), (h1, .inr (12, (f2.set 0 (.int 1))))] H := hP
  have hD : va_D A [(h0, .inr (11, f0)), (h3, .inr (5, f1)), (h1, .inr (12, (f2.set 0 (.int 1))))] := hD
  refine lv_iload hx hb dL_law_1460 (lv_at hl 1 rfl) ?_
  refine lv_icmp_eq (tgt := 1467) hx hb dL_law_1462 (by decide) (fun _ => ?_) (fun c9 => absurd (by decide) c9)
  refine lv_iload hx hb dL_law_1467 (lv_at hl 1 rfl) ?_
  refine lv_if_ne (tgt := 1484) hx hb dL_law_1469 (by decide) (fun _ => ?_) (fun c9 => absurd c9 (by decide))
  refine lv_goto (tgt := 1765) hx hb dL_law_1484 (by decide) ?_
  refine W.widen (k := 601024) (n := 7293034) (Nat.le_of_ble_eq_true rfl) (Nat.le_of_ble_eq_true rfl) ?_
  exact T9 _ _ _ hS (lv_sub hl [2, 6] rfl)
set_option maxHeartbeats 400000000 in
set_option maxRecDepth 100000 in
theorem law_34_0 {p : Program} {l : Launch} {e : Env} {s : State} {m : MethodId} {below : List Frame} {meth : Method} {c : Code} {b : Nat} {xs : Nat → Int32} (E : kE) (D : va_G) (cI cJ cB cZ : ClassId) (A : Nat → Prop) (Q : State → Prop) (h0 : Nat) (h1 : Nat) (h2 : Nat) (f0 : List Value) (h3 : Nat) (f1 : List Value) (h4 : Nat) (f2 : List Value) (h5 : Nat) (h6 : Nat) (f3 : List Value) (h7 : Nat) (f4 : List Value) (h8 : Nat) (h9 : Nat) (h10 : Nat) (h11 : Nat) (h12 : Nat) (g0 : Nat → Int32) (g1 : Nat → Int32) (g2 : Nat → Int32) (g3 : Nat → Int32) (f5 : List Value) (h13 : Nat) (h14 : Nat) (h15 : Nat) (h16 : Nat) (h17 : Nat) (h18 : Nat) (h19 : Nat) (h20 : Nat) (h21 : Nat) (h22 : Nat) (h23 : Nat) (h24 : Nat) (h25 : Nat) (h26 : Nat) (g4 : Nat → Int32) (g5 : Nat → Int32) (g6 : Nat → Int32) (g7 : Nat → Int32) (g8 : Nat → Int32) (g9 : Nat → Int32) (g10 : Nat → Int32) (g11 : Nat → Int32) (g12 : Nat → Int32) (g13 : Nat → Int32) (g14 : Nat → Int32) (g15 : Nat → Int32) (g16 : Nat → Int64) (g17 : Nat → Int32) (e0 : f0[1]? = some (.ref h3)) (e1 : f1[8]? = some (.int 0)) (e2 : f0[12]? = some (.int 0)) (e3 : f0[2]? = some (.ref h4)) (e4 : f2[11]? = some (.int 0)) (e5 : f0[5]? = some (.ref h5)) (e6 : f0[0]? = some (.ref h6)) (e7 : f3[0]? = some (.ref h7)) (e8 : f4[6]? = some (.ref h8)) (e9 : f4[7]? = some (.int 0)) (e10 : f4[8]? = some (.int 0)) (e11 : f4[5]? = some (.int 0)) (e12 : f4[1]? = some (.ref h9)) (e13 : f4[2]? = some (.ref h10)) (e14 : f3[3]? = some (.int 0)) (e15 : f3[4]? = some (.int 0)) (e16 : f3[5]? = some (.int 0)) (e17 : f3[6]? = some (.int 0)) (e18 : f3[7]? = some (.int 0)) (e19 : f3[8]? = some (.int 0)) (e20 : f3[11]? = some (.int 0)) (e21 : f3[12]? = some (.int 0)) (e22 : f3[13]? = some (.int 0)) (e23 : f3[14]? = some (.int 0)) (e24 : f3[1]? = some (.ref h4)) (e25 : f2[5]? = some (.ref h11)) (e26 : f2[10]? = some (.int 0)) (e27 : f2[3]? = some (.ref h12)) (e28 : f0[13]? = some (.int 0)) (e29 : f5[0]? = some (.int 0)) (e30 : f5[5]? = some (.int 0)) (e31 : f5[2]? = some (.int 0)) (e32 : f5[12]? = some (.int 0)) (e33 : f5[32]? = some (.int 0)) (e34 : f5[36]? = some (.int 0)) (e35 : f5[33]? = some (.int 0)) (e36 : f5[37]? = some (.int 0)) (e37 : f5[27]? = some (.int 0)) (e38 : f5[31]? = some (.int 0)) (e39 : f5[28]? = some (.int 0)) (e40 : f5[23]? = some (.ref h13)) (e41 : f5[24]? = some (.ref h14)) (e42 : f5[25]? = some (.ref h15)) (e43 : f5[26]? = some (.ref h16)) (e44 : f5[66]? = some (.int 0)) (e45 : f5[67]? = some (.int 0)) (e46 : f5[40]? = some (.ref h17)) (e47 : f5[45]? = some (.ref h18)) (e48 : f5[56]? = some (.ref h19)) (e49 : f5[60]? = some (.ref h20)) (e50 : f5[65]? = some (.ref h21)) (e51 : f5[76]? = some (.int 0)) (e52 : f5[83]? = some (.int 0)) (e53 : f5[77]? = some (.ref h22)) (e54 : f5[78]? = some (.ref h23)) (e55 : f5[80]? = some (.ref h24)) (e56 : f5[81]? = some (.ref h25)) (e57 : f5[82]? = some (.ref h26)) (e58 : f5[84]? = some (.int 0)) (e59 : f5[29]? = some (.int 0)) (e60 : f5[30]? = some (.int 0)) (e61 : f5[85]? = some (.int 0)) (e62 : f5[13]? = some (.int 0)) (e63 : f5[109]? = some (.int 0)) (X9 : kLaw p l s m c b xs E D cI cJ cB cZ A) (T9 : kTail p l e s m b below meth c A Q) {H : Heap} {locs : List Loc} {ls : Array Slot} (hP : va_P D vwCl [(h0, .inr (11, f0)), (h3, .inr (1, f1)), (h4, .inr (2, f2)), (h5, .inr (8, f3)), (h7, .inr (3, f4)), (h9, .inl (cI, 2001, .inl g0)), (h10, .inl (cI, 2001, .inl g1)), (h11, .inl (cI, 260, .inl g2)), (h12, .inl (cI, 13312, .inl g3)), (h1, .inr (12, f5)), (h13, .inl (cI, 2001, .inl g4)), (h14, .inl (cI, 2001, .inl g5)), (h15, .inl (cI, 2001, .inl g6)), (h16, .inl (cI, 2001, .inl g7)), (h17, .inl (cI, 26, .inl g8)), (h18, .inl (cI, 26, .inl g9)), (h19, .inl (cI, 26, .inl g10)), (h20, .inl (cI, 26, .inl g11)), (h21, .inl (cI, 26, .inl g12)), (h22, .inl (cI, 16, .inl g13)), (h23, .inl (cI, 16, .inl g14)), (h24, .inl (cI, 16, .inl g15)), (h25, .inl (cJ, 16, .inr (.inl g16))), (h26, .inl (cI, 16, .inl g17))] H) (hD : va_D A [(h0, .inr (11, f0)), (h3, .inr (1, f1)), (h4, .inr (2, f2)), (h5, .inr (8, f3)), (h7, .inr (3, f4)), (h9, .inl (cI, 2001, .inl g0)), (h10, .inl (cI, 2001, .inl g1)), (h11, .inl (cI, 260, .inl g2)), (h12, .inl (cI, 13312, .inl g3)), (h1, .inr (12, f5)), (h13, .inl (cI, 2001, .inl g4)), (h14, .inl (cI, 2001, .inl g5)), (h15, .inl (cI, 2001, .inl g6)), (h16, .inl (cI, 2001, .inl g7)), (h17, .inl (cI, 26, .inl g8)), (h18, .inl (cI, 26, .inl g9)), (h19, .inl (cI, 26, .inl g10)), (h20, .inl (cI, 26, .inl g11)), (h21, .inl (cI, 26, .inl g12)), (h22, .inl (cI, 16, .inl g13)), (h23, .inl (cI, 16, .inl g14)), (h24, .inl (cI, 16, .inl g15)), (h25, .inl (cJ, 16, .inr (.inl g16))), (h26, .inl (cI, 16, .inl g17))]) (hS : va_S A s.heap H locs) (hl : lv_has ls 8 [(0, .ref b), (1, .ref h0), (2, .ref h1), (3, .ref h2), (4, .int 0)]) : W p l e room_1 s m #[Value.ref b] below meth c H locs 218 1205840 Q (F0 m 1487 ls []) := by
  obtain ⟨hl9, hx, hb, hml, hown, hts, hN, hX, hAE, hK, hA, hXs, hbl, hbA⟩ := X9
  refine lv_aload_n hx hb dL_law_1487 rfl (lv_at hl 1 rfl) ?_
  refine k_cVi (As := []) (rest := []) (wc := [(h0, .inr (11, f0)), (h3, .inr (1, f1)), (h4, .inr (2, f2)), (h5, .inr (8, f3)), (h7, .inr (3, f4)), (h9, .inl (cI, 2001, .inl g0)), (h10, .inl (cI, 2001, .inl g1)), (h11, .inl (cI, 260, .inl g2)), (h12, .inl (cI, 13312, .inl g3))]) (wr := [(h1, .inr (12, f5)), (h13, .inl (cI, 2001, .inl g4)), (h14, .inl (cI, 2001, .inl g5)), (h15, .inl (cI, 2001, .inl g6)), (h16, .inl (cI, 2001, .inl g7)), (h17, .inl (cI, 26, .inl g8)), (h18, .inl (cI, 26, .inl g9)), (h19, .inl (cI, 26, .inl g10)), (h20, .inl (cI, 26, .inl g11)), (h21, .inl (cI, 26, .inl g12)), (h22, .inl (cI, 16, .inl g13)), (h23, .inl (cI, 16, .inl g14)), (h24, .inl (cI, 16, .inl g15)), (h25, .inl (cJ, 16, .inr (.inl g16))), (h26, .inl (cI, 16, .inl g17))]) (w1 := [(h0, .inr (11, ((f0.set 12 (.int 0)).set 13 (.int 2)))), (h3, .inr (1, f1)), (h4, .inr (2, f2)), (h5, .inr (8, (((((((((((((((((f3.set 3 (.int 0)).set 4 (.int 0)).set 5 (.int 0)).set 6 (.int (-1))).set 6 (.int 0)).set 7 (.int 0)).set 8 (.int 0)).set 11 (.int 25)).set 12 (.int 0)).set 13 (.int 0)).set 14 (.int 0)).set 3 (.int 2)).set 4 (.int 0)).set 7 (.int 44)).set 13 (.int 1)).set 13 (.int 2)).set 7 (.int 44)))), (h7, .inr (3, ((((f4.set 6 (.ref h6)).set 7 (.int 0)).set 8 (.int 0)).set 5 (.int 0)))), (h9, .inl (cI, 2001, .inl (upd g0 0 0))), (h10, .inl (cI, 2001, .inl (upd g1 0 0))), (h11, .inl (cI, 260, .inl (upd (upd (upd g2 259 0) 250 0) 251 2))), (h12, .inl (cI, 13312, .inl (upd (upd g3 12800 43) 12801 43)))]) ⟨hx, hb, hml, hown, hts⟩ hN hX hAE hK hP hD hS hA [0, 1, 2, 3, 4, 5, 6, 7, 8] [9, 10, 11, 12, 13, 14, 15, 16, 17, 18, 19, 20, 21, 22, 23] (ci := 11) rfl rfl rfl rfl (by decide +kernel) (by decide +kernel) (by decide +kernel) (c_X11_relaxed_0 l E D cI cJ cB cZ h0 f0 h3 f1 h4 f2 h5 h6 f3 h7 f4 h8 h9 h10 h11 h12 g0 g1 g2 g3 e0 e1 e2 e3 e4 e5 e6 e7 e8 e9 e10 e11 e12 e13 e14 e15 e16 e17 e18 e19 e20 e21 e22 e23 e24 e25 e26 e27 e28) (cwV 0 hts g9_L_law_X11_relaxed_202 rfl rfl rfl (by decide +kernel) ⟨Nat.le_of_ble_eq_true rfl, Nat.le_of_ble_eq_true rfl⟩) rfl hl.1 (Nat.le_of_ble_eq_true rfl) dL_law_1488 ⟨Nat.le_of_ble_eq_true rfl, Nat.le_of_ble_eq_true rfl⟩ (fun H locs hP hD hS => ?_)
  have hP : va_P D vwCl [(h1, .inr (12, f5)), (h13, .inl (cI, 2001, .inl g4)), (h14, .inl (cI, 2001, .inl g5)), (h15, .inl (cI, 2001, .inl g6)), (h16, .inl (cI, 2001, .inl g7)), (h17, .inl (cI, 26, .inl g8)), (h18, .inl (cI, 26, .inl g9)), (h19, .inl (cI, 26, .inl g10)), (h20, .inl (cI, 26, .inl g11)), (h21, .inl (cI, 26, .inl g12)), (h22, .inl (cI, 16, .inl g13)), (h23, .inl (cI, 16, .inl g14)), (h24, .inl (cI, 16, .inl g15)), (h25, .inl (cJ, 16, .inr (.inl g16))), (h26, .inl (cI, 16, .inl g17)), (h0, .inr (11, ((f0.set 12 (.int 0)).set 13 (.int 2)))), (h3, .inr (1, f1)), (h4, .inr (2, f2)), (h5, .inr (8, (((((((((((((((((f3.set 3 (.int 0)).set 4 (.int 0)).set 5 (.int 0)).set 6 (.int (-1))).set 6 (.int 0)).set 7 (.int 0)).set 8 (.int 0)).set 11 (.int 25)).set 12 (.int 0)).set 13 (.int 0)).set 14 (.int 0)).set 3 (.int 2)).set 4 (.int 0)).set 7 (.int 44)).set 13 (.int 1)).set 13 (.int 2)).set 7 (.int 44)))), (h7, .inr (3, ((((f4.set 6 (.ref h6)).set 7 (.int 0)).set 8 (.int 0)).set 5 (.int 0)))), (h9, .inl (cI, 2001, .inl (upd g0 0 0))), (h10, .inl (cI, 2001, .inl (upd g1 0 0))), (h11, .inl (cI, 260, .inl (upd (upd (upd g2 259 0) 250 0) 251 2))), (h12, .inl (cI, 13312, .inl (upd (upd g3 12800 43) 12801 43)))] H := hP
  have hD : va_D A [(h1, .inr (12, f5)), (h13, .inl (cI, 2001, .inl g4)), (h14, .inl (cI, 2001, .inl g5)), (h15, .inl (cI, 2001, .inl g6)), (h16, .inl (cI, 2001, .inl g7)), (h17, .inl (cI, 26, .inl g8)), (h18, .inl (cI, 26, .inl g9)), (h19, .inl (cI, 26, .inl g10)), (h20, .inl (cI, 26, .inl g11)), (h21, .inl (cI, 26, .inl g12)), (h22, .inl (cI, 16, .inl g13)), (h23, .inl (cI, 16, .inl g14)), (h24, .inl (cI, 16, .inl g15)), (h25, .inl (cJ, 16, .inr (.inl g16))), (h26, .inl (cI, 16, .inl g17)), (h0, .inr (11, ((f0.set 12 (.int 0)).set 13 (.int 2)))), (h3, .inr (1, f1)), (h4, .inr (2, f2)), (h5, .inr (8, (((((((((((((((((f3.set 3 (.int 0)).set 4 (.int 0)).set 5 (.int 0)).set 6 (.int (-1))).set 6 (.int 0)).set 7 (.int 0)).set 8 (.int 0)).set 11 (.int 25)).set 12 (.int 0)).set 13 (.int 0)).set 14 (.int 0)).set 3 (.int 2)).set 4 (.int 0)).set 7 (.int 44)).set 13 (.int 1)).set 13 (.int 2)).set 7 (.int 44)))), (h7, .inr (3, ((((f4.set 6 (.ref h6)).set 7 (.int 0)).set 8 (.int 0)).set 5 (.int 0)))), (h9, .inl (cI, 2001, .inl (upd g0 0 0))), (h10, .inl (cI, 2001, .inl (upd g1 0 0))), (h11, .inl (cI, 260, .inl (upd (upd (upd g2 259 0) 250 0) 251 2))), (h12, .inl (cI, 13312, .inl (upd (upd g3 12800 43) 12801 43)))] := hD
  refine lv_aload_n hx hb dL_law_1491 rfl (lv_at hl 2 rfl) ?_
  refine k_cVi (As := []) (rest := [.int (-1000)]) (wc := [(h1, .inr (12, f5)), (h13, .inl (cI, 2001, .inl g4)), (h14, .inl (cI, 2001, .inl g5)), (h15, .inl (cI, 2001, .inl g6)), (h16, .inl (cI, 2001, .inl g7)), (h17, .inl (cI, 26, .inl g8)), (h18, .inl (cI, 26, .inl g9)), (h19, .inl (cI, 26, .inl g10)), (h20, .inl (cI, 26, .inl g11)), (h21, .inl (cI, 26, .inl g12)), (h22, .inl (cI, 16, .inl g13)), (h23, .inl (cI, 16, .inl g14)), (h24, .inl (cI, 16, .inl g15)), (h25, .inl (cJ, 16, .inr (.inl g16))), (h26, .inl (cI, 16, .inl g17))]) (wr := [(h0, .inr (11, ((f0.set 12 (.int 0)).set 13 (.int 2)))), (h3, .inr (1, f1)), (h4, .inr (2, f2)), (h5, .inr (8, (((((((((((((((((f3.set 3 (.int 0)).set 4 (.int 0)).set 5 (.int 0)).set 6 (.int (-1))).set 6 (.int 0)).set 7 (.int 0)).set 8 (.int 0)).set 11 (.int 25)).set 12 (.int 0)).set 13 (.int 0)).set 14 (.int 0)).set 3 (.int 2)).set 4 (.int 0)).set 7 (.int 44)).set 13 (.int 1)).set 13 (.int 2)).set 7 (.int 44)))), (h7, .inr (3, ((((f4.set 6 (.ref h6)).set 7 (.int 0)).set 8 (.int 0)).set 5 (.int 0)))), (h9, .inl (cI, 2001, .inl (upd g0 0 0))), (h10, .inl (cI, 2001, .inl (upd g1 0 0))), (h11, .inl (cI, 260, .inl (upd (upd (upd g2 259 0) 250 0) 251 2))), (h12, .inl (cI, 13312, .inl (upd (upd g3 12800 43) 12801 43)))]) (w1 := [(h1, .inr (12, ((((((((((((((((((((f5.set 0 (.int 0)).set 12 (.int 0)).set 2 (.int 0)).set 36 (.int 0)).set 37 (.int 0)).set 27 (.int 0)).set 31 (.int 0)).set 28 (.int 0)).set 66 (.int 25)).set 67 (.int 0)).set 76 (.int (-1))).set 83 (.int (-1))).set 83 (.int 0)).set 84 (.int 3)).set 84 (.int 4)).set 84 (.int 5)).set 31 (.int 1)).set 29 (.int 2)).set 30 (.int 0)).set 109 (.int 2)))), (h13, .inl (cI, 2001, .inl (upd g4 0 0))), (h14, .inl (cI, 2001, .inl (upd g5 0 0))), (h15, .inl (cI, 2001, .inl (upd g6 0 0))), (h16, .inl (cI, 2001, .inl (upd g7 0 0))), (h17, .inl (cI, 26, .inl (upd g8 25 0))), (h18, .inl (cI, 26, .inl (upd g9 25 0))), (h19, .inl (cI, 26, .inl (upd g10 25 0))), (h20, .inl (cI, 26, .inl (upd g11 25 0))), (h21, .inl (cI, 26, .inl (upd g12 25 0))), (h22, .inl (cI, 16, .inl (upd g13 0 33))), (h23, .inl (cI, 16, .inl (upd g14 0 (-1)))), (h24, .inl (cI, 16, .inl (upd (upd g15 0 1) 0 1))), (h25, .inl (cJ, 16, .inr (.inl (vp_updL (vp_updL g16 0 1) 0 1)))), (h26, .inl (cI, 16, .inl (upd g17 0 (-1))))]) ⟨hx, hb, hml, hown, hts⟩ hN hX hAE hK hP hD hS hA [0, 1, 2, 3, 4, 5, 6, 7, 8, 9, 10, 11, 12, 13, 14] [15, 16, 17, 18, 19, 20, 21, 22, 23] (ci := 12) rfl rfl rfl rfl (by decide +kernel) (by decide +kernel) (by decide +kernel) (c_X12_relaxed_0 l E D cI cJ cB cZ h1 f5 h13 h14 h15 h16 g4 g5 g6 g7 h17 h18 h19 h20 h21 h22 h23 h24 h25 h26 g8 g9 g10 g11 g12 g13 g14 g15 g16 g17 e29 e30 e31 e32 e33 e34 e35 e36 e37 e38 e39 e40 e41 e42 e43 e44 e45 e46 e47 e48 e49 e50 e51 e52 e53 e54 e55 e56 e57 e58 e59 e60 e61 e62 e63) (cwV 0 hts g9_L_law_X12_relaxed_205 rfl rfl rfl (by decide +kernel) ⟨Nat.le_of_ble_eq_true rfl, Nat.le_of_ble_eq_true rfl⟩) rfl hl.1 (Nat.le_of_ble_eq_true rfl) dL_law_1492 ⟨Nat.le_of_ble_eq_true rfl, Nat.le_of_ble_eq_true rfl⟩ (fun H locs hP hD hS => ?_)
  have hP : va_P D vwCl [(h0, .inr (11, ((f0.set 12 (.int 0)).set 13 (.int 2)))), (h3, .inr (1, f1)), (h4, .inr (2, f2)), (h5, .inr (8, (((((((((((((((((f3.set 3 (.int 0)).set 4 (.int 0)).set 5 (.int 0)).set 6 (.int (-1))).set 6 (.int 0)).set 7 (.int 0)).set 8 (.int 0)).set 11 (.int 25)).set 12 (.int 0)).set 13 (.int 0)).set 14 (.int 0)).set 3 (.int 2)).set 4 (.int 0)).set 7 (.int 44)).set 13 (.int 1)).set 13 (.int 2)).set 7 (.int 44)))), (h7, .inr (3, ((((f4.set 6 (.ref h6)).set 7 (.int 0)).set 8 (.int 0)).set 5 (.int 0)))), (h9, .inl (cI, 2001, .inl (upd g0 0 0))), (h10, .inl (cI, 2001, .inl (upd g1 0 0))), (h11, .inl (cI, 260, .inl (upd (upd (upd g2 259 0) 250 0) 251 2))), (h12, .inl (cI, 13312, .inl (upd (upd g3 12800 43) 12801 43))), (h1, .inr (12, ((((((((((((((((((((f5.set 0 (.int 0)).set 12 (.int 0)).set 2 (.int 0)).set 36 (.int 0)).set 37 (.int 0)).set 27 (.int 0)).set 31 (.int 0)).set 28 (.int 0)).set 66 (.int 25)).set 67 (.int 0)).set 76 (.int (-1))).set 83 (.int (-1))).set 83 (.int 0)).set 84 (.int 3)).set 84 (.int 4)).set 84 (.int 5)).set 31 (.int 1)).set 29 (.int 2)).set 30 (.int 0)).set 109 (.int 2)))), (h13, .inl (cI, 2001, .inl (upd g4 0 0))), (h14, .inl (cI, 2001, .inl (upd g5 0 0))), (h15, .inl (cI, 2001, .inl (upd g6 0 0))), (h16, .inl (cI, 2001, .inl (upd g7 0 0))), (h17, .inl (cI, 26, .inl (upd g8 25 0))), (h18, .inl (cI, 26, .inl (upd g9 25 0))), (h19, .inl (cI, 26, .inl (upd g10 25 0))), (h20, .inl (cI, 26, .inl (upd g11 25 0))), (h21, .inl (cI, 26, .inl (upd g12 25 0))), (h22, .inl (cI, 16, .inl (upd g13 0 33))), (h23, .inl (cI, 16, .inl (upd g14 0 (-1)))), (h24, .inl (cI, 16, .inl (upd (upd g15 0 1) 0 1))), (h25, .inl (cJ, 16, .inr (.inl (vp_updL (vp_updL g16 0 1) 0 1)))), (h26, .inl (cI, 16, .inl (upd g17 0 (-1))))] H := hP
  have hD : va_D A [(h0, .inr (11, ((f0.set 12 (.int 0)).set 13 (.int 2)))), (h3, .inr (1, f1)), (h4, .inr (2, f2)), (h5, .inr (8, (((((((((((((((((f3.set 3 (.int 0)).set 4 (.int 0)).set 5 (.int 0)).set 6 (.int (-1))).set 6 (.int 0)).set 7 (.int 0)).set 8 (.int 0)).set 11 (.int 25)).set 12 (.int 0)).set 13 (.int 0)).set 14 (.int 0)).set 3 (.int 2)).set 4 (.int 0)).set 7 (.int 44)).set 13 (.int 1)).set 13 (.int 2)).set 7 (.int 44)))), (h7, .inr (3, ((((f4.set 6 (.ref h6)).set 7 (.int 0)).set 8 (.int 0)).set 5 (.int 0)))), (h9, .inl (cI, 2001, .inl (upd g0 0 0))), (h10, .inl (cI, 2001, .inl (upd g1 0 0))), (h11, .inl (cI, 260, .inl (upd (upd (upd g2 259 0) 250 0) 251 2))), (h12, .inl (cI, 13312, .inl (upd (upd g3 12800 43) 12801 43))), (h1, .inr (12, ((((((((((((((((((((f5.set 0 (.int 0)).set 12 (.int 0)).set 2 (.int 0)).set 36 (.int 0)).set 37 (.int 0)).set 27 (.int 0)).set 31 (.int 0)).set 28 (.int 0)).set 66 (.int 25)).set 67 (.int 0)).set 76 (.int (-1))).set 83 (.int (-1))).set 83 (.int 0)).set 84 (.int 3)).set 84 (.int 4)).set 84 (.int 5)).set 31 (.int 1)).set 29 (.int 2)).set 30 (.int 0)).set 109 (.int 2)))), (h13, .inl (cI, 2001, .inl (upd g4 0 0))), (h14, .inl (cI, 2001, .inl (upd g5 0 0))), (h15, .inl (cI, 2001, .inl (upd g6 0 0))), (h16, .inl (cI, 2001, .inl (upd g7 0 0))), (h17, .inl (cI, 26, .inl (upd g8 25 0))), (h18, .inl (cI, 26, .inl (upd g9 25 0))), (h19, .inl (cI, 26, .inl (upd g10 25 0))), (h20, .inl (cI, 26, .inl (upd g11 25 0))), (h21, .inl (cI, 26, .inl (upd g12 25 0))), (h22, .inl (cI, 16, .inl (upd g13 0 33))), (h23, .inl (cI, 16, .inl (upd g14 0 (-1)))), (h24, .inl (cI, 16, .inl (upd (upd g15 0 1) 0 1))), (h25, .inl (cJ, 16, .inr (.inl (vp_updL (vp_updL g16 0 1) 0 1)))), (h26, .inl (cI, 16, .inl (upd g17 0 (-1))))] := hD
  refine lv_icmp_eq (tgt := 1765) hx hb dL_law_1495 (by decide) (fun _ => ?_) (fun c9 => absurd (by decide) c9)
  refine W.widen (k := 601024) (n := 7293034) (Nat.le_of_ble_eq_true rfl) (Nat.le_of_ble_eq_true rfl) ?_
  exact T9 _ _ _ hS (lv_sub hl [0, 4] rfl)
set_option maxHeartbeats 400000000 in
set_option maxRecDepth 100000 in
theorem law_35_0 {p : Program} {l : Launch} {e : Env} {s : State} {m : MethodId} {below : List Frame} {meth : Method} {c : Code} {b : Nat} {xs : Nat → Int32} (E : kE) (D : va_G) (cI cJ cB cZ : ClassId) (A : Nat → Prop) (Q : State → Prop) (h0 : Nat) (h1 : Nat) (h2 : Nat) (f0 : List Value) (h3 : Nat) (f1 : List Value) (f2 : List Value) (e0 : f0[9]? = some (.ref h3)) (e1 : ((xs 1) : Int32) < 0) (e2 : f2[171]? = some (.int 0)) (e3 : f2[0]? = some (.int 0)) (X9 : kLaw p l s m c b xs E D cI cJ cB cZ A) (T9 : kTail p l e s m b below meth c A Q) {H : Heap} {locs : List Loc} {ls : Array Slot} (hP : va_P D vwCl [(h0, .inr (11, f0)), (h3, .inr (9, f1)), (h1, .inr (12, f2))] H) (hD : va_D A [(h0, .inr (11, f0)), (h3, .inr (9, f1)), (h1, .inr (12, f2))]) (hS : va_S A s.heap H locs) (hl : lv_has ls 8 [(0, .ref b), (1, .ref h0), (2, .ref h1), (3, .ref h2), (4, .int 0)]) : W p l e room_1 s m #[Value.ref b] below meth c H locs 218 1205840 Q (F0 m 1500 ls []) := by
  obtain ⟨hl9, hx, hb, hml, hown, hts, hN, hX, hAE, hK, hA, hXs, hbl, hbA⟩ := X9
  refine lv_aload_n hx hb dL_law_1500 rfl (lv_at hl 1 rfl) ?_
  refine lv_aload_n hx hb dL_law_1501 rfl (lv_at hl 0 rfl) ?_
  refine lv_iload hx hb dL_law_1502 (lv_at hl 4 rfl) ?_
  refine lv_iconst (v := 1) hx hb dL_law_1504 (by decide) ?_
  refine lv_iadd hx hb dL_law_1505 ?_
  refine k_topi (y := 1) (by decide) ?_
  refine va_sld (xs := xs) hx hb hXs hbl hbA hS (k_in (by decide)) dL_law_1506 ?_
  refine k_topi (y := (xs 1)) (congrArg xs (by decide)) ?_
  refine lv_aload_n hx hb dL_law_1507 rfl (lv_at hl 3 rfl) ?_
  refine k_cSWi (As := [.ref h0, .int (xs 1), .ref h2]) (rest := []) (wc := [(h0, .inr (11, f0)), (h3, .inr (9, f1))]) (wr := [(h1, .inr (12, f2))]) (w1 := [(h0, .inr (11, f0)), (h3, .inr (9, f1))]) ⟨hx, hb, hml, hown, hts⟩ hN hX hAE hK hP hD hS hA [0, 1] [2] rfl rfl (by decide +kernel) (by decide +kernel) (by decide +kernel) (c_L_fraction_1 l E D cI cJ cB cZ h0 (xs 1) h2 f0 h3 f1 e0 e1 hl9) (vx_cwSW 3 hts g9_L_law_L_fraction_206 rfl rfl rfl (by decide +kernel) ⟨Nat.le_of_ble_eq_true rfl, Nat.le_of_ble_eq_true rfl⟩) rfl hl.1 (Nat.le_of_ble_eq_true rfl) dL_law_1508 ⟨Nat.le_of_ble_eq_true rfl, Nat.le_of_ble_eq_true rfl⟩ (fun H locs hP hD hS => ?_)
  have hP : va_P D vwCl [(h1, .inr (12, f2)), (h0, .inr (11, f0)), (h3, .inr (9, f1))] H := hP
  have hD : va_D A [(h1, .inr (12, f2)), (h0, .inr (11, f0)), (h3, .inr (9, f1))] := hD
  refine W.widen (k := 219) (n := 1205846) (Nat.le_of_ble_eq_true rfl) (Nat.le_of_ble_eq_true rfl) ?_
  refine lv_istore (lv' := [(5, .int 1), (0, .ref b), (1, .ref h0), (2, .ref h1), (3, .ref h2), (4, .int 0)]) hx hb dL_law_1511 hl (by decide) rfl (fun ls hl => ?_)
  refine lv_aload_n hx hb dL_law_1513 rfl (lv_at hl 3 rfl) ?_
  refine lv_aload_n hx hb dL_law_1514 rfl (lv_at hl 1 rfl) ?_
  refine lv_iload hx hb dL_law_1515 (lv_at hl 5 rfl) ?_
  refine lv_iconst (v := 1) hx hb dL_law_1517 (by decide) ?_
  refine lv_iadd hx hb dL_law_1518 ?_
  refine k_topi (y := 1) (by decide) ?_
  refine va_sld (xs := xs) hx hb hXs hbl hbA hS (k_in (by decide)) dL_law_1519 ?_
  refine k_topi (y := (xs 1)) (congrArg xs (by decide)) ?_
  refine k_cVl (As := [.int (xs 1)]) (rest := []) (wc := [(h1, .inr (12, f2))]) (wr := [(h0, .inr (11, f0)), (h3, .inr (9, f1))]) (w1 := [(h1, .inr (12, (f2.set 0 (.int 1))))]) ⟨hx, hb, hml, hown, hts⟩ hN hX hAE hK hP hD hS hA [0] [1, 2] (ci := 12) rfl rfl rfl rfl (by decide +kernel) (by decide +kernel) (by decide +kernel) (c_X12_fraction_1 l E D cI cJ cB cZ h1 (xs 1) f2 e2 e1 e3) (cwV 1 hts g9_L_law_X12_fraction_208 rfl rfl rfl (by decide +kernel) ⟨Nat.le_of_ble_eq_true rfl, Nat.le_of_ble_eq_true rfl⟩) rfl hl.1 (Nat.le_of_ble_eq_true rfl) dL_law_1520 ⟨Nat.le_of_ble_eq_true rfl, Nat.le_of_ble_eq_true rfl⟩ (fun H locs hP hD hS => ?_)
  have hP : va_P D vwCl [(h0, .inr (11, f0)), (h3, .inr (9, f1)), (h1, .inr (12, (f2.set 0 (.int 1))))] H := hP
  have hD : va_D A [(h0, .inr (11, f0)), (h3, .inr (9, f1)), (h1, .inr (12, (f2.set 0 (.int 1))))] := hD
  refine lv_lstore (lv' := [(6, .long 0), (5, .int 1), (0, .ref b), (1, .ref h0), (2, .ref h1), (3, .ref h2), (4, .int 0)]) hx hb dL_law_1523 hl (by decide) rfl (fun ls hl => ?_)
  refine lv_aload_n hx hb dL_law_1525 rfl (lv_at hl 4 rfl) ?_
  refine k_cVi (As := []) (rest := []) (wc := [(h1, .inr (12, (f2.set 0 (.int 1))))]) (wr := [(h0, .inr (11, f0)), (h3, .inr (9, f1))]) (w1 := [(h1, .inr (12, (f2.set 0 (.int 1))))]) ⟨hx, hb, hml, hown, hts⟩ hN hX hAE hK hP hD hS hA [2] [0, 1] (ci := 12) rfl rfl rfl rfl (by decide +kernel) (by decide +kernel) (by decide +kernel) (c_X12_thrown_1 l E D cI cJ cB cZ h1 ((f2.set 0 (.int 1))) (k_set e3)) (cwV 0 hts g9_L_law_X12_thrown_61 rfl rfl rfl (by decide +kernel) ⟨Nat.le_of_ble_eq_true rfl, Nat.le_of_ble_eq_true rfl⟩) rfl hl.1 (Nat.le_of_ble_eq_true rfl) dL_law_1526 ⟨Nat.le_of_ble_eq_true rfl, Nat.le_of_ble_eq_true rfl⟩ (fun H locs hP hD hS => ?_)
  have hP : va_P D vwCl [(h0, .inr (11, f0)), (h3, .inr (9, f1)), (h1, .inr (12, (f2.set 0 (.int 1))))] H := hP
  have hD : va_D A [(h0, .inr (11, f0)), (h3, .inr (9, f1)), (h1, .inr (12, (f2.set 0 (.int 1))))] := hD
  refine lv_iload hx hb dL_law_1529 (lv_at hl 1 rfl) ?_
  refine lv_icmp_eq (tgt := 1536) hx hb dL_law_1531 (by decide) (fun _ => ?_) (fun c9 => absurd (by decide) c9)
  refine lv_iload hx hb dL_law_1536 (lv_at hl 1 rfl) ?_
  refine lv_if_ne (tgt := 1552) hx hb dL_law_1538 (by decide) (fun _ => ?_) (fun c9 => absurd c9 (by decide))
  refine lv_goto (tgt := 1765) hx hb dL_law_1552 (by decide) ?_
  refine W.widen (k := 601024) (n := 7293034) (Nat.le_of_ble_eq_true rfl) (Nat.le_of_ble_eq_true rfl) ?_
  exact T9 _ _ _ hS (lv_sub hl [2, 6] rfl)
set_option maxHeartbeats 400000000 in
set_option maxRecDepth 100000 in
theorem law_35_1 {p : Program} {l : Launch} {e : Env} {s : State} {m : MethodId} {below : List Frame} {meth : Method} {c : Code} {b : Nat} {xs : Nat → Int32} (E : kE) (D : va_G) (cI cJ cB cZ : ClassId) (A : Nat → Prop) (Q : State → Prop) (h0 : Nat) (h1 : Nat) (h2 : Nat) (f0 : List Value) (h3 : Nat) (f1 : List Value) (f2 : List Value) (e0 : f0[9]? = some (.ref h3)) (e1 : f1[13]? = some (.int 0)) (e2 : ¬ (((xs 1) : Int32) < 0)) (e3 : f2[171]? = some (.int 0)) (e4 : f2[0]? = some (.int 0)) (X9 : kLaw p l s m c b xs E D cI cJ cB cZ A) (T9 : kTail p l e s m b below meth c A Q) {H : Heap} {locs : List Loc} {ls : Array Slot} (hP : va_P D vwCl [(h0, .inr (11, f0)), (h3, .inr (9, f1)), (h1, .inr (12, f2))] H) (hD : va_D A [(h0, .inr (11, f0)), (h3, .inr (9, f1)), (h1, .inr (12, f2))]) (hS : va_S A s.heap H locs) (hl : lv_has ls 8 [(0, .ref b), (1, .ref h0), (2, .ref h1), (3, .ref h2), (4, .int 0)]) : W p l e room_1 s m #[Value.ref b] below meth c H locs 218 1205840 Q (F0 m 1500 ls []) := by
  obtain ⟨hl9, hx, hb, hml, hown, hts, hN, hX, hAE, hK, hA, hXs, hbl, hbA⟩ := X9
  refine lv_aload_n hx hb dL_law_1500 rfl (lv_at hl 1 rfl) ?_
  refine lv_aload_n hx hb dL_law_1501 rfl (lv_at hl 0 rfl) ?_
  refine lv_iload hx hb dL_law_1502 (lv_at hl 4 rfl) ?_
  refine lv_iconst (v := 1) hx hb dL_law_1504 (by decide) ?_
  refine lv_iadd hx hb dL_law_1505 ?_
  refine k_topi (y := 1) (by decide) ?_
  refine va_sld (xs := xs) hx hb hXs hbl hbA hS (k_in (by decide)) dL_law_1506 ?_
  refine k_topi (y := (xs 1)) (congrArg xs (by decide)) ?_
  refine lv_aload_n hx hb dL_law_1507 rfl (lv_at hl 3 rfl) ?_
  refine k_cSWi (As := [.ref h0, .int (xs 1), .ref h2]) (rest := []) (wc := [(h0, .inr (11, f0)), (h3, .inr (9, f1))]) (wr := [(h1, .inr (12, f2))]) (w1 := [(h0, .inr (11, f0)), (h3, .inr (9, f1))]) ⟨hx, hb, hml, hown, hts⟩ hN hX hAE hK hP hD hS hA [0, 1] [2] rfl rfl (by decide +kernel) (by decide +kernel) (by decide +kernel) (c_L_fraction_0 l E D cI cJ cB cZ h0 (xs 1) h2 f0 h3 f1 e0 e1 e2 hl9) (vx_cwSW 3 hts g9_L_law_L_fraction_206 rfl rfl rfl (by decide +kernel) ⟨Nat.le_of_ble_eq_true rfl, Nat.le_of_ble_eq_true rfl⟩) rfl hl.1 (Nat.le_of_ble_eq_true rfl) dL_law_1508 ⟨Nat.le_of_ble_eq_true rfl, Nat.le_of_ble_eq_true rfl⟩ (fun H locs hP hD hS => ?_)
  have hP : va_P D vwCl [(h1, .inr (12, f2)), (h0, .inr (11, f0)), (h3, .inr (9, f1))] H := hP
  have hD : va_D A [(h1, .inr (12, f2)), (h0, .inr (11, f0)), (h3, .inr (9, f1))] := hD
  refine W.widen (k := 219) (n := 1205846) (Nat.le_of_ble_eq_true rfl) (Nat.le_of_ble_eq_true rfl) ?_
  refine lv_istore (lv' := [(5, .int 1), (0, .ref b), (1, .ref h0), (2, .ref h1), (3, .ref h2), (4, .int 0)]) hx hb dL_law_1511 hl (by decide) rfl (fun ls hl => ?_)
  refine lv_aload_n hx hb dL_law_1513 rfl (lv_at hl 3 rfl) ?_
  refine lv_aload_n hx hb dL_law_1514 rfl (lv_at hl 1 rfl) ?_
  refine lv_iload hx hb dL_law_1515 (lv_at hl 5 rfl) ?_
  refine lv_iconst (v := 1) hx hb dL_law_1517 (by decide) ?_
  refine lv_iadd hx hb dL_law_1518 ?_
  refine k_topi (y := 1) (by decide) ?_
  refine va_sld (xs := xs) hx hb hXs hbl hbA hS (k_in (by decide)) dL_law_1519 ?_
  refine k_topi (y := (xs 1)) (congrArg xs (by decide)) ?_
  refine k_cVl (As := [.int (xs 1)]) (rest := []) (wc := [(h1, .inr (12, f2))]) (wr := [(h0, .inr (11, f0)), (h3, .inr (9, f1))]) (w1 := [(h1, .inr (12, (f2.set 0 (.int 1))))]) ⟨hx, hb, hml, hown, hts⟩ hN hX hAE hK hP hD hS hA [0] [1, 2] (ci := 12) rfl rfl rfl rfl (by decide +kernel) (by decide +kernel) (by decide +kernel) (c_X12_fraction_0 l E D cI cJ cB cZ h1 (xs 1) f2 e3 e2 e4) (cwV 1 hts g9_L_law_X12_fraction_208 rfl rfl rfl (by decide +kernel) ⟨Nat.le_of_ble_eq_true rfl, Nat.le_of_ble_eq_true rfl⟩) rfl hl.1 (Nat.le_of_ble_eq_true rfl) dL_law_1520 ⟨Nat.le_of_ble_eq_true rfl, Nat.le_of_ble_eq_true rfl⟩ (fun H locs hP hD hS => ?_)
  have hP : va_P D vwCl [(h0, .inr (11, f0)), (h3, .inr (9, f1)), (h1, .inr (12, (f2.set 0 (.int 1))))] H := hP
  have hD : va_D A [(h0, .inr (11, f0)), (h3, .inr (9, f1)), (h1, .inr (12, (f2.set 0 (.int 1))))] := hD
  refine lv_lstore (lv' := [(6, .long 0), (5, .int 1), (0, .ref b), (1, .ref h0), (2, .ref h1), (3, .ref h2), (4, .int 0)]) hx hb dL_law_1523 hl (by decide) rfl (fun ls hl => ?_)
  refine lv_aload_n hx hb dL_law_1525 rfl (lv_at hl 4 rfl) ?_
  refine k_cVi (As := []) (rest := []) (wc := [(h1, .inr (12, (f2.set 0 (.int 1))))]) (wr := [(h0, .inr (11, f0)), (h3, .inr (9, f1))]) (w1 := [(h1, .inr (12, (f2.set 0 (.int 1))))]) ⟨hx, hb, hml, hown, hts⟩ hN hX hAE hK hP hD hS hA [2] [0, 1] (ci := 12) rfl rfl rfl rfl (by decide +kernel) (by decide +kernel) (by decide +kernel) (c_X12_thrown_1 l E D cI cJ cB cZ h1 ((f2.set 0 (.int 1))) (k_set e4)) (cwV 0 hts g9_L_law_X12_thrown_61 rfl rfl rfl (by decide +kernel) ⟨Nat.le_of_ble_eq_true rfl, Nat.le_of_ble_eq_true rfl⟩) rfl hl.1 (Nat.le_of_ble_eq_true rfl) dL_law_1526 ⟨Nat.le_of_ble_eq_true rfl, Nat.le_of_ble_eq_true rfl⟩ (fun H locs hP hD hS => ?_)
  have hP : va_P D vwCl [(h0, .inr (11, f0)), (h3, .inr (9, f1)), (h1, .inr (12, (f2.set 0 (.int 1))))] H := hP
  have hD : va_D A [(h0, .inr (11, f0)), (h3, .inr (9, f1)), (h1, .inr (12, (f2.set 0 (.int 1))))] := hD
  refine lv_iload hx hb dL_law_1529 (lv_at hl 1 rfl) ?_
  refine lv_icmp_eq (tgt := 1536) hx hb dL_law_1531 (by decide) (fun _ => ?_) (fun c9 => absurd (by decide) c9)
  refine lv_iload hx hb dL_law_1536 (lv_at hl 1 rfl) ?_
  refine lv_if_ne (tgt := 1552) hx hb dL_law_1538 (by decide) (fun _ => ?_) (fun c9 => absurd c9 (by decide))
  refine lv_goto (tgt := 1765) hx hb dL_law_1552 (by decide) ?_
  refine W.widen (k := 601024) (n := 7293034) (Nat.le_of_ble_eq_true rfl) (Nat.le_of_ble_eq_true rfl) ?_
  exact T9 _ _ _ hS (lv_sub hl [2, 6] rfl)
set_option maxHeartbeats 400000000 in
set_option maxRecDepth 100000 in
theorem law_36_0 {p : Program} {l : Launch} {e : Env} {s : State} {m : MethodId} {below : List Frame} {meth : Method} {c : Code} {b : Nat} {xs : Nat → Int32} (E : kE) (D : va_G) (cI cJ cB cZ : ClassId) (A : Nat → Prop) (Q : State → Prop) (h0 : Nat) (h1 : Nat) (h2 : Nat) (f0 : List Value) (h3 : Nat) (f1 : List Value) (f2 : List Value) (h4 : Nat) (h5 : Nat) (h6 : Nat) (h7 : Nat) (g0 : Nat → Int32) (g1 : Nat → Int32) (g2 : Nat → Int32) (g3 : Nat → Int32) (e0 : f0[1]? = some (.ref h3)) (e1 : f1[8]? = some (.int 0)) (e2 : f0[12]? = some (.int 0)) (e3 : ((xs 1) : Int32) < 0) (e4 : f2[0]? = some (.int 0)) (e5 : f2[5]? = some (.int 0)) (e6 : f2[2]? = some (.int 0)) (e7 : f2[12]? = some (.int 0)) (e8 : f2[32]? = some (.int 0)) (e9 : f2[36]? = some (.int 0)) (e10 : f2[33]? = some (.int 0)) (e11 : f2[37]? = some (.int 0)) (e12 : f2[27]? = some (.int 0)) (e13 : f2[31]? = some (.int 0)) (e14 : f2[28]? = some (.int 0)) (e15 : f2[23]? = some (.ref h4)) (e16 : f2[24]? = some (.ref h5)) (e17 : f2[25]? = some (.ref h6)) (e18 : f2[26]? = some (.ref h7)) (X9 : kLaw p l s m c b xs E D cI cJ cB cZ A) (T9 : kTail p l e s m b below meth c A Q) {H : Heap} {locs : List Loc} {ls : Array Slot} (hP : va_P D vwCl [(h0, .inr (11, f0)), (h3, .inr (1, f1)), (h1, .inr (12, f2)), (h4, .inl (cI, 2001, .inl g0)), (h5, .inl (cI, 2001, .inl g1)), (h6, .inl (cI, 2001, .inl g2)), (h7, .inl (cI, 2001, .inl g3))] H) (hD : va_D A [(h0, .inr (11, f0)), (h3, .inr (1, f1)), (h1, .inr (12, f2)), (h4, .inl (cI, 2001, .inl g0)), (h5, .inl (cI, 2001, .inl g1)), (h6, .inl (cI, 2001, .inl g2)), (h7, .inl (cI, 2001, .inl g3))]) (hS : va_S A s.heap H locs) (hl : lv_has ls 8 [(0, .ref b), (1, .ref h0), (2, .ref h1), (3, .ref h2), (4, .int 0)]) : W p l e room_1 s m #[Value.ref b] below meth c H locs 218 1205840 Q (F0 m 1555 ls []) := by
  obtain ⟨hl9, hx, hb, hml, hown, hts, hN, hX, hAE, hK, hA, hXs, hbl, hbA⟩ := X9
  refine lv_aload_n hx hb dL_law_1555 rfl (lv_at hl 1 rfl) ?_
  refine lv_aload_n hx hb dL_law_1556 rfl (lv_at hl 0 rfl) ?_
  refine lv_iload hx hb dL_law_1557 (lv_at hl 4 rfl) ?_
  refine lv_iconst (v := 1) hx hb dL_law_1559 (by decide) ?_
  refine lv_iadd hx hb dL_law_1560 ?_
  refine k_topi (y := 1) (by decide) ?_
  refine va_sld (xs := xs) hx hb hXs hbl hbA hS (k_in (by decide)) dL_law_1561 ?_
  refine k_topi (y := (xs 1)) (congrArg xs (by decide)) ?_
  refine lv_aload_n hx hb dL_law_1562 rfl (lv_at hl 0 rfl) ?_
  refine lv_iload hx hb dL_law_1563 (lv_at hl 4 rfl) ?_
  refine lv_iconst (v := 2) hx hb dL_law_1565 (by decide) ?_
  refine lv_iadd hx hb dL_law_1566 ?_
  refine k_topi (y := 2) (by decide) ?_
  refine va_sld (xs := xs) hx hb hXs hbl hbA hS (k_in (by decide)) dL_law_1567 ?_
  refine k_topi (y := (xs 2)) (congrArg xs (by decide)) ?_
  refine k_cVi (As := [.int (xs 1), .int (xs 2)]) (rest := []) (wc := [(h0, .inr (11, f0)), (h3, .inr (1, f1))]) (wr := [(h1, .inr (12, f2)), (h4, .inl (cI, 2001, .inl g0)), (h5, .inl (cI, 2001, .inl g1)), (h6, .inl (cI, 2001, .inl g2)), (h7, .inl (cI, 2001, .inl g3))]) (w1 := [(h0, .inr (11, (f0.set 12 (.int 0)))), (h3, .inr (1, f1))]) ⟨hx, hb, hml, hown, hts⟩ hN hX hAE hK hP hD hS hA [0, 1] [2, 3, 4, 5, 6] (ci := 11) rfl rfl rfl rfl (by decide +kernel) (by decide +kernel) (by decide +kernel) (c_X11_search_1 l E D cI cJ cB cZ h0 (xs 1) (xs 2) f0 h3 f1 e0 e1 e2 e3) (cwV 2 hts g9_L_law_X11_search_209 rfl rfl rfl (by decide +kernel) ⟨Nat.le_of_ble_eq_true rfl, Nat.le_of_ble_eq_true rfl⟩) rfl hl.1 (Nat.le_of_ble_eq_true rfl) dL_law_1568 ⟨Nat.le_of_ble_eq_true rfl, Nat.le_of_ble_eq_true rfl⟩ (fun H locs hP hD hS => ?_)
  have hP : va_P D vwCl [(h1, .inr (12, f2)), (h4, .inl (cI, 2001, .inl g0)), (h5, .inl (cI, 2001, .inl g1)), (h6, .inl (cI, 2001, .inl g2)), (h7, .inl (cI, 2001, .inl g3)), (h0, .inr (11, (f0.set 12 (.int 0)))), (h3, .inr (1, f1))] H := hP
  have hD : va_D A [(h1, .inr (12, f2)), (h4, .inl (cI, 2001, .inl g0)), (h5, .inl (cI, 2001, .inl g1)), (h6, .inl (cI, 2001, .inl g2)), (h7, .inl (cI, 2001, .inl g3)), (h0, .inr (11, (f0.set 12 (.int 0)))), (h3, .inr (1, f1))] := hD
  refine lv_aload_n hx hb dL_law_1571 rfl (lv_at hl 2 rfl) ?_
  refine lv_aload_n hx hb dL_law_1572 rfl (lv_at hl 0 rfl) ?_
  refine lv_iload hx hb dL_law_1573 (lv_at hl 4 rfl) ?_
  refine lv_iconst (v := 1) hx hb dL_law_1575 (by decide) ?_
  refine lv_iadd hx hb dL_law_1576 ?_
  refine k_topi (y := 1) (by decide) ?_
  refine va_sld (xs := xs) hx hb hXs hbl hbA hS (k_in (by decide)) dL_law_1577 ?_
  refine k_topi (y := (xs 1)) (congrArg xs (by decide)) ?_
  refine lv_aload_n hx hb dL_law_1578 rfl (lv_at hl 0 rfl) ?_
  refine lv_iload hx hb dL_law_1579 (lv_at hl 4 rfl) ?_
  refine lv_iconst (v := 2) hx hb dL_law_1581 (by decide) ?_
  refine lv_iadd hx hb dL_law_1582 ?_
  refine k_topi (y := 2) (by decide) ?_
  refine va_sld (xs := xs) hx hb hXs hbl hbA hS (k_in (by decide)) dL_law_1583 ?_
  refine k_topi (y := (xs 2)) (congrArg xs (by decide)) ?_
  refine k_cVi (As := [.int (xs 1), .int (xs 2)]) (rest := [.int (-102)]) (wc := [(h1, .inr (12, f2)), (h4, .inl (cI, 2001, .inl g0)), (h5, .inl (cI, 2001, .inl g1)), (h6, .inl (cI, 2001, .inl g2)), (h7, .inl (cI, 2001, .inl g3))]) (wr := [(h0, .inr (11, (f0.set 12 (.int 0)))), (h3, .inr (1, f1))]) (w1 := [(h1, .inr (12, ((((((((f2.set 0 (.int 0)).set 12 (.int 0)).set 2 (.int 0)).set 36 (.int 0)).set 37 (.int 0)).set 27 (.int 0)).set 31 (.int 0)).set 28 (.int 0)))), (h4, .inl (cI, 2001, .inl (upd g0 0 0))), (h5, .inl (cI, 2001, .inl (upd g1 0 0))), (h6, .inl (cI, 2001, .inl (upd g2 0 0))), (h7, .inl (cI, 2001, .inl (upd g3 0 0)))]) ⟨hx, hb, hml, hown, hts⟩ hN hX hAE hK hP hD hS hA [0, 1, 2, 3, 4] [5, 6] (ci := 12) rfl rfl rfl rfl (by decide +kernel) (by decide +kernel) (by decide +kernel) (c_X12_search_1 l E D cI cJ cB cZ h1 (xs 1) (xs 2) f2 h4 h5 h6 h7 g0 g1 g2 g3 e4 e5 e6 e7 e8 e9 e10 e11 e12 e13 e14 e15 e16 e17 e18 e3) (cwV 2 hts g9_L_law_X12_search_212 rfl rfl rfl (by decide +kernel) ⟨Nat.le_of_ble_eq_true rfl, Nat.le_of_ble_eq_true rfl⟩) rfl hl.1 (Nat.le_of_ble_eq_true rfl) dL_law_1584 ⟨Nat.le_of_ble_eq_true rfl, Nat.le_of_ble_eq_true rfl⟩ (fun H locs hP hD hS => ?_)
  have hP : va_P D vwCl [(h0, .inr (11, (f0.set 12 (.int 0)))), (h3, .inr (1, f1)), (h1, .inr (12, ((((((((f2.set 0 (.int 0)).set 12 (.int 0)).set 2 (.int 0)).set 36 (.int 0)).set 37 (.int 0)).set 27 (.int 0)).set 31 (.int 0)).set 28 (.int 0)))), (h4, .inl (cI, 2001, .inl (upd g0 0 0))), (h5, .inl (cI, 2001, .inl (upd g1 0 0))), (h6, .inl (cI, 2001, .inl (upd g2 0 0))), (h7, .inl (cI, 2001, .inl (upd g3 0 0)))] H := hP
  have hD : va_D A [(h0, .inr (11, (f0.set 12 (.int 0)))), (h3, .inr (1, f1)), (h1, .inr (12, ((((((((f2.set 0 (.int 0)).set 12 (.int 0)).set 2 (.int 0)).set 36 (.int 0)).set 37 (.int 0)).set 27 (.int 0)).set 31 (.int 0)).set 28 (.int 0)))), (h4, .inl (cI, 2001, .inl (upd g0 0 0))), (h5, .inl (cI, 2001, .inl (upd g1 0 0))), (h6, .inl (cI, 2001, .inl (upd g2 0 0))), (h7, .inl (cI, 2001, .inl (upd g3 0 0)))] := hD
  refine lv_icmp_eq (tgt := 1765) hx hb dL_law_1587 (by decide) (fun _ => ?_) (fun c9 => absurd (by decide) c9)
  refine W.widen (k := 601024) (n := 7293034) (Nat.le_of_ble_eq_true rfl) (Nat.le_of_ble_eq_true rfl) ?_
  exact T9 _ _ _ hS (lv_sub hl [0, 4] rfl)
set_option maxHeartbeats 400000000 in
set_option maxRecDepth 100000 in
theorem law_36_1 {p : Program} {l : Launch} {e : Env} {s : State} {m : MethodId} {below : List Frame} {meth : Method} {c : Code} {b : Nat} {xs : Nat → Int32} (E : kE) (D : va_G) (cI cJ cB cZ : ClassId) (A : Nat → Prop) (Q : State → Prop) (h0 : Nat) (h1 : Nat) (h2 : Nat) (f0 : List Value) (h3 : Nat) (f1 : List Value) (f2 : List Value) (h4 : Nat) (h5 : Nat) (h6 : Nat) (h7 : Nat) (g0 : Nat → Int32) (g1 : Nat → Int32) (g2 : Nat → Int32) (g3 : Nat → Int32) (e0 : f0[1]? = some (.ref h3)) (e1 : f1[8]? = some (.int 0)) (e2 : f0[12]? = some (.int 0)) (e3 : ¬ (((xs 1) : Int32) < 0)) (e4 : ((xs 1) : Int32) < 2) (e5 : ((xs 2) : Int32) < 1) (e6 : f2[0]? = some (.int 0)) (e7 : f2[5]? = some (.int 0)) (e8 : f2[2]? = some (.int 0)) (e9 : f2[12]? = some (.int 0)) (e10 : f2[32]? = some (.int 0)) (e11 : f2[36]? = some (.int 0)) (e12 : f2[33]? = some (.int 0)) (e13 : f2[37]? = some (.int 0)) (e14 : f2[27]? = some (.int 0)) (e15 : f2[31]? = some (.int 0)) (e16 : f2[28]? = some (.int 0)) (e17 : f2[23]? = some (.ref h4)) (e18 : f2[24]? = some (.ref h5)) (e19 : f2[25]? = some (.ref h6)) (e20 : f2[26]? = some (.ref h7)) (X9 : kLaw p l s m c b xs E D cI cJ cB cZ A) (T9 : kTail p l e s m b below meth c A Q) {H : Heap} {locs : List Loc} {ls : Array Slot} (hP : va_P D vwCl [(h0, .inr (11, f0)), (h3, .inr (1, f1)), (h1, .inr (12, f2)), (h4, .inl (cI, 2001, .inl g0)), (h5, .inl (cI, 2001, .inl g1)), (h6, .inl (cI, 2001, .inl g2)), (h7, .inl (cI, 2001, .inl g3))] H) (hD : va_D A [(h0, .inr (11, f0)), (h3, .inr (1, f1)), (h1, .inr (12, f2)), (h4, .inl (cI, 2001, .inl g0)), (h5, .inl (cI, 2001, .inl g1)), (h6, .inl (cI, 2001, .inl g2)), (h7, .inl (cI, 2001, .inl g3))]) (hS : va_S A s.heap H locs) (hl : lv_has ls 8 [(0, .ref b), (1, .ref h0), (2, .ref h1), (3, .ref h2), (4, .int 0)]) : W p l e room_1 s m #[Value.ref b] below meth c H locs 218 1205840 Q (F0 m 1555 ls []) := by
  obtain ⟨hl9, hx, hb, hml, hown, hts, hN, hX, hAE, hK, hA, hXs, hbl, hbA⟩ := X9
  refine lv_aload_n hx hb dL_law_1555 rfl (lv_at hl 1 rfl) ?_
  refine lv_aload_n hx hb dL_law_1556 rfl (lv_at hl 0 rfl) ?_
  refine lv_iload hx hb dL_law_1557 (lv_at hl 4 rfl) ?_
  refine lv_iconst (v := 1) hx hb dL_law_1559 (by decide) ?_
  refine lv_iadd hx hb dL_law_1560 ?_
  refine k_topi (y := 1) (by decide) ?_
  refine va_sld (xs := xs) hx hb hXs hbl hbA hS (k_in (by decide)) dL_law_1561 ?_
  refine k_topi (y := (xs 1)) (congrArg xs (by decide)) ?_
  refine lv_aload_n hx hb dL_law_1562 rfl (lv_at hl 0 rfl) ?_
  refine lv_iload hx hb dL_law_1563 (lv_at hl 4 rfl) ?_
  refine lv_iconst (v := 2) hx hb dL_law_1565 (by decide) ?_
  refine lv_iadd hx hb dL_law_1566 ?_
  refine k_topi (y := 2) (by decide) ?_
  refine va_sld (xs := xs) hx hb hXs hbl hbA hS (k_in (by decide)) dL_law_1567 ?_
  refine k_topi (y := (xs 2)) (congrArg xs (by decide)) ?_
  refine k_cVi (As := [.int (xs 1), .int (xs 2)]) (rest := []) (wc := [(h0, .inr (11, f0)), (h3, .inr (1, f1))]) (wr := [(h1, .inr (12, f2)), (h4, .inl (cI, 2001, .inl g0)), (h5, .inl (cI, 2001, .inl g1)), (h6, .inl (cI, 2001, .inl g2)), (h7, .inl (cI, 2001, .inl g3))]) (w1 := [(h0, .inr (11, (f0.set 12 (.int 0)))), (h3, .inr (1, f1))]) ⟨hx, hb, hml, hown, hts⟩ hN hX hAE hK hP hD hS hA [0, 1] [2, 3, 4, 5, 6] (ci := 11) rfl rfl rfl rfl (by decide +kernel) (by decide +kernel) (by decide +kernel) (c_X11_search_2 l E D cI cJ cB cZ h0 (xs 1) (xs 2) f0 h3 f1 e0 e1 e2 e3 e4 e5) (cwV 2 hts g9_L_law_X11_search_209 rfl rfl rfl (by decide +kernel) ⟨Nat.le_of_ble_eq_true rfl, Nat.le_of_ble_eq_true rfl⟩) rfl hl.1 (Nat.le_of_ble_eq_true rfl) dL_law_1568 ⟨Nat.le_of_ble_eq_true rfl, Nat.le_of_ble_eq_true rfl⟩ (fun H locs hP hD hS => ?_)
  have hP : va_P D vwCl [(h1, .inr (12, f2)), (h4, .inl (cI, 2001, .inl g0)), (h5, .inl (cI, 2001, .inl g1)), (h6, .inl (cI, 2001, .inl g2)), (h7, .inl (cI, 2001, .inl g3)), (h0, .inr (11, (f0.set 12 (.int 0)))), (h3, .inr (1, f1))] H := hP
  have hD : va_D A [(h1, .inr (12, f2)), (h4, .inl (cI, 2001, .inl g0)), (h5, .inl (cI, 2001, .inl g1)), (h6, .inl (cI, 2001, .inl g2)), (h7, .inl (cI, 2001, .inl g3)), (h0, .inr (11, (f0.set 12 (.int 0)))), (h3, .inr (1, f1))] := hD
  refine lv_aload_n hx hb dL_law_1571 rfl (lv_at hl 2 rfl) ?_
  refine lv_aload_n hx hb dL_law_1572 rfl (lv_at hl 0 rfl) ?_
  refine lv_iload hx hb dL_law_1573 (lv_at hl 4 rfl) ?_
  refine lv_iconst (v := 1) hx hb dL_law_1575 (by decide) ?_
  refine lv_iadd hx hb dL_law_1576 ?_
  refine k_topi (y := 1) (by decide) ?_
  refine va_sld (xs := xs) hx hb hXs hbl hbA hS (k_in (by decide)) dL_law_1577 ?_
  refine k_topi (y := (xs 1)) (congrArg xs (by decide)) ?_
  refine lv_aload_n hx hb dL_law_1578 rfl (lv_at hl 0 rfl) ?_
  refine lv_iload hx hb dL_law_1579 (lv_at hl 4 rfl) ?_
  refine lv_iconst (v := 2) hx hb dL_law_1581 (by decide) ?_
  refine lv_iadd hx hb dL_law_1582 ?_
  refine k_topi (y := 2) (by decide) ?_
  refine va_sld (xs := xs) hx hb hXs hbl hbA hS (k_in (by decide)) dL_law_1583 ?_
  refine k_topi (y := (xs 2)) (congrArg xs (by decide)) ?_
  refine k_cVi (As := [.int (xs 1), .int (xs 2)]) (rest := [.int (-102)]) (wc := [(h1, .inr (12, f2)), (h4, .inl (cI, 2001, .inl g0)), (h5, .inl (cI, 2001, .inl g1)), (h6, .inl (cI, 2001, .inl g2)), (h7, .inl (cI, 2001, .inl g3))]) (wr := [(h0, .inr (11, (f0.set 12 (.int 0)))), (h3, .inr (1, f1))]) (w1 := [(h1, .inr (12, ((((((((f2.set 0 (.int 0)).set 12 (.int 0)).set 2 (.int 0)).set 36 (.int 0)).set 37 (.int 0)).set 27 (.int 0)).set 31 (.int 0)).set 28 (.int 0)))), (h4, .inl (cI, 2001, .inl (upd g0 0 0))), (h5, .inl (cI, 2001, .inl (upd g1 0 0))), (h6, .inl (cI, 2001, .inl (upd g2 0 0))), (h7, .inl (cI, 2001, .inl (upd g3 0 0)))]) ⟨hx, hb, hml, hown, hts⟩ hN hX hAE hK hP hD hS hA [0, 1, 2, 3, 4] [5, 6] (ci := 12) rfl rfl rfl rfl (by decide +kernel) (by decide +kernel) (by decide +kernel) (c_X12_search_2 l E D cI cJ cB cZ h1 (xs 1) (xs 2) f2 h4 h5 h6 h7 g0 g1 g2 g3 e6 e7 e8 e9 e10 e11 e12 e13 e14 e15 e16 e17 e18 e19 e20 e3 e4 e5) (cwV 2 hts g9_L_law_X12_search_212 rfl rfl rfl (by decide +kernel) ⟨Nat.le_of_ble_eq_true rfl, Nat.le_of_ble_eq_true rfl⟩) rfl hl.1 (Nat.le_of_ble_eq_true rfl) dL_law_1584 ⟨Nat.le_of_ble_eq_true rfl, Nat.le_of_ble_eq_true rfl⟩ (fun H locs hP hD hS => ?_)
  have hP : va_P D vwCl [(h0, .inr (11, (f0.set 12 (.int 0)))), (h3, .inr (1, f1)), (h1, .inr (12, ((((((((f2.set 0 (.int 0)).set 12 (.int 0)).set 2 (.int 0)).set 36 (.int 0)).set 37 (.int 0)).set 27 (.int 0)).set 31 (.int 0)).set 28 (.int 0)))), (h4, .inl (cI, 2001, .inl (upd g0 0 0))), (h5, .inl (cI, 2001, .inl (upd g1 0 0))), (h6, .inl (cI, 2001, .inl (upd g2 0 0))), (h7, .inl (cI, 2001, .inl (upd g3 0 0)))] H := hP
  have hD : va_D A [(h0, .inr (11, (f0.set 12 (.int 0)))), (h3, .inr (1, f1)), (h1, .inr (12, ((((((((f2.set 0 (.int 0)).set 12 (.int 0)).set 2 (.int 0)).set 36 (.int 0)).set 37 (.int 0)).set 27 (.int 0)).set 31 (.int 0)).set 28 (.int 0)))), (h4, .inl (cI, 2001, .inl (upd g0 0 0))), (h5, .inl (cI, 2001, .inl (upd g1 0 0))), (h6, .inl (cI, 2001, .inl (upd g2 0 0))), (h7, .inl (cI, 2001, .inl (upd g3 0 0)))] := hD
  refine lv_icmp_eq (tgt := 1765) hx hb dL_law_1587 (by decide) (fun _ => ?_) (fun c9 => absurd (by decide) c9)
  refine W.widen (k := 601024) (n := 7293034) (Nat.le_of_ble_eq_true rfl) (Nat.le_of_ble_eq_true rfl) ?_
  exact T9 _ _ _ hS (lv_sub hl [0, 4] rfl)
set_option maxHeartbeats 400000000 in
set_option maxRecDepth 100000 in
theorem law_36_2 {p : Program} {l : Launch} {e : Env} {s : State} {m : MethodId} {below : List Frame} {meth : Method} {c : Code} {b : Nat} {xs : Nat → Int32} (E : kE) (D : va_G) (cI cJ cB cZ : ClassId) (A : Nat → Prop) (Q : State → Prop) (h0 : Nat) (h1 : Nat) (h2 : Nat) (f0 : List Value) (h3 : Nat) (f1 : List Value) (h4 : Nat) (f2 : List Value) (h5 : Nat) (h6 : Nat) (f3 : List Value) (h7 : Nat) (f4 : List Value) (h8 : Nat) (h9 : Nat) (h10 : Nat) (h11 : Nat) (h12 : Nat) (g0 : Nat → Int32) (g1 : Nat → Int32) (g2 : Nat → Int32) (g3 : Nat → Int32) (f5 : List Value) (h13 : Nat) (h14 : Nat) (h15 : Nat) (h16 : Nat) (h17 : Nat) (h18 : Nat) (h19 : Nat) (h20 : Nat) (h21 : Nat) (h22 : Nat) (h23 : Nat) (h24 : Nat) (h25 : Nat) (h26 : Nat) (g4 : Nat → Int32) (g5 : Nat → Int32) (g6 : Nat → Int32) (g7 : Nat → Int32) (g8 : Nat → Int32) (g9 : Nat → Int32) (g10 : Nat → Int32) (g11 : Nat → Int32) (g12 : Nat → Int32) (g13 : Nat → Int32) (g14 : Nat → Int32) (g15 : Nat → Int32) (g16 : Nat → Int64) (g17 : Nat → Int32) (e0 : f0[1]? = some (.ref h3)) (e1 : f1[8]? = some (.int 0)) (e2 : f0[12]? = some (.int 0)) (e3 : ¬ (((xs 1) : Int32) < 0)) (e4 : ((xs 1) : Int32) < 2) (e5 : ¬ (((xs 2) : Int32) < 1)) (e6 : ((xs 2) : Int32) < 101) (e7 : f0[2]? = some (.ref h4)) (e8 : f2[11]? = some (.int 0)) (e9 : f0[5]? = some (.ref h5)) (e10 : f0[0]? = some (.ref h6)) (e11 : f3[0]? = some (.ref h7)) (e12 : f4[6]? = some (.ref h8)) (e13 : f4[7]? = some (.int 0)) (e14 : f4[8]? = some (.int 0)) (e15 : f4[5]? = some (.int 0)) (e16 : f4[1]? = some (.ref h9)) (e17 : f4[2]? = some (.ref h10)) (e18 : f3[3]? = some (.int 0)) (e19 : f3[4]? = some (.int 0)) (e20 : f3[5]? = some (.int 0)) (e21 : f3[6]? = some (.int 0)) (e22 : f3[7]? = some (.int 0)) (e23 : f3[8]? = some (.int 0)) (e24 : f3[11]? = some (.int 0)) (e25 : f3[12]? = some (.int 0)) (e26 : f3[13]? = some (.int 0)) (e27 : f3[14]? = some (.int 0)) (e28 : f3[1]? = some (.ref h4)) (e29 : f2[5]? = some (.ref h11)) (e30 : f2[10]? = some (.int 0)) (e31 : f2[3]? = some (.ref h12)) (e32 : f0[13]? = some (.int 0)) (e33 : f5[0]? = some (.int 0)) (e34 : f5[5]? = some (.int 0)) (e35 : f5[2]? = some (.int 0)) (e36 : f5[12]? = some (.int 0)) (e37 : f5[32]? = some (.int 0)) (e38 : f5[36]? = some (.int 0)) (e39 : f5[33]? = some (.int 0)) (e40 : f5[37]? = some (.int 0)) (e41 : f5[27]? = some (.int 0)) (e42 : f5[31]? = some (.int 0)) (e43 : f5[28]? = some (.int 0)) (e44 : f5[23]? = some (.ref h13)) (e45 : f5[24]? = some (.ref h14)) (e46 : f5[25]? = some (.ref h15)) (e47 : f5[26]? = some (.ref h16)) (e48 : f5[66]? = some (.int 0)) (e49 : f5[67]? = some (.int 0)) (e50 : f5[40]? = some (.ref h17)) (e51 : f5[45]? = some (.ref h18)) (e52 : f5[56]? = some (.ref h19)) (e53 : f5[60]? = some (.ref h20)) (e54 : f5[65]? = some (.ref h21)) (e55 : f5[76]? = some (.int 0)) (e56 : f5[83]? = some (.int 0)) (e57 : f5[77]? = some (.ref h22)) (e58 : f5[78]? = some (.ref h23)) (e59 : f5[80]? = some (.ref h24)) (e60 : f5[81]? = some (.ref h25)) (e61 : f5[82]? = some (.ref h26)) (e62 : f5[84]? = some (.int 0)) (e63 : f5[29]? = some (.int 0)) (e64 : f5[30]? = some (.int 0)) (e65 : f5[85]? = some (.int 0)) (e66 : f5[13]? = some (.int 0)) (e67 : f5[109]? = some (.int 0)) (X9 : kLaw p l s m c b xs E D cI cJ cB cZ A) (T9 : kTail p l e s m b below meth c A Q) {H : Heap} {locs : List Loc} {ls : Array Slot} (hP : va_P D vwCl [(h0, .inr (11, f0)), (h3, .inr (1, f1)), (h4, .inr (2, f2)), (h5, .inr (8, f3)), (h7, .inr (3, f4)), (h9, .inl (cI, 2001, .inl g0)), (h10, .inl (cI, 2001, .inl g1)), (h11, .inl (cI, 260, .inl g2)), (h12, .inl (cI, 13312, .inl g3)), (h1, .inr (12, f5)), (h13, .inl (cI, 2001, .inl g4)), (h14, .inl (cI, 2001, .inl g5)), (h15, .inl (cI, 2001, .inl g6)), (h16, .inl (cI, 2001, .inl g7)), (h17, .inl (cI, 26, .inl g8)), (h18, .inl (cI, 26, .inl g9)), (h19, .inl (cI, 26, .inl g10)), (h20, .inl (cI, 26, .inl g11)), (h21, .inl (cI, 26, .inl g12)), (h22, .inl (cI, 16, .inl g13)), (h23, .inl (cI, 16, .inl g14)), (h24, .inl (cI, 16, .inl g15)), (h25, .inl (cJ, 16, .inr (.inl g16))), (h26, .inl (cI, 16, .inl g17))] H) (hD : va_D A [(h0, .inr (11, f0)), (h3, .inr (1, f1)), (h4, .inr (2, f2)), (h5, .inr (8, f3)), (h7, .inr (3, f4)), (h9, .inl (cI, 2001, .inl g0)), (h10, .inl (cI, 2001, .inl g1)), (h11, .inl (cI, 260, .inl g2)), (h12, .inl (cI, 13312, .inl g3)), (h1, .inr (12, f5)), (h13, .inl (cI, 2001, .inl g4)), (h14, .inl (cI, 2001, .inl g5)), (h15, .inl (cI, 2001, .inl g6)), (h16, .inl (cI, 2001, .inl g7)), (h17, .inl (cI, 26, .inl g8)), (h18, .inl (cI, 26, .inl g9)), (h19, .inl (cI, 26, .inl g10)), (h20, .inl (cI, 26, .inl g11)), (h21, .inl (cI, 26, .inl g12)), (h22, .inl (cI, 16, .inl g13)), (h23, .inl (cI, 16, .inl g14)), (h24, .inl (cI, 16, .inl g15)), (h25, .inl (cJ, 16, .inr (.inl g16))), (h26, .inl (cI, 16, .inl g17))]) (hS : va_S A s.heap H locs) (hl : lv_has ls 8 [(0, .ref b), (1, .ref h0), (2, .ref h1), (3, .ref h2), (4, .int 0)]) : W p l e room_1 s m #[Value.ref b] below meth c H locs 218 1205840 Q (F0 m 1555 ls []) := by
  obtain ⟨hl9, hx, hb, hml, hown, hts, hN, hX, hAE, hK, hA, hXs, hbl, hbA⟩ := X9
  refine lv_aload_n hx hb dL_law_1555 rfl (lv_at hl 1 rfl) ?_
  refine lv_aload_n hx hb dL_law_1556 rfl (lv_at hl 0 rfl) ?_
  refine lv_iload hx hb dL_law_1557 (lv_at hl 4 rfl) ?_
  refine lv_iconst (v := 1) hx hb dL_law_1559 (by decide) ?_
  refine lv_iadd hx hb dL_law_1560 ?_
  refine k_topi (y := 1) (by decide) ?_
  refine va_sld (xs := xs) hx hb hXs hbl hbA hS (k_in (by decide)) dL_law_1561 ?_
  refine k_topi (y := (xs 1)) (congrArg xs (by decide)) ?_
  refine lv_aload_n hx hb dL_law_1562 rfl (lv_at hl 0 rfl) ?_
  refine lv_iload hx hb dL_law_1563 (lv_at hl 4 rfl) ?_
  refine lv_iconst (v := 2) hx hb dL_law_1565 (by decide) ?_
  refine lv_iadd hx hb dL_law_1566 ?_
  refine k_topi (y := 2) (by decide) ?_
  refine va_sld (xs := xs) hx hb hXs hbl hbA hS (k_in (by decide)) dL_law_1567 ?_
  refine k_topi (y := (xs 2)) (congrArg xs (by decide)) ?_
  refine k_cVi (As := [.int (xs 1), .int (xs 2)]) (rest := []) (wc := [(h0, .inr (11, f0)), (h3, .inr (1, f1)), (h4, .inr (2, f2)), (h5, .inr (8, f3)), (h7, .inr (3, f4)), (h9, .inl (cI, 2001, .inl g0)), (h10, .inl (cI, 2001, .inl g1)), (h11, .inl (cI, 260, .inl g2)), (h12, .inl (cI, 13312, .inl g3))]) (wr := [(h1, .inr (12, f5)), (h13, .inl (cI, 2001, .inl g4)), (h14, .inl (cI, 2001, .inl g5)), (h15, .inl (cI, 2001, .inl g6)), (h16, .inl (cI, 2001, .inl g7)), (h17, .inl (cI, 26, .inl g8)), (h18, .inl (cI, 26, .inl g9)), (h19, .inl (cI, 26, .inl g10)), (h20, .inl (cI, 26, .inl g11)), (h21, .inl (cI, 26, .inl g12)), (h22, .inl (cI, 16, .inl g13)), (h23, .inl (cI, 16, .inl g14)), (h24, .inl (cI, 16, .inl g15)), (h25, .inl (cJ, 16, .inr (.inl g16))), (h26, .inl (cI, 16, .inl g17))]) (w1 := [(h0, .inr (11, ((f0.set 12 (.int 0)).set 13 (.int 2)))), (h3, .inr (1, f1)), (h4, .inr (2, f2)), (h5, .inr (8, (((((((((((((((((f3.set 3 (.int 0)).set 4 (.int 0)).set 5 (.int 0)).set 6 (.int (-1))).set 6 (.int 0)).set 7 (.int 0)).set 8 (.int 0)).set 11 (.int 25)).set 12 (.int 0)).set 13 (.int 0)).set 14 (.int 0)).set 3 (.int 2)).set 4 (.int 0)).set 7 (.int 44)).set 13 (.int 1)).set 13 (.int 2)).set 7 (.int 44)))), (h7, .inr (3, ((((f4.set 6 (.ref h6)).set 7 (.int 0)).set 8 (.int 0)).set 5 (.int 0)))), (h9, .inl (cI, 2001, .inl (upd g0 0 0))), (h10, .inl (cI, 2001, .inl (upd g1 0 0))), (h11, .inl (cI, 260, .inl (upd (upd (upd g2 259 0) 250 0) 251 2))), (h12, .inl (cI, 13312, .inl (upd (upd g3 12800 43) 12801 43)))]) ⟨hx, hb, hml, hown, hts⟩ hN hX hAE hK hP hD hS hA [0, 1, 2, 3, 4, 5, 6, 7, 8] [9, 10, 11, 12, 13, 14, 15, 16, 17, 18, 19, 20, 21, 22, 23] (ci := 11) rfl rfl rfl rfl (by decide +kernel) (by decide +kernel) (by decide +kernel) (c_X11_search_0 l E D cI cJ cB cZ h0 (xs 1) (xs 2) f0 h3 f1 h4 f2 h5 h6 f3 h7 f4 h8 h9 h10 h11 h12 g0 g1 g2 g3 e0 e1 e2 e3 e4 e5 e6 e7 e8 e9 e10 e11 e12 e13 e14 e15 e16 e17 e18 e19 e20 e21 e22 e23 e24 e25 e26 e27 e28 e29 e30 e31 e32) (cwV 2 hts g9_L_law_X11_search_209 rfl rfl rfl (by decide +kernel) ⟨Nat.le_of_ble_eq_true rfl, Nat.le_of_ble_eq_true rfl⟩) rfl hl.1 (Nat.le_of_ble_eq_true rfl) dL_law_1568 ⟨Nat.le_of_ble_eq_true rfl, Nat.le_of_ble_eq_true rfl⟩ (fun H locs hP hD hS => ?_)
  have hP : va_P D vwCl [(h1, .inr (12, f5)), (h13, .inl (cI, 2001, .inl g4)), (h14, .inl (cI, 2001, .inl g5)), (h15, .inl (cI, 2001, .inl g6)), (h16, .inl (cI, 2001, .inl g7)), (h17, .inl (cI, 26, .inl g8)), (h18, .inl (cI, 26, .inl g9)), (h19, .inl (cI, 26, .inl g10)), (h20, .inl (cI, 26, .inl g11)), (h21, .inl (cI, 26, .inl g12)), (h22, .inl (cI, 16, .inl g13)), (h23, .inl (cI, 16, .inl g14)), (h24, .inl (cI, 16, .inl g15)), (h25, .inl (cJ, 16, .inr (.inl g16))), (h26, .inl (cI, 16, .inl g17)), (h0, .inr (11, ((f0.set 12 (.int 0)).set 13 (.int 2)))), (h3, .inr (1, f1)), (h4, .inr (2, f2)), (h5, .inr (8, (((((((((((((((((f3.set 3 (.int 0)).set 4 (.int 0)).set 5 (.int 0)).set 6 (.int (-1))).set 6 (.int 0)).set 7 (.int 0)).set 8 (.int 0)).set 11 (.int 25)).set 12 (.int 0)).set 13 (.int 0)).set 14 (.int 0)).set 3 (.int 2)).set 4 (.int 0)).set 7 (.int 44)).set 13 (.int 1)).set 13 (.int 2)).set 7 (.int 44)))), (h7, .inr (3, ((((f4.set 6 (.ref h6)).set 7 (.int 0)).set 8 (.int 0)).set 5 (.int 0)))), (h9, .inl (cI, 2001, .inl (upd g0 0 0))), (h10, .inl (cI, 2001, .inl (upd g1 0 0))), (h11, .inl (cI, 260, .inl (upd (upd (upd g2 259 0) 250 0) 251 2))), (h12, .inl (cI, 13312, .inl (upd (upd g3 12800 43) 12801 43)))] H := hP
  have hD : va_D A [(h1, .inr (12, f5)), (h13, .inl (cI, 2001, .inl g4)), (h14, .inl (cI, 2001, .inl g5)), (h15, .inl (cI, 2001, .inl g6)), (h16, .inl (cI, 2001, .inl g7)), (h17, .inl (cI, 26, .inl g8)), (h18, .inl (cI, 26, .inl g9)), (h19, .inl (cI, 26, .inl g10)), (h20, .inl (cI, 26, .inl g11)), (h21, .inl (cI, 26, .inl g12)), (h22, .inl (cI, 16, .inl g13)), (h23, .inl (cI, 16, .inl g14)), (h24, .inl (cI, 16, .inl g15)), (h25, .inl (cJ, 16, .inr (.inl g16))), (h26, .inl (cI, 16, .inl g17)), (h0, .inr (11, ((f0.set 12 (.int 0)).set 13 (.int 2)))), (h3, .inr (1, f1)), (h4, .inr (2, f2)), (h5, .inr (8, (((((((((((((((((f3.set 3 (.int 0)).set 4 (.int 0)).set 5 (.int 0)).set 6 (.int (-1))).set 6 (.int 0)).set 7 (.int 0)).set 8 (.int 0)).set 11 (.int 25)).set 12 (.int 0)).set 13 (.int 0)).set 14 (.int 0)).set 3 (.int 2)).set 4 (.int 0)).set 7 (.int 44)).set 13 (.int 1)).set 13 (.int 2)).set 7 (.int 44)))), (h7, .inr (3, ((((f4.set 6 (.ref h6)).set 7 (.int 0)).set 8 (.int 0)).set 5 (.int 0)))), (h9, .inl (cI, 2001, .inl (upd g0 0 0))), (h10, .inl (cI, 2001, .inl (upd g1 0 0))), (h11, .inl (cI, 260, .inl (upd (upd (upd g2 259 0) 250 0) 251 2))), (h12, .inl (cI, 13312, .inl (upd (upd g3 12800 43) 12801 43)))] := hD
  refine lv_aload_n hx hb dL_law_1571 rfl (lv_at hl 2 rfl) ?_
  refine lv_aload_n hx hb dL_law_1572 rfl (lv_at hl 0 rfl) ?_
  refine lv_iload hx hb dL_law_1573 (lv_at hl 4 rfl) ?_
  refine lv_iconst (v := 1) hx hb dL_law_1575 (by decide) ?_
  refine lv_iadd hx hb dL_law_1576 ?_
  refine k_topi (y := 1) (by decide) ?_
  refine va_sld (xs := xs) hx hb hXs hbl hbA hS (k_in (by decide)) dL_law_1577 ?_
  refine k_topi (y := (xs 1)) (congrArg xs (by decide)) ?_
  refine lv_aload_n hx hb dL_law_1578 rfl (lv_at hl 0 rfl) ?_
  refine lv_iload hx hb dL_law_1579 (lv_at hl 4 rfl) ?_
  refine lv_iconst (v := 2) hx hb dL_law_1581 (by decide) ?_
  refine lv_iadd hx hb dL_law_1582 ?_
  refine k_topi (y := 2) (by decide) ?_
  refine va_sld (xs := xs) hx hb hXs hbl hbA hS (k_in (by decide)) dL_law_1583 ?_
  refine k_topi (y := (xs 2)) (congrArg xs (by decide)) ?_
  refine k_cVi (As := [.int (xs 1), .int (xs 2)]) (rest := [.int (-1000)]) (wc := [(h1, .inr (12, f5)), (h13, .inl (cI, 2001, .inl g4)), (h14, .inl (cI, 2001, .inl g5)), (h15, .inl (cI, 2001, .inl g6)), (h16, .inl (cI, 2001, .inl g7)), (h17, .inl (cI, 26, .inl g8)), (h18, .inl (cI, 26, .inl g9)), (h19, .inl (cI, 26, .inl g10)), (h20, .inl (cI, 26, .inl g11)), (h21, .inl (cI, 26, .inl g12)), (h22, .inl (cI, 16, .inl g13)), (h23, .inl (cI, 16, .inl g14)), (h24, .inl (cI, 16, .inl g15)), (h25, .inl (cJ, 16, .inr (.inl g16))), (h26, .inl (cI, 16, .inl g17))]) (wr := [(h0, .inr (11, ((f0.set 12 (.int 0)).set 13 (.int 2)))), (h3, .inr (1, f1)), (h4, .inr (2, f2)), (h5, .inr (8, (((((((((((((((((f3.set 3 (.int 0)).set 4 (.int 0)).set 5 (.int 0)).set 6 (.int (-1))).set 6 (.int 0)).set 7 (.int 0)).set 8 (.int 0)).set 11 (.int 25)).set 12 (.int 0)).set 13 (.int 0)).set 14 (.int 0)).set 3 (.int 2)).set 4 (.int 0)).set 7 (.int 44)).set 13 (.int 1)).set 13 (.int 2)).set 7 (.int 44)))), (h7, .inr (3, ((((f4.set 6 (.ref h6)).set 7 (.int 0)).set 8 (.int 0)).set 5 (.int 0)))), (h9, .inl (cI, 2001, .inl (upd g0 0 0))), (h10, .inl (cI, 2001, .inl (upd g1 0 0))), (h11, .inl (cI, 260, .inl (upd (upd (upd g2 259 0) 250 0) 251 2))), (h12, .inl (cI, 13312, .inl (upd (upd g3 12800 43) 12801 43)))]) (w1 := [(h1, .inr (12, ((((((((((((((((((((f5.set 0 (.int 0)).set 12 (.int 0)).set 2 (.int 0)).set 36 (.int 0)).set 37 (.int 0)).set 27 (.int 0)).set 31 (.int 0)).set 28 (.int 0)).set 66 (.int 25)).set 67 (.int 0)).set 76 (.int (-1))).set 83 (.int (-1))).set 83 (.int 0)).set 84 (.int 3)).set 84 (.int 4)).set 84 (.int 5)).set 31 (.int 1)).set 29 (.int 2)).set 30 (.int 0)).set 109 (.int 2)))), (h13, .inl (cI, 2001, .inl (upd g4 0 0))), (h14, .inl (cI, 2001, .inl (upd g5 0 0))), (h15, .inl (cI, 2001, .inl (upd g6 0 0))), (h16, .inl (cI, 2001, .inl (upd g7 0 0))), (h17, .inl (cI, 26, .inl (upd g8 25 0))), (h18, .inl (cI, 26, .inl (upd g9 25 0))), (h19, .inl (cI, 26, .inl (upd g10 25 0))), (h20, .inl (cI, 26, .inl (upd g11 25 0))), (h21, .inl (cI, 26, .inl (upd g12 25 0))), (h22, .inl (cI, 16, .inl (upd g13 0 33))), (h23, .inl (cI, 16, .inl (upd g14 0 (-1)))), (h24, .inl (cI, 16, .inl (upd (upd g15 0 1) 0 1))), (h25, .inl (cJ, 16, .inr (.inl (vp_updL (vp_updL g16 0 1) 0 1)))), (h26, .inl (cI, 16, .inl (upd g17 0 (-1))))]) ⟨hx, hb, hml, hown, hts⟩ hN hX hAE hK hP hD hS hA [0, 1, 2, 3, 4, 5, 6, 7, 8, 9, 10, 11, 12, 13, 14] [15, 16, 17, 18, 19, 20, 21, 22, 23] (ci := 12) rfl rfl rfl rfl (by decide +kernel) (by decide +kernel) (by decide +kernel) (c_X12_search_0 l E D cI cJ cB cZ h1 (xs 1) (xs 2) f5 h13 h14 h15 h16 g4 g5 g6 g7 h17 h18 h19 h20 h21 h22 h23 h24 h25 h26 g8 g9 g10 g11 g12 g13 g14 g15 g16 g17 e33 e34 e35 e36 e37 e38 e39 e40 e41 e42 e43 e44 e45 e46 e47 e3 e4 e5 e6 e48 e49 e50 e51 e52 e53 e54 e55 e56 e57 e58 e59 e60 e61 e62 e63 e64 e65 e66 e67) (cwV 2 hts g9_L_law_X12_search_212 rfl rfl rfl (by decide +kernel) ⟨Nat.le_of_ble_eq_true rfl, Nat.le_of_ble_eq_true rfl⟩) rfl hl.1 (Nat.le_of_ble_eq_true rfl) dL_law_1584 ⟨Nat.le_of_ble_eq_true rfl, Nat.le_of_ble_eq_true rfl⟩ (fun H locs hP hD hS => ?_)
  have hP : va_P D vwCl [(h0, .inr (11, ((f0.set 12 (.int 0)).set 13 (.int 2)))), (h3, .inr (1, f1)), (h4, .inr (2, f2)), (h5, .inr (8, (((((((((((((((((f3.set 3 (.int 0)).set 4 (.int 0)).set 5 (.int 0)).set 6 (.int (-1))).set 6 (.int 0)).set 7 (.int 0)).set 8 (.int 0)).set 11 (.int 25)).set 12 (.int 0)).set 13 (.int 0)).set 14 (.int 0)).set 3 (.int 2)).set 4 (.int 0)).set 7 (.int 44)).set 13 (.int 1)).set 13 (.int 2)).set 7 (.int 44)))), (h7, .inr (3, ((((f4.set 6 (.ref h6)).set 7 (.int 0)).set 8 (.int 0)).set 5 (.int 0)))), (h9, .inl (cI, 2001, .inl (upd g0 0 0))), (h10, .inl (cI, 2001, .inl (upd g1 0 0))), (h11, .inl (cI, 260, .inl (upd (upd (upd g2 259 0) 250 0) 251 2))), (h12, .inl (cI, 13312, .inl (upd (upd g3 12800 43) 12801 43))), (h1, .inr (12, ((((((((((((((((((((f5.set 0 (.int 0)).set 12 (.int 0)).set 2 (.int 0)).set 36 (.int 0)).set 37 (.int 0)).set 27 (.int 0)).set 31 (.int 0)).set 28 (.int 0)).set 66 (.int 25)).set 67 (.int 0)).set 76 (.int (-1))).set 83 (.int (-1))).set 83 (.int 0)).set 84 (.int 3)).set 84 (.int 4)).set 84 (.int 5)).set 31 (.int 1)).set 29 (.int 2)).set 30 (.int 0)).set 109 (.int 2)))), (h13, .inl (cI, 2001, .inl (upd g4 0 0))), (h14, .inl (cI, 2001, .inl (upd g5 0 0))), (h15, .inl (cI, 2001, .inl (upd g6 0 0))), (h16, .inl (cI, 2001, .inl (upd g7 0 0))), (h17, .inl (cI, 26, .inl (upd g8 25 0))), (h18, .inl (cI, 26, .inl (upd g9 25 0))), (h19, .inl (cI, 26, .inl (upd g10 25 0))), (h20, .inl (cI, 26, .inl (upd g11 25 0))), (h21, .inl (cI, 26, .inl (upd g12 25 0))), (h22, .inl (cI, 16, .inl (upd g13 0 33))), (h23, .inl (cI, 16, .inl (upd g14 0 (-1)))), (h24, .inl (cI, 16, .inl (upd (upd g15 0 1) 0 1))), (h25, .inl (cJ, 16, .inr (.inl (vp_updL (vp_updL g16 0 1) 0 1)))), (h26, .inl (cI, 16, .inl (upd g17 0 (-1))))] H := hP
  have hD : va_D A [(h0, .inr (11, ((f0.set 12 (.int 0)).set 13 (.int 2)))), (h3, .inr (1, f1)), (h4, .inr (2, f2)), (h5, .inr (8, (((((((((((((((((f3.set 3 (.int 0)).set 4 (.int 0)).set 5 (.int 0)).set 6 (.int (-1))).set 6 (.int 0)).set 7 (.int 0)).set 8 (.int 0)).set 11 (.int 25)).set 12 (.int 0)).set 13 (.int 0)).set 14 (.int 0)).set 3 (.int 2)).set 4 (.int 0)).set 7 (.int 44)).set 13 (.int 1)).set 13 (.int 2)).set 7 (.int 44)))), (h7, .inr (3, ((((f4.set 6 (.ref h6)).set 7 (.int 0)).set 8 (.int 0)).set 5 (.int 0)))), (h9, .inl (cI, 2001, .inl (upd g0 0 0))), (h10, .inl (cI, 2001, .inl (upd g1 0 0))), (h11, .inl (cI, 260, .inl (upd (upd (upd g2 259 0) 250 0) 251 2))), (h12, .inl (cI, 13312, .inl (upd (upd g3 12800 43) 12801 43))), (h1, .inr (12, ((((((((((((((((((((f5.set 0 (.int 0)).set 12 (.int 0)).set 2 (.int 0)).set 36 (.int 0)).set 37 (.int 0)).set 27 (.int 0)).set 31 (.int 0)).set 28 (.int 0)).set 66 (.int 25)).set 67 (.int 0)).set 76 (.int (-1))).set 83 (.int (-1))).set 83 (.int 0)).set 84 (.int 3)).set 84 (.int 4)).set 84 (.int 5)).set 31 (.int 1)).set 29 (.int 2)).set 30 (.int 0)).set 109 (.int 2)))), (h13, .inl (cI, 2001, .inl (upd g4 0 0))), (h14, .inl (cI, 2001, .inl (upd g5 0 0))), (h15, .inl (cI, 2001, .inl (upd g6 0 0))), (h16, .inl (cI, 2001, .inl (upd g7 0 0))), (h17, .inl (cI, 26, .inl (upd g8 25 0))), (h18, .inl (cI, 26, .inl (upd g9 25 0))), (h19, .inl (cI, 26, .inl (upd g10 25 0))), (h20, .inl (cI, 26, .inl (upd g11 25 0))), (h21, .inl (cI, 26, .inl (upd g12 25 0))), (h22, .inl (cI, 16, .inl (upd g13 0 33))), (h23, .inl (cI, 16, .inl (upd g14 0 (-1)))), (h24, .inl (cI, 16, .inl (upd (upd g15 0 1) 0 1))), (h25, .inl (cJ, 16, .inr (.inl (vp_updL (vp_updL g16 0 1) 0 1)))), (h26, .inl (cI, 16, .inl (upd g17 0 (-1))))] := hD
  refine lv_icmp_eq (tgt := 1765) hx hb dL_law_1587 (by decide) (fun _ => ?_) (fun c9 => absurd (by decide) c9)
  refine W.widen (k := 601024) (n := 7293034) (Nat.le_of_ble_eq_true rfl) (Nat.le_of_ble_eq_true rfl) ?_
  exact T9 _ _ _ hS (lv_sub hl [0, 4] rfl)
set_option maxHeartbeats 400000000 in
set_option maxRecDepth 100000 in
theorem law_36_3 {p : Program} {l : Launch} {e : Env} {s : State} {m : MethodId} {below : List Frame} {meth : Method} {c : Code} {b : Nat} {xs : Nat → Int32} (E : kE) (D : va_G) (cI cJ cB cZ : ClassId) (A : Nat → Prop) (Q : State → Prop) (h0 : Nat) (h1 : Nat) (h2 : Nat) (f0 : List Value) (h3 : Nat) (f1 : List Value) (f2 : List Value) (h4 : Nat) (h5 : Nat) (h6 : Nat) (h7 : Nat) (g0 : Nat → Int32) (g1 : Nat → Int32) (g2 : Nat → Int32) (g3 : Nat → Int32) (e0 : f0[1]? = some (.ref h3)) (e1 : f1[8]? = some (.int 0)) (e2 : f0[12]? = some (.int 0)) (e3 : ¬ (((xs 1) : Int32) < 0)) (e4 : ((xs 1) : Int32) < 2) (e5 : ¬ (((xs 2) : Int32) < 1)) (e6 : ¬ (((xs 2) : Int32) < 101)) (e7 : f2[0]? = some (.int 0)) (e8 : f2[5]? = some (.int 0)) (e9 : f2[2]? = some (.int 0)) (e10 : f2[12]? = some (.int 0)) (e11 : f2[32]? = some (.int 0)) (e12 : f2[36]? = some (.int 0)) (e13 : f2[33]? = some (.int 0)) (e14 : f2[37]? = some (.int 0)) (e15 : f2[27]? = some (.int 0)) (e16 : f2[31]? = some (.int 0)) (e17 : f2[28]? = some (.int 0)) (e18 : f2[23]? = some (.ref h4)) (e19 : f2[24]? = some (.ref h5)) (e20 : f2[25]? = some (.ref h6)) (e21 : f2[26]? = some (.ref h7)) (X9 : kLaw p l s m c b xs E D cI cJ cB cZ A) (T9 : kTail p l e s m b below meth c A Q) {H : Heap} {locs : List Loc} {ls : Array Slot} (hP : va_P D vwCl [(h0, .inr (11, f0)), (h3, .inr (1, f1)), (h1, .inr (12, f2)), (h4, .inl (cI, 2001, .inl g0)), (h5, .inl (cI, 2001, .inl g1)), (h6, .inl (cI, 2001, .inl g2)), (h7, .inl (cI, 2001, .inl g3))] H) (hD : va_D A [(h0, .inr (11, f0)), (h3, .inr (1, f1)), (h1, .inr (12, f2)), (h4, .inl (cI, 2001, .inl g0)), (h5, .inl (cI, 2001, .inl g1)), (h6, .inl (cI, 2001, .inl g2)), (h7, .inl (cI, 2001, .inl g3))]) (hS : va_S A s.heap H locs) (hl : lv_has ls 8 [(0, .ref b), (1, .ref h0), (2, .ref h1), (3, .ref h2), (4, .int 0)]) : W p l e room_1 s m #[Value.ref b] below meth c H locs 218 1205840 Q (F0 m 1555 ls []) := by
  obtain ⟨hl9, hx, hb, hml, hown, hts, hN, hX, hAE, hK, hA, hXs, hbl, hbA⟩ := X9
  refine lv_aload_n hx hb dL_law_1555 rfl (lv_at hl 1 rfl) ?_
  refine lv_aload_n hx hb dL_law_1556 rfl (lv_at hl 0 rfl) ?_
  refine lv_iload hx hb dL_law_1557 (lv_at hl 4 rfl) ?_
  refine lv_iconst (v := 1) hx hb dL_law_1559 (by decide) ?_
  refine lv_iadd hx hb dL_law_1560 ?_
  refine k_topi (y := 1) (by decide) ?_
  refine va_sld (xs := xs) hx hb hXs hbl hbA hS (k_in (by decide)) dL_law_1561 ?_
  refine k_topi (y := (xs 1)) (congrArg xs (by decide)) ?_
  refine lv_aload_n hx hb dL_law_1562 rfl (lv_at hl 0 rfl) ?_
  refine lv_iload hx hb dL_law_1563 (lv_at hl 4 rfl) ?_
  refine lv_iconst (v := 2) hx hb dL_law_1565 (by decide) ?_
  refine lv_iadd hx hb dL_law_1566 ?_
  refine k_topi (y := 2) (by decide) ?_
  refine va_sld (xs := xs) hx hb hXs hbl hbA hS (k_in (by decide)) dL_law_1567 ?_
  refine k_topi (y := (xs 2)) (congrArg xs (by decide)) ?_
  refine k_cVi (As := [.int (xs 1), .int (xs 2)]) (rest := []) (wc := [(h0, .inr (11, f0)), (h3, .inr (1, f1))]) (wr := [(h1, .inr (12, f2)), (h4, .inl (cI, 2001, .inl g0)), (h5, .inl (cI, 2001, .inl g1)), (h6, .inl (cI, 2001, .inl g2)), (h7, .inl (cI, 2001, .inl g3))]) (w1 := [(h0, .inr (11, (f0.set 12 (.int 0)))), (h3, .inr (1, f1))]) ⟨hx, hb, hml, hown, hts⟩ hN hX hAE hK hP hD hS hA [0, 1] [2, 3, 4, 5, 6] (ci := 11) rfl rfl rfl rfl (by decide +kernel) (by decide +kernel) (by decide +kernel) (c_X11_search_3 l E D cI cJ cB cZ h0 (xs 1) (xs 2) f0 h3 f1 e0 e1 e2 e3 e4 e5 e6) (cwV 2 hts g9_L_law_X11_search_209 rfl rfl rfl (by decide +kernel) ⟨Nat.le_of_ble_eq_true rfl, Nat.le_of_ble_eq_true rfl⟩) rfl hl.1 (Nat.le_of_ble_eq_true rfl) dL_law_1568 ⟨Nat.le_of_ble_eq_true rfl, Nat.le_of_ble_eq_true rfl⟩ (fun H locs hP hD hS => ?_)
  have hP : va_P D vwCl [(h1, .inr (12, f2)), (h4, .inl (cI, 2001, .inl g0)), (h5, .inl (cI, 2001, .inl g1)), (h6, .inl (cI, 2001, .inl g2)), (h7, .inl (cI, 2001, .inl g3)), (h0, .inr (11, (f0.set 12 (.int 0)))), (h3, .inr (1, f1))] H := hP
  have hD : va_D A [(h1, .inr (12, f2)), (h4, .inl (cI, 2001, .inl g0)), (h5, .inl (cI, 2001, .inl g1)), (h6, .inl (cI, 2001, .inl g2)), (h7, .inl (cI, 2001, .inl g3)), (h0, .inr (11, (f0.set 12 (.int 0)))), (h3, .inr (1, f1))] := hD
  refine lv_aload_n hx hb dL_law_1571 rfl (lv_at hl 2 rfl) ?_
  refine lv_aload_n hx hb dL_law_1572 rfl (lv_at hl 0 rfl) ?_
  refine lv_iload hx hb dL_law_1573 (lv_at hl 4 rfl) ?_
  refine lv_iconst (v := 1) hx hb dL_law_1575 (by decide) ?_
  refine lv_iadd hx hb dL_law_1576 ?_
  refine k_topi (y := 1) (by decide) ?_
  refine va_sld (xs := xs) hx hb hXs hbl hbA hS (k_in (by decide)) dL_law_1577 ?_
  refine k_topi (y := (xs 1)) (congrArg xs (by decide)) ?_
  refine lv_aload_n hx hb dL_law_1578 rfl (lv_at hl 0 rfl) ?_
  refine lv_iload hx hb dL_law_1579 (lv_at hl 4 rfl) ?_
  refine lv_iconst (v := 2) hx hb dL_law_1581 (by decide) ?_
  refine lv_iadd hx hb dL_law_1582 ?_
  refine k_topi (y := 2) (by decide) ?_
  refine va_sld (xs := xs) hx hb hXs hbl hbA hS (k_in (by decide)) dL_law_1583 ?_
  refine k_topi (y := (xs 2)) (congrArg xs (by decide)) ?_
  refine k_cVi (As := [.int (xs 1), .int (xs 2)]) (rest := [.int (-102)]) (wc := [(h1, .inr (12, f2)), (h4, .inl (cI, 2001, .inl g0)), (h5, .inl (cI, 2001, .inl g1)), (h6, .inl (cI, 2001, .inl g2)), (h7, .inl (cI, 2001, .inl g3))]) (wr := [(h0, .inr (11, (f0.set 12 (.int 0)))), (h3, .inr (1, f1))]) (w1 := [(h1, .inr (12, ((((((((f2.set 0 (.int 0)).set 12 (.int 0)).set 2 (.int 0)).set 36 (.int 0)).set 37 (.int 0)).set 27 (.int 0)).set 31 (.int 0)).set 28 (.int 0)))), (h4, .inl (cI, 2001, .inl (upd g0 0 0))), (h5, .inl (cI, 2001, .inl (upd g1 0 0))), (h6, .inl (cI, 2001, .inl (upd g2 0 0))), (h7, .inl (cI, 2001, .inl (upd g3 0 0)))]) ⟨hx, hb, hml, hown, hts⟩ hN hX hAE hK hP hD hS hA [0, 1, 2, 3, 4] [5, 6] (ci := 12) rfl rfl rfl rfl (by decide +kernel) (by decide +kernel) (by decide +kernel) (c_X12_search_3 l E D cI cJ cB cZ h1 (xs 1) (xs 2) f2 h4 h5 h6 h7 g0 g1 g2 g3 e7 e8 e9 e10 e11 e12 e13 e14 e15 e16 e17 e18 e19 e20 e21 e3 e4 e5 e6) (cwV 2 hts g9_L_law_X12_search_212 rfl rfl rfl (by decide +kernel) ⟨Nat.le_of_ble_eq_true rfl, Nat.le_of_ble_eq_true rfl⟩) rfl hl.1 (Nat.le_of_ble_eq_true rfl) dL_law_1584 ⟨Nat.le_of_ble_eq_true rfl, Nat.le_of_ble_eq_true rfl⟩ (fun H locs hP hD hS => ?_)
  have hP : va_P D vwCl [(h0, .inr (11, (f0.set 12 (.int 0)))), (h3, .inr (1, f1)), (h1, .inr (12, ((((((((f2.set 0 (.int 0)).set 12 (.int 0)).set 2 (.int 0)).set 36 (.int 0)).set 37 (.int 0)).set 27 (.int 0)).set 31 (.int 0)).set 28 (.int 0)))), (h4, .inl (cI, 2001, .inl (upd g0 0 0))), (h5, .inl (cI, 2001, .inl (upd g1 0 0))), (h6, .inl (cI, 2001, .inl (upd g2 0 0))), (h7, .inl (cI, 2001, .inl (upd g3 0 0)))] H := hP
  have hD : va_D A [(h0, .inr (11, (f0.set 12 (.int 0)))), (h3, .inr (1, f1)), (h1, .inr (12, ((((((((f2.set 0 (.int 0)).set 12 (.int 0)).set 2 (.int 0)).set 36 (.int 0)).set 37 (.int 0)).set 27 (.int 0)).set 31 (.int 0)).set 28 (.int 0)))), (h4, .inl (cI, 2001, .inl (upd g0 0 0))), (h5, .inl (cI, 2001, .inl (upd g1 0 0))), (h6, .inl (cI, 2001, .inl (upd g2 0 0))), (h7, .inl (cI, 2001, .inl (upd g3 0 0)))] := hD
  refine lv_icmp_eq (tgt := 1765) hx hb dL_law_1587 (by decide) (fun _ => ?_) (fun c9 => absurd (by decide) c9)
  refine W.widen (k := 601024) (n := 7293034) (Nat.le_of_ble_eq_true rfl) (Nat.le_of_ble_eq_true rfl) ?_
  exact T9 _ _ _ hS (lv_sub hl [0, 4] rfl)
set_option maxHeartbeats 400000000 in
set_option maxRecDepth 100000 in
theorem law_36_4 {p : Program} {l : Launch} {e : Env} {s : State} {m : MethodId} {below : List Frame} {meth : Method} {c : Code} {b : Nat} {xs : Nat → Int32} (E : kE) (D : va_G) (cI cJ cB cZ : ClassId) (A : Nat → Prop) (Q : State → Prop) (h0 : Nat) (h1 : Nat) (h2 : Nat) (f0 : List Value) (h3 : Nat) (f1 : List Value) (f2 : List Value) (h4 : Nat) (h5 : Nat) (h6 : Nat) (h7 : Nat) (g0 : Nat → Int32) (g1 : Nat → Int32) (g2 : Nat → Int32) (g3 : Nat → Int32) (e0 : f0[1]? = some (.ref h3)) (e1 : f1[8]? = some (.int 0)) (e2 : f0[12]? = some (.int 0)) (e3 : ¬ (((xs 1) : Int32) < 0)) (e4 : ¬ (((xs 1) : Int32) < 2)) (e5 : f2[0]? = some (.int 0)) (e6 : f2[5]? = some (.int 0)) (e7 : f2[2]? = some (.int 0)) (e8 : f2[12]? = some (.int 0)) (e9 : f2[32]? = some (.int 0)) (e10 : f2[36]? = some (.int 0)) (e11 : f2[33]? = some (.int 0)) (e12 : f2[37]? = some (.int 0)) (e13 : f2[27]? = some (.int 0)) (e14 : f2[31]? = some (.int 0)) (e15 : f2[28]? = some (.int 0)) (e16 : f2[23]? = some (.ref h4)) (e17 : f2[24]? = some (.ref h5)) (e18 : f2[25]? = some (.ref h6)) (e19 : f2[26]? = some (.ref h7)) (X9 : kLaw p l s m c b xs E D cI cJ cB cZ A) (T9 : kTail p l e s m b below meth c A Q) {H : Heap} {locs : List Loc} {ls : Array Slot} (hP : va_P D vwCl [(h0, .inr (11, f0)), (h3, .inr (1, f1)), (h1, .inr (12, f2)), (h4, .inl (cI, 2001, .inl g0)), (h5, .inl (cI, 2001, .inl g1)), (h6, .inl (cI, 2001, .inl g2)), (h7, .inl (cI, 2001, .inl g3))] H) (hD : va_D A [(h0, .inr (11, f0)), (h3, .inr (1, f1)), (h1, .inr (12, f2)), (h4, .inl (cI, 2001, .inl g0)), (h5, .inl (cI, 2001, .inl g1)), (h6, .inl (cI, 2001, .inl g2)), (h7, .inl (cI, 2001, .inl g3))]) (hS : va_S A s.heap H locs) (hl : lv_has ls 8 [(0, .ref b), (1, .ref h0), (2, .ref h1), (3, .ref h2), (4, .int 0)]) : W p l e room_1 s m #[Value.ref b] below meth c H locs 218 1205840 Q (F0 m 1555 ls []) := by
  obtain ⟨hl9, hx, hb, hml, hown, hts, hN, hX, hAE, hK, hA, hXs, hbl, hbA⟩ := X9
  refine lv_aload_n hx hb dL_law_1555 rfl (lv_at hl 1 rfl) ?_
  refine lv_aload_n hx hb dL_law_1556 rfl (lv_at hl 0 rfl) ?_
  refine lv_iload hx hb dL_law_1557 (lv_at hl 4 rfl) ?_
  refine lv_iconst (v := 1) hx hb dL_law_1559 (by decide) ?_
  refine lv_iadd hx hb dL_law_1560 ?_
  refine k_topi (y := 1) (by decide) ?_
  refine va_sld (xs := xs) hx hb hXs hbl hbA hS (k_in (by decide)) dL_law_1561 ?_
  refine k_topi (y := (xs 1)) (congrArg xs (by decide)) ?_
  refine lv_aload_n hx hb dL_law_1562 rfl (lv_at hl 0 rfl) ?_
  refine lv_iload hx hb dL_law_1563 (lv_at hl 4 rfl) ?_
  refine lv_iconst (v := 2) hx hb dL_law_1565 (by decide) ?_
  refine lv_iadd hx hb dL_law_1566 ?_
  refine k_topi (y := 2) (by decide) ?_
  refine va_sld (xs := xs) hx hb hXs hbl hbA hS (k_in (by decide)) dL_law_1567 ?_
  refine k_topi (y := (xs 2)) (congrArg xs (by decide)) ?_
  refine k_cVi (As := [.int (xs 1), .int (xs 2)]) (rest := []) (wc := [(h0, .inr (11, f0)), (h3, .inr (1, f1))]) (wr := [(h1, .inr (12, f2)), (h4, .inl (cI, 2001, .inl g0)), (h5, .inl (cI, 2001, .inl g1)), (h6, .inl (cI, 2001, .inl g2)), (h7, .inl (cI, 2001, .inl g3))]) (w1 := [(h0, .inr (11, (f0.set 12 (.int 0)))), (h3, .inr (1, f1))]) ⟨hx, hb, hml, hown, hts⟩ hN hX hAE hK hP hD hS hA [0, 1] [2, 3, 4, 5, 6] (ci := 11) rfl rfl rfl rfl (by decide +kernel) (by decide +kernel) (by decide +kernel) (c_X11_search_4 l E D cI cJ cB cZ h0 (xs 1) (xs 2) f0 h3 f1 e0 e1 e2 e3 e4) (cwV 2 hts g9_L_law_X11_search_209 rfl rfl rfl (by decide +kernel) ⟨Nat.le_of_ble_eq_true rfl, Nat.le_of_ble_eq_true rfl⟩) rfl hl.1 (Nat.le_of_ble_eq_true rfl) dL_law_1568 ⟨Nat.le_of_ble_eq_true rfl, Nat.le_of_ble_eq_true rfl⟩ (fun H locs hP hD hS => ?_)
  have hP : va_P D vwCl [(h1, .inr (12, f2)), (h4, .inl (cI, 2001, .inl g0)), (h5, .inl (cI, 2001, .inl g1)), (h6, .inl (cI, 2001, .inl g2)), (h7, .inl (cI, 2001, .inl g3)), (h0, .inr (11, (f0.set 12 (.int 0)))), (h3, .inr (1, f1))] H := hP
  have hD : va_D A [(h1, .inr (12, f2)), (h4, .inl (cI, 2001, .inl g0)), (h5, .inl (cI, 2001, .inl g1)), (h6, .inl (cI, 2001, .inl g2)), (h7, .inl (cI, 2001, .inl g3)), (h0, .inr (11, (f0.set 12 (.int 0)))), (h3, .inr (1, f1))] := hD
  refine lv_aload_n hx hb dL_law_1571 rfl (lv_at hl 2 rfl) ?_
  refine lv_aload_n hx hb dL_law_1572 rfl (lv_at hl 0 rfl) ?_
  refine lv_iload hx hb dL_law_1573 (lv_at hl 4 rfl) ?_
  refine lv_iconst (v := 1) hx hb dL_law_1575 (by decide) ?_
  refine lv_iadd hx hb dL_law_1576 ?_
  refine k_topi (y := 1) (by decide) ?_
  refine va_sld (xs := xs) hx hb hXs hbl hbA hS (k_in (by decide)) dL_law_1577 ?_
  refine k_topi (y := (xs 1)) (congrArg xs (by decide)) ?_
  refine lv_aload_n hx hb dL_law_1578 rfl (lv_at hl 0 rfl) ?_
  refine lv_iload hx hb dL_law_1579 (lv_at hl 4 rfl) ?_
  refine lv_iconst (v := 2) hx hb dL_law_1581 (by decide) ?_
  refine lv_iadd hx hb dL_law_1582 ?_
  refine k_topi (y := 2) (by decide) ?_
  refine va_sld (xs := xs) hx hb hXs hbl hbA hS (k_in (by decide)) dL_law_1583 ?_
  refine k_topi (y := (xs 2)) (congrArg xs (by decide)) ?_
  refine k_cVi (As := [.int (xs 1), .int (xs 2)]) (rest := [.int (-102)]) (wc := [(h1, .inr (12, f2)), (h4, .inl (cI, 2001, .inl g0)), (h5, .inl (cI, 2001, .inl g1)), (h6, .inl (cI, 2001, .inl g2)), (h7, .inl (cI, 2001, .inl g3))]) (wr := [(h0, .inr (11, (f0.set 12 (.int 0)))), (h3, .inr (1, f1))]) (w1 := [(h1, .inr (12, ((((((((f2.set 0 (.int 0)).set 12 (.int 0)).set 2 (.int 0)).set 36 (.int 0)).set 37 (.int 0)).set 27 (.int 0)).set 31 (.int 0)).set 28 (.int 0)))), (h4, .inl (cI, 2001, .inl (upd g0 0 0))), (h5, .inl (cI, 2001, .inl (upd g1 0 0))), (h6, .inl (cI, 2001, .inl (upd g2 0 0))), (h7, .inl (cI, 2001, .inl (upd g3 0 0)))]) ⟨hx, hb, hml, hown, hts⟩ hN hX hAE hK hP hD hS hA [0, 1, 2, 3, 4] [5, 6] (ci := 12) rfl rfl rfl rfl (by decide +kernel) (by decide +kernel) (by decide +kernel) (c_X12_search_4 l E D cI cJ cB cZ h1 (xs 1) (xs 2) f2 h4 h5 h6 h7 g0 g1 g2 g3 e5 e6 e7 e8 e9 e10 e11 e12 e13 e14 e15 e16 e17 e18 e19 e3 e4) (cwV 2 hts g9_L_law_X12_search_212 rfl rfl rfl (by decide +kernel) ⟨Nat.le_of_ble_eq_true rfl, Nat.le_of_ble_eq_true rfl⟩) rfl hl.1 (Nat.le_of_ble_eq_true rfl) dL_law_1584 ⟨Nat.le_of_ble_eq_true rfl, Nat.le_of_ble_eq_true rfl⟩ (fun H locs hP hD hS => ?_)
  have hP : va_P D vwCl [(h0, .inr (11, (f0.set 12 (.int 0)))), (h3, .inr (1, f1)), (h1, .inr (12, ((((((((f2.set 0 (.int 0)).set 12 (.int 0)).set 2 (.int 0)).set 36 (.int 0)).set 37 (.int 0)).set 27 (.int 0)).set 31 (.int 0)).set 28 (.int 0)))), (h4, .inl (cI, 2001, .inl (upd g0 0 0))), (h5, .inl (cI, 2001, .inl (upd g1 0 0))), (h6, .inl (cI, 2001, .inl (upd g2 0 0))), (h7, .inl (cI, 2001, .inl (upd g3 0 0)))] H := hP
  have hD : va_D A [(h0, .inr (11, (f0.set 12 (.int 0)))), (h3, .inr (1, f1)), (h1, .inr (12, ((((((((f2.set 0 (.int 0)).set 12 (.int 0)).set 2 (.int 0)).set 36 (.int 0)).set 37 (.int 0)).set 27 (.int 0)).set 31 (.int 0)).set 28 (.int 0)))), (h4, .inl (cI, 2001, .inl (upd g0 0 0))), (h5, .inl (cI, 2001, .inl (upd g1 0 0))), (h6, .inl (cI, 2001, .inl (upd g2 0 0))), (h7, .inl (cI, 2001, .inl (upd g3 0 0)))] := hD
  refine lv_icmp_eq (tgt := 1765) hx hb dL_law_1587 (by decide) (fun _ => ?_) (fun c9 => absurd (by decide) c9)
  refine W.widen (k := 601024) (n := 7293034) (Nat.le_of_ble_eq_true rfl) (Nat.le_of_ble_eq_true rfl) ?_
  exact T9 _ _ _ hS (lv_sub hl [0, 4] rfl)
set_option maxHeartbeats 400000000 in
set_option maxRecDepth 100000 in
theorem law_37_0 {p : Program} {l : Launch} {e : Env} {s : State} {m : MethodId} {below : List Frame} {meth : Method} {c : Code} {b : Nat} {xs : Nat → Int32} (E : kE) (D : va_G) (cI cJ cB cZ : ClassId) (A : Nat → Prop) (Q : State → Prop) (h0 : Nat) (h1 : Nat) (h2 : Nat) (f0 : List Value) (h3 : Nat) (f1 : List Value) (f2 : List Value) (e0 : f0[10]? = some (.ref h3)) (e1 : f1[11]? = some (.int 0)) (e2 : f2[176]? = some (.int 0)) (e3 : f2[0]? = some (.int 0)) (X9 : kLaw p l s m c b xs E D cI cJ cB cZ A) (T9 : kTail p l e s m b below meth c A Q) {H : Heap} {locs : List Loc} {ls : Array Slot} (hP : va_P D vwCl [(h0, .inr (11, f0)), (h3, .inr (10, f1)), (h1, .inr (12, f2))] H) (hD : va_D A [(h0, .inr (11, f0)), (h3, .inr (10, f1)), (h1, .inr (12, f2))]) (hS : va_S A s.heap H locs) (hl : lv_has ls 8 [(0, .ref b), (1, .ref h0), (2, .ref h1), (3, .ref h2), (4, .int 0)]) : W p l e room_1 s m #[Value.ref b] below meth c H locs 218 1205840 Q (F0 m 1592 ls []) := by
  obtain ⟨hl9, hx, hb, hml, hown, hts, hN, hX, hAE, hK, hA, hXs, hbl, hbA⟩ := X9
  refine lv_aload_n hx hb dL_law_1592 rfl (lv_at hl 1 rfl) ?_
  refine lv_aload_n hx hb dL_law_1593 rfl (lv_at hl 0 rfl) ?_
  refine lv_iload hx hb dL_law_1594 (lv_at hl 4 rfl) ?_
  refine lv_iconst (v := 1) hx hb dL_law_1596 (by decide) ?_
  refine lv_iadd hx hb dL_law_1597 ?_
  refine k_topi (y := 1) (by decide) ?_
  refine va_sld (xs := xs) hx hb hXs hbl hbA hS (k_in (by decide)) dL_law_1598 ?_
  refine k_topi (y := (xs 1)) (congrArg xs (by decide)) ?_
  refine lv_aload_n hx hb dL_law_1599 rfl (lv_at hl 3 rfl) ?_
  refine k_cSWi (As := [.ref h0, .int (xs 1), .ref h2]) (rest := []) (wc := [(h0, .inr (11, f0)), (h3, .inr (10, f1))]) (wr := [(h1, .inr (12, f2))]) (w1 := [(h0, .inr (11, f0)), (h3, .inr (10, f1))]) ⟨hx, hb, hml, hown, hts⟩ hN hX hAE hK hP hD hS hA [0, 1] [2] rfl rfl (by decide +kernel) (by decide +kernel) (by decide +kernel) (c_L_best_0 l E D cI cJ cB cZ h0 (xs 1) h2 f0 h3 f1 e0 e1 hl9) (vx_cwSW 3 hts g9_L_law_L_best_213 rfl rfl rfl (by decide +kernel) ⟨Nat.le_of_ble_eq_true rfl, Nat.le_of_ble_eq_true rfl⟩) rfl hl.1 (Nat.le_of_ble_eq_true rfl) dL_law_1600 ⟨Nat.le_of_ble_eq_true rfl, Nat.le_of_ble_eq_true rfl⟩ (fun H locs hP hD hS => ?_)
  have hP : va_P D vwCl [(h1, .inr (12, f2)), (h0, .inr (11, f0)), (h3, .inr (10, f1))] H := hP
  have hD : va_D A [(h1, .inr (12, f2)), (h0, .inr (11, f0)), (h3, .inr (10, f1))] := hD
  refine W.widen (k := 219) (n := 1205846) (Nat.le_of_ble_eq_true rfl) (Nat.le_of_ble_eq_true rfl) ?_
  refine lv_istore (lv' := [(5, .int 1), (0, .ref b), (1, .ref h0), (2, .ref h1), (3, .ref h2), (4, .int 0)]) hx hb dL_law_1603 hl (by decide) rfl (fun ls hl => ?_)
  refine lv_aload_n hx hb dL_law_1605 rfl (lv_at hl 3 rfl) ?_
  refine lv_aload_n hx hb dL_law_1606 rfl (lv_at hl 1 rfl) ?_
  refine lv_iload hx hb dL_law_1607 (lv_at hl 5 rfl) ?_
  refine lv_iconst (v := 1) hx hb dL_law_1609 (by decide) ?_
  refine lv_iadd hx hb dL_law_1610 ?_
  refine k_topi (y := 1) (by decide) ?_
  refine va_sld (xs := xs) hx hb hXs hbl hbA hS (k_in (by decide)) dL_law_1611 ?_
  refine k_topi (y := (xs 1)) (congrArg xs (by decide)) ?_
  refine k_cVl (As := [.int (xs 1)]) (rest := []) (wc := [(h1, .inr (12, f2))]) (wr := [(h0, .inr (11, f0)), (h3, .inr (10, f1))]) (w1 := [(h1, .inr (12, (f2.set 0 (.int 1))))]) ⟨hx, hb, hml, hown, hts⟩ hN hX hAE hK hP hD hS hA [0] [1, 2] (ci := 12) rfl rfl rfl rfl (by decide +kernel) (by decide +kernel) (by decide +kernel) (c_X12_best_0 l E D cI cJ cB cZ h1 (xs 1) f2 e2 e3) (cwV 1 hts g9_L_law_X12_best_215 rfl rfl rfl (by decide +kernel) ⟨Nat.le_of_ble_eq_true rfl, Nat.le_of_ble_eq_true rfl⟩) rfl hl.1 (Nat.le_of_ble_eq_true rfl) dL_law_1612 ⟨Nat.le_of_ble_eq_true rfl, Nat.le_of_ble_eq_true rfl⟩ (fun H locs hP hD hS => ?_)
  have hP : va_P D vwCl [(h0, .inr (11, f0)), (h3, .inr (10, f1)), (h1, .inr (12, (f2.set 0 (.int 1))))] H := hP
  have hD : va_D A [(h0, .inr (11, f0)), (h3, .inr (10, f1)), (h1, .inr (12, (f2.set 0 (.int 1))))] := hD
  refine lv_lstore (lv' := [(6, .long 0), (5, .int 1), (0, .ref b), (1, .ref h0), (2, .ref h1), (3, .ref h2), (4, .int 0)]) hx hb dL_law_1615 hl (by decide) rfl (fun ls hl => ?_)
  refine lv_aload_n hx hb dL_law_1617 rfl (lv_at hl 4 rfl) ?_
  refine k_cVi (As := []) (rest := []) (wc := [(h1, .inr (12, (f2.set 0 (.int 1))))]) (wr := [(h0, .inr (11, f0)), (h3, .inr (10, f1))]) (w1 := [(h1, .inr (12, (f2.set 0 (.int 1))))]) ⟨hx, hb, hml, hown, hts⟩ hN hX hAE hK hP hD hS hA [2] [0, 1] (ci := 12) rfl rfl rfl rfl (by decide +kernel) (by decide +kernel) (by decide +kernel) (c_X12_thrown_1 l E D cI cJ cB cZ h1 ((f2.set 0 (.int 1))) (k_set e3)) (cwV 0 hts g9_L_law_X12_thrown_61 rfl rfl rfl (by decide +kernel) ⟨Nat.le_of_ble_eq_true rfl, Nat.le_of_ble_eq_true rfl⟩) rfl hl.1 (Nat.le_of_ble_eq_true rfl) dL_law_1618 ⟨Nat.le_of_ble_eq_true rfl, Nat.le_of_ble_eq_true rfl⟩ (fun H locs hP hD hS => ?_)
  have hP : va_P D vwCl [(h0, .inr (11, f0)), (h3, .inr (10, f1)), (h1, .inr (12, (f2.set 0 (.int 1))))] H := hP
  have hD : va_D A [(h0, .inr (11, f0)), (h3, .inr (10, f1)), (h1, .inr (12, (f2.set 0 (.int 1))))] := hD
  refine lv_iload hx hb dL_law_1621 (lv_at hl 1 rfl) ?_
  refine lv_icmp_eq (tgt := 1628) hx hb dL_law_1623 (by decide) (fun _ => ?_) (fun c9 => absurd (by decide) c9)
  refine lv_iload hx hb dL_law_1628 (lv_at hl 1 rfl) ?_
  refine lv_if_ne (tgt := 1644) hx hb dL_law_1630 (by decide) (fun _ => ?_) (fun c9 => absurd c9 (by decide))
  refine lv_goto (tgt := 1765) hx hb dL_law_1644 (by decide) ?_
  refine W.widen (k := 601024) (n := 7293034) (Nat.le_of_ble_eq_true rfl) (Nat.le_of_ble_eq_true rfl) ?_
  exact T9 _ _ _ hS (lv_sub hl [2, 6] rfl)
set_option maxHeartbeats 400000000 in
set_option maxRecDepth 100000 in
theorem law_38_0 {p : Program} {l : Launch} {e : Env} {s : State} {m : MethodId} {below : List Frame} {meth : Method} {c : Code} {b : Nat} {xs : Nat → Int32} (E : kE) (D : va_G) (cI cJ cB cZ : ClassId) (A : Nat → Prop) (Q : State → Prop) (h0 : Nat) (h1 : Nat) (h2 : Nat) (f0 : List Value) (h3 : Nat) (f1 : List Value) (h4 : Nat) (h5 : Nat) (f2 : List Value) (h6 : Nat) (f3 : List Value) (h7 : Nat) (h8 : Nat) (h9 : Nat) (g0 : Nat → Int32) (g1 : Nat → Int32) (f4 : List Value) (h10 : Nat) (h11 : Nat) (h12 : Nat) (h13 : Nat) (g2 : Nat → Int32) (g3 : Nat → Int32) (g4 : Nat → Int32) (g5 : Nat → Int32) (e0 : f0[1]? = some (.ref h3)) (e1 : f1[8]? = some (.int 0)) (e2 : f0[11]? = some (.ref h4)) (e3 : f0[0]? = some (.ref h5)) (e4 : f0[12]? = some (.int 0)) (e5 : f2[0]? = some (.ref h6)) (e6 : f3[6]? = some (.ref h7)) (e7 : f3[7]? = some (.int 0)) (e8 : f3[8]? = some (.int 0)) (e9 : f3[5]? = some (.int 0)) (e10 : f3[1]? = some (.ref h8)) (e11 : f3[2]? = some (.ref h9)) (e12 : f2[10]? = some (.int 0)) (e13 : f2[11]? = some (.int 0)) (e14 : f2[14]? = some (.int 0)) (e15 : f2[12]? = some (.int 0)) (e16 : f2[13]? = some (.int 0)) (e17 : f4[0]? = some (.int 0)) (e18 : f4[5]? = some (.int 0)) (e19 : f4[2]? = some (.int 0)) (e20 : f4[12]? = some (.int 0)) (e21 : f4[32]? = some (.int 0)) (e22 : f4[36]? = some (.int 0)) (e23 : f4[33]? = some (.int 0)) (e24 : f4[37]? = some (.int 0)) (e25 : f4[27]? = some (.int 0)) (e26 : f4[31]? = some (.int 0)) (e27 : f4[28]? = some (.int 0)) (e28 : f4[23]? = some (.ref h10)) (e29 : f4[24]? = some (.ref h11)) (e30 : f4[25]? = some (.ref h12)) (e31 : f4[26]? = some (.ref h13)) (e32 : f4[187]? = some (.int 0)) (e33 : f4[192]? = some (.int 0)) (X9 : kLaw p l s m c b xs E D cI cJ cB cZ A) (T9 : kTail p l e s m b below meth c A Q) {H : Heap} {locs : List Loc} {ls : Array Slot} (hP : va_P D vwCl [(h0, .inr (11, f0)), (h3, .inr (1, f1)), (h4, .inr (7, f2)), (h6, .inr (3, f3)), (h8, .inl (cI, 2001, .inl g0)), (h9, .inl (cI, 2001, .inl g1)), (h1, .inr (12, f4)), (h10, .inl (cI, 2001, .inl g2)), (h11, .inl (cI, 2001, .inl g3)), (h12, .inl (cI, 2001, .inl g4)), (h13, .inl (cI, 2001, .inl g5))] H) (hD : va_D A [(h0, .inr (11, f0)), (h3, .inr (1, f1)), (h4, .inr (7, f2)), (h6, .inr (3, f3)), (h8, .inl (cI, 2001, .inl g0)), (h9, .inl (cI, 2001, .inl g1)), (h1, .inr (12, f4)), (h10, .inl (cI, 2001, .inl g2)), (h11, .inl (cI, 2001, .inl g3)), (h12, .inl (cI, 2001, .inl g4)), (h13, .inl (cI, 2001, .inl g5))]) (hS : va_S A s.heap H locs) (hl : lv_has ls 8 [(0, .ref b), (1, .ref h0), (2, .ref h1), (3, .ref h2), (4, .int 0)]) : W p l e room_1 s m #[Value.ref b] below meth c H locs 218 1205840 Q (F0 m 1647 ls []) := by
  obtain ⟨hl9, hx, hb, hml, hown, hts, hN, hX, hAE, hK, hA, hXs, hbl, hbA⟩ := X9
  refine lv_aload_n hx hb dL_law_1647 rfl (lv_at hl 1 rfl) ?_
  refine k_cVi (As := []) (rest := []) (wc := [(h0, .inr (11, f0)), (h3, .inr (1, f1)), (h4, .inr (7, f2)), (h6, .inr (3, f3)), (h8, .inl (cI, 2001, .inl g0)), (h9, .inl (cI, 2001, .inl g1))]) (wr := [(h1, .inr (12, f4)), (h10, .inl (cI, 2001, .inl g2)), (h11, .inl (cI, 2001, .inl g3)), (h12, .inl (cI, 2001, .inl g4)), (h13, .inl (cI, 2001, .inl g5))]) (w1 := [(h0, .inr (11, (f0.set 12 (.int 0)))), (h3, .inr (1, f1)), (h4, .inr (7, (((((f2.set 10 (.int 0)).set 11 (.int 0)).set 14 (.int 0)).set 12 (.int 0)).set 13 (.int 0)))), (h6, .inr (3, ((((f3.set 6 (.ref h5)).set 7 (.int 0)).set 8 (.int 0)).set 5 (.int 0)))), (h8, .inl (cI, 2001, .inl (upd g0 0 0))), (h9, .inl (cI, 2001, .inl (upd g1 0 0)))]) ⟨hx, hb, hml, hown, hts⟩ hN hX hAE hK hP hD hS hA [0, 1, 2, 3, 4, 5] [6, 7, 8, 9, 10] (ci := 11) rfl rfl rfl rfl (by decide +kernel) (by decide +kernel) (by decide +kernel) (c_X11_prove_0 l E D cI cJ cB cZ h0 f0 h3 f1 h4 h5 f2 h6 f3 h7 h8 h9 g0 g1 e0 e1 e2 e3 e4 e5 e6 e7 e8 e9 e10 e11 e12 e13 e14 e15 e16) (cwV 0 hts g9_L_law_X11_prove_216 rfl rfl rfl (by decide +kernel) ⟨Nat.le_of_ble_eq_true rfl, Nat.le_of_ble_eq_true rfl⟩) rfl hl.1 (Nat.le_of_ble_eq_true rfl) dL_law_1648 ⟨Nat.le_of_ble_eq_true rfl, Nat.le_of_ble_eq_true rfl⟩ (fun H locs hP hD hS => ?_)
  have hP : va_P D vwCl [(h1, .inr (12, f4)), (h10, .inl (cI, 2001, .inl g2)), (h11, .inl (cI, 2001, .inl g3)), (h12, .inl (cI, 2001, .inl g4)), (h13, .inl (cI, 2001, .inl g5)), (h0, .inr (11, (f0.set 12 (.int 0)))), (h3, .inr (1, f1)), (h4, .inr (7, (((((f2.set 10 (.int 0)).set 11 (.int 0)).set 14 (.int 0)).set 12 (.int 0)).set 13 (.int 0)))), (h6, .inr (3, ((((f3.set 6 (.ref h5)).set 7 (.int 0)).set 8 (.int 0)).set 5 (.int 0)))), (h8, .inl (cI, 2001, .inl (upd g0 0 0))), (h9, .inl (cI, 2001, .inl (upd g1 0 0)))] H := hP
  have hD : va_D A [(h1, .inr (12, f4)), (h10, .inl (cI, 2001, .inl g2)), (h11, .inl (cI, 2001, .inl g3)), (h12, .inl (cI, 2001, .inl g4)), (h13, .inl (cI, 2001, .inl g5)), (h0, .inr (11, (f0.set 12 (.int 0)))), (h3, .inr (1, f1)), (h4, .inr (7, (((((f2.set 10 (.int 0)).set 11 (.int 0)).set 14 (.int 0)).set 12 (.int 0)).set 13 (.int 0)))), (h6, .inr (3, ((((f3.set 6 (.ref h5)).set 7 (.int 0)).set 8 (.int 0)).set 5 (.int 0)))), (h8, .inl (cI, 2001, .inl (upd g0 0 0))), (h9, .inl (cI, 2001, .inl (upd g1 0 0)))] := hD
  refine lv_aload_n hx hb dL_law_1651 rfl (lv_at hl 2 rfl) ?_
  refine k_cVi (As := []) (rest := [.int 0]) (wc := [(h1, .inr (12, f4)), (h10, .inl (cI, 2001, .inl g2)), (h11, .inl (cI, 2001, .inl g3)), (h12, .inl (cI, 2001, .inl g4)), (h13, .inl (cI, 2001, .inl g5))]) (wr := [(h0, .inr (11, (f0.set 12 (.int 0)))), (h3, .inr (1, f1)), (h4, .inr (7, (((((f2.set 10 (.int 0)).set 11 (.int 0)).set 14 (.int 0)).set 12 (.int 0)).set 13 (.int 0)))), (h6, .inr (3, ((((f3.set 6 (.ref h5)).set 7 (.int 0)).set 8 (.int 0)).set 5 (.int 0)))), (h8, .inl (cI, 2001, .inl (upd g0 0 0))), (h9, .inl (cI, 2001, .inl (upd g1 0 0)))]) (w1 := [(h1, .inr (12, ((((((((((f4.set 0 (.int 0)).set 12 (.int 0)).set 2 (.int 0)).set 36 (.int 0)).set 37 (.int 0)).set 27 (.int 0)).set 31 (.int 0)).set 28 (.int 0)).set 187 (.int 0)).set 192 (.int 0)))), (h10, .inl (cI, 2001, .inl (upd g2 0 0))), (h11, .inl (cI, 2001, .inl (upd g3 0 0))), (h12, .inl (cI, 2001, .inl (upd g4 0 0))), (h13, .inl (cI, 2001, .inl (upd g5 0 0)))]) ⟨hx, hb, hml, hown, hts⟩ hN hX hAE hK hP hD hS hA [0, 1, 2, 3, 4] [5, 6, 7, 8, 9, 10] (ci := 12) rfl rfl rfl rfl (by decide +kernel) (by decide +kernel) (by decide +kernel) (c_X12_prove_0 l E D cI cJ cB cZ h1 f4 h10 h11 h12 h13 g2 g3 g4 g5 e17 e18 e19 e20 e21 e22 e23 e24 e25 e26 e27 e28 e29 e30 e31 e32 e33) (cwV 0 hts g9_L_law_X12_prove_219 rfl rfl rfl (by decide +kernel) ⟨Nat.le_of_ble_eq_true rfl, Nat.le_of_ble_eq_true rfl⟩) rfl hl.1 (Nat.le_of_ble_eq_true rfl) dL_law_1652 ⟨Nat.le_of_ble_eq_true rfl, Nat.le_of_ble_eq_true rfl⟩ (fun H locs hP hD hS => ?_)
  have hP : va_P D vwCl [(h0, .inr (11, (f0.set 12 (.int 0)))), (h3, .inr (1, f1)), (h4, .inr (7, (((((f2.set 10 (.int 0)).set 11 (.int 0)).set 14 (.int 0)).set 12 (.int 0)).set 13 (.int 0)))), (h6, .inr (3, ((((f3.set 6 (.ref h5)).set 7 (.int 0)).set 8 (.int 0)).set 5 (.int 0)))), (h8, .inl (cI, 2001, .inl (upd g0 0 0))), (h9, .inl (cI, 2001, .inl (upd g1 0 0))), (h1, .inr (12, ((((((((((f4.set 0 (.int 0)).set 12 (.int 0)).set 2 (.int 0)).set 36 (.int 0)).set 37 (.int 0)).set 27 (.int 0)).set 31 (.int 0)).set 28 (.int 0)).set 187 (.int 0)).set 192 (.int 0)))), (h10, .inl (cI, 2001, .inl (upd g2 0 0))), (h11, .inl (cI, 2001, .inl (upd g3 0 0))), (h12, .inl (cI, 2001, .inl (upd g4 0 0))), (h13, .inl (cI, 2001, .inl (upd g5 0 0)))] H := hP
  have hD : va_D A [(h0, .inr (11, (f0.set 12 (.int 0)))), (h3, .inr (1, f1)), (h4, .inr (7, (((((f2.set 10 (.int 0)).set 11 (.int 0)).set 14 (.int 0)).set 12 (.int 0)).set 13 (.int 0)))), (h6, .inr (3, ((((f3.set 6 (.ref h5)).set 7 (.int 0)).set 8 (.int 0)).set 5 (.int 0)))), (h8, .inl (cI, 2001, .inl (upd g0 0 0))), (h9, .inl (cI, 2001, .inl (upd g1 0 0))), (h1, .inr (12, ((((((((((f4.set 0 (.int 0)).set 12 (.int 0)).set 2 (.int 0)).set 36 (.int 0)).set 37 (.int 0)).set 27 (.int 0)).set 31 (.int 0)).set 28 (.int 0)).set 187 (.int 0)).set 192 (.int 0)))), (h10, .inl (cI, 2001, .inl (upd g2 0 0))), (h11, .inl (cI, 2001, .inl (upd g3 0 0))), (h12, .inl (cI, 2001, .inl (upd g4 0 0))), (h13, .inl (cI, 2001, .inl (upd g5 0 0)))] := hD
  refine lv_icmp_eq (tgt := 1765) hx hb dL_law_1655 (by decide) (fun _ => ?_) (fun c9 => absurd (by decide) c9)
  refine W.widen (k := 601024) (n := 7293034) (Nat.le_of_ble_eq_true rfl) (Nat.le_of_ble_eq_true rfl) ?_
  exact T9 _ _ _ hS (lv_sub hl [0, 4] rfl)
set_option maxHeartbeats 400000000 in
set_option maxRecDepth 100000 in
theorem law_39_0 {p : Program} {l : Launch} {e : Env} {s : State} {m : MethodId} {below : List Frame} {meth : Method} {c : Code} {b : Nat} {xs : Nat → Int32} (E : kE) (D : va_G) (cI cJ cB cZ : ClassId) (A : Nat → Prop) (Q : State → Prop) (h0 : Nat) (h1 : Nat) (h2 : Nat) (f0 : List Value) (h3 : Nat) (f1 : List Value) (f2 : List Value) (e0 : f0[11]? = some (.ref h3)) (e1 : ((xs 1) : Int32) < 1) (e2 : f2[187]? = some (.int 0)) (e3 : f2[0]? = some (.int 0)) (X9 : kLaw p l s m c b xs E D cI cJ cB cZ A) (T9 : kTail p l e s m b below meth c A Q) {H : Heap} {locs : List Loc} {ls : Array Slot} (hP : va_P D vwCl [(h0, .inr (11, f0)), (h3, .inr (7, f1)), (h1, .inr (12, f2))] H) (hD : va_D A [(h0, .inr (11, f0)), (h3, .inr (7, f1)), (h1, .inr (12, f2))]) (hS : va_S A s.heap H locs) (hl : lv_has ls 8 [(0, .ref b), (1, .ref h0), (2, .ref h1), (3, .ref h2), (4, .int 0)]) : W p l e room_1 s m #[Value.ref b] below meth c H locs 218 1205840 Q (F0 m 1660 ls []) := by
  obtain ⟨hl9, hx, hb, hml, hown, hts, hN, hX, hAE, hK, hA, hXs, hbl, hbA⟩ := X9
  refine lv_aload_n hx hb dL_law_1660 rfl (lv_at hl 1 rfl) ?_
  refine lv_aload_n hx hb dL_law_1661 rfl (lv_at hl 0 rfl) ?_
  refine lv_iload hx hb dL_law_1662 (lv_at hl 4 rfl) ?_
  refine lv_iconst (v := 1) hx hb dL_law_1664 (by decide) ?_
  refine lv_iadd hx hb dL_law_1665 ?_
  refine k_topi (y := 1) (by decide) ?_
  refine va_sld (xs := xs) hx hb hXs hbl hbA hS (k_in (by decide)) dL_law_1666 ?_
  refine k_topi (y := (xs 1)) (congrArg xs (by decide)) ?_
  refine lv_aload_n hx hb dL_law_1667 rfl (lv_at hl 0 rfl) ?_
  refine lv_iload hx hb dL_law_1668 (lv_at hl 4 rfl) ?_
  refine lv_iconst (v := 2) hx hb dL_law_1670 (by decide) ?_
  refine lv_iadd hx hb dL_law_1671 ?_
  refine k_topi (y := 2) (by decide) ?_
  refine va_sld (xs := xs) hx hb hXs hbl hbA hS (k_in (by decide)) dL_law_1672 ?_
  refine k_topi (y := (xs 2)) (congrArg xs (by decide)) ?_
  refine lv_aload_n hx hb dL_law_1673 rfl (lv_at hl 3 rfl) ?_
  refine k_cSWi (As := [.ref h0, .int (xs 1), .int (xs 2), .ref h2]) (rest := []) (wc := [(h0, .inr (11, f0)), (h3, .inr (7, f1))]) (wr := [(h1, .inr (12, f2))]) (w1 := [(h0, .inr (11, f0)), (h3, .inr (7, f1))]) ⟨hx, hb, hml, hown, hts⟩ hN hX hAE hK hP hD hS hA [0, 1] [2] rfl rfl (by decide +kernel) (by decide +kernel) (by decide +kernel) (c_L_line_1 l E D cI cJ cB cZ h0 (xs 1) (xs 2) h2 f0 h3 f1 e0 e1 hl9) (vx_cwSW 4 hts g9_L_law_L_line_220 rfl rfl rfl (by decide +kernel) ⟨Nat.le_of_ble_eq_true rfl, Nat.le_of_ble_eq_true rfl⟩) rfl hl.1 (Nat.le_of_ble_eq_true rfl) dL_law_1674 ⟨Nat.le_of_ble_eq_true rfl, Nat.le_of_ble_eq_true rfl⟩ (fun H locs hP hD hS => ?_)
  have hP : va_P D vwCl [(h1, .inr (12, f2)), (h0, .inr (11, f0)), (h3, .inr (7, f1))] H := hP
  have hD : va_D A [(h1, .inr (12, f2)), (h0, .inr (11, f0)), (h3, .inr (7, f1))] := hD
  refine W.widen (k := 219) (n := 1205846) (Nat.le_of_ble_eq_true rfl) (Nat.le_of_ble_eq_true rfl) ?_
  refine lv_istore (lv' := [(5, .int 1), (0, .ref b), (1, .ref h0), (2, .ref h1), (3, .ref h2), (4, .int 0)]) hx hb dL_law_1677 hl (by decide) rfl (fun ls hl => ?_)
  refine lv_aload_n hx hb dL_law_1679 rfl (lv_at hl 3 rfl) ?_
  refine lv_aload_n hx hb dL_law_1680 rfl (lv_at hl 1 rfl) ?_
  refine lv_iload hx hb dL_law_1681 (lv_at hl 5 rfl) ?_
  refine lv_iconst (v := 1) hx hb dL_law_1683 (by decide) ?_
  refine lv_iadd hx hb dL_law_1684 ?_
  refine k_topi (y := 1) (by decide) ?_
  refine va_sld (xs := xs) hx hb hXs hbl hbA hS (k_in (by decide)) dL_law_1685 ?_
  refine k_topi (y := (xs 1)) (congrArg xs (by decide)) ?_
  refine lv_aload_n hx hb dL_law_1686 rfl (lv_at hl 1 rfl) ?_
  refine lv_iload hx hb dL_law_1687 (lv_at hl 5 rfl) ?_
  refine lv_iconst (v := 2) hx hb dL_law_1689 (by decide) ?_
  refine lv_iadd hx hb dL_law_1690 ?_
  refine k_topi (y := 2) (by decide) ?_
  refine va_sld (xs := xs) hx hb hXs hbl hbA hS (k_in (by decide)) dL_law_1691 ?_
  refine k_topi (y := (xs 2)) (congrArg xs (by decide)) ?_
  refine k_cVl (As := [.int (xs 1), .int (xs 2)]) (rest := []) (wc := [(h1, .inr (12, f2))]) (wr := [(h0, .inr (11, f0)), (h3, .inr (7, f1))]) (w1 := [(h1, .inr (12, (f2.set 0 (.int 1))))]) ⟨hx, hb, hml, hown, hts⟩ hN hX hAE hK hP hD hS hA [0] [1, 2] (ci := 12) rfl rfl rfl rfl (by decide +kernel) (by decide +kernel) (by decide +kernel) (c_X12_line_1 l E D cI cJ cB cZ h1 (xs 1) (xs 2) f2 e2 e1 e3) (cwV 2 hts g9_L_law_X12_line_222 rfl rfl rfl (by decide +kernel) ⟨Nat.le_of_ble_eq_true rfl, Nat.le_of_ble_eq_true rfl⟩) rfl hl.1 (Nat.le_of_ble_eq_true rfl) dL_law_1692 ⟨Nat.le_of_ble_eq_true rfl, Nat.le_of_ble_eq_true rfl⟩ (fun H locs hP hD hS => ?_)
  have hP : va_P D vwCl [(h0, .inr (11, f0)), (h3, .inr (7, f1)), (h1, .inr (12, (f2.set 0 (.int 1))))] H := hP
  have hD : va_D A [(h0, .inr (11, f0)), (h3, .inr (7, f1)), (h1, .inr (12, (f2.set 0 (.int 1))))] := hD
  refine lv_lstore (lv' := [(6, .long 0), (5, .int 1), (0, .ref b), (1, .ref h0), (2, .ref h1), (3, .ref h2), (4, .int 0)]) hx hb dL_law_1695 hl (by decide) rfl (fun ls hl => ?_)
  refine lv_aload_n hx hb dL_law_1697 rfl (lv_at hl 4 rfl) ?_
  refine k_cVi (As := []) (rest := []) (wc := [(h1, .inr (12, (f2.set 0 (.int 1))))]) (wr := [(h0, .inr (11, f0)), (h3, .inr (7, f1))]) (w1 := [(h1, .inr (12, (f2.set 0 (.int 1))))]) ⟨hx, hb, hml, hown, hts⟩ hN hX hAE hK hP hD hS hA [2] [0, 1] (ci := 12) rfl rfl rfl rfl (by decide +kernel) (by decide +kernel) (by decide +kernel) (c_X12_thrown_1 l E D cI cJ cB cZ h1 ((f2.set 0 (.int 1))) (k_set e3)) (cwV 0 hts g9_L_law_X12_thrown_61 rfl rfl rfl (by decide +kernel) ⟨Nat.le_of_ble_eq_true rfl, Nat.le_of_ble_eq_true rfl⟩) rfl hl.1 (Nat.le_of_ble_eq_true rfl) dL_law_1698 ⟨Nat.le_of_ble_eq_true rfl, Nat.le_of_ble_eq_true rfl⟩ (fun H locs hP hD hS => ?_)
  have hP : va_P D vwCl [(h0, .inr (11, f0)), (h3, .inr (7, f1)), (h1, .inr (12, (f2.set 0 (.int 1))))] H := hP
  have hD : va_D A [(h0, .inr (11, f0)), (h3, .inr (7, f1)), (h1, .inr (12, (f2.set 0 (.int 1))))] := hD
  refine lv_iload hx hb dL_law_1701 (lv_at hl 1 rfl) ?_
  refine lv_icmp_eq (tgt := 1708) hx hb dL_law_1703 (by decide) (fun _ => ?_) (fun c9 => absurd (by decide) c9)
  refine lv_iload hx hb dL_law_1708 (lv_at hl 1 rfl) ?_
  refine lv_if_ne (tgt := 1724) hx hb dL_law_1710 (by decide) (fun _ => ?_) (fun c9 => absurd c9 (by decide))
  refine lv_goto (tgt := 1765) hx hb dL_law_1724 (by decide) ?_
  refine W.widen (k := 601024) (n := 7293034) (Nat.le_of_ble_eq_true rfl) (Nat.le_of_ble_eq_true rfl) ?_
  exact T9 _ _ _ hS (lv_sub hl [2, 6] rfl)
set_option maxHeartbeats 400000000 in
set_option maxRecDepth 100000 in
theorem law_39_1 {p : Program} {l : Launch} {e : Env} {s : State} {m : MethodId} {below : List Frame} {meth : Method} {c : Code} {b : Nat} {xs : Nat → Int32} (E : kE) (D : va_G) (cI cJ cB cZ : ClassId) (A : Nat → Prop) (Q : State → Prop) (h0 : Nat) (h1 : Nat) (h2 : Nat) (f0 : List Value) (h3 : Nat) (f1 : List Value) (f2 : List Value) (e0 : f0[11]? = some (.ref h3)) (e1 : f1[10]? = some (.int 0)) (e2 : ¬ (((xs 1) : Int32) < 1)) (e3 : f2[187]? = some (.int 0)) (e4 : f2[0]? = some (.int 0)) (X9 : kLaw p l s m c b xs E D cI cJ cB cZ A) (T9 : kTail p l e s m b below meth c A Q) {H : Heap} {locs : List Loc} {ls : Array Slot} (hP : va_P D vwCl [(h0, .inr (11, f0)), (h3, .inr (7, f1)), (h1, .inr (12, f2))] H) (hD : va_D A [(h0, .inr (11, f0)), (h3, .inr (7, f1)), (h1, .inr (12, f2))]) (hS : va_S A s.heap H locs) (hl : lv_has ls 8 [(0, .ref b), (1, .ref h0), (2, .ref h1), (3, .ref h2), (4, .int 0)]) : W p l e room_1 s m #[Value.ref b] below meth c H locs 218 1205840 Q (F0 m 1660 ls []) := by
  obtain ⟨hl9, hx, hb, hml, hown, hts, hN, hX, hAE, hK, hA, hXs, hbl, hbA⟩ := X9
  refine lv_aload_n hx hb dL_law_1660 rfl (lv_at hl 1 rfl) ?_
  refine lv_aload_n hx hb dL_law_1661 rfl (lv_at hl 0 rfl) ?_
  refine lv_iload hx hb dL_law_1662 (lv_at hl 4 rfl) ?_
  refine lv_iconst (v := 1) hx hb dL_law_1664 (by decide) ?_
  refine lv_iadd hx hb dL_law_1665 ?_
  refine k_topi (y := 1) (by decide) ?_
  refine va_sld (xs := xs) hx hb hXs hbl hbA hS (k_in (by decide)) dL_law_1666 ?_
  refine k_topi (y := (xs 1)) (congrArg xs (by decide)) ?_
  refine lv_aload_n hx hb dL_law_1667 rfl (lv_at hl 0 rfl) ?_
  refine lv_iload hx hb dL_law_1668 (lv_at hl 4 rfl) ?_
  refine lv_iconst (v := 2) hx hb dL_law_1670 (by decide) ?_
  refine lv_iadd hx hb dL_law_1671 ?_
  refine k_topi (y := 2) (by decide) ?_
  refine va_sld (xs := xs) hx hb hXs hbl hbA hS (k_in (by decide)) dL_law_1672 ?_
  refine k_topi (y := (xs 2)) (congrArg xs (by decide)) ?_
  refine lv_aload_n hx hb dL_law_1673 rfl (lv_at hl 3 rfl) ?_
  refine k_cSWi (As := [.ref h0, .int (xs 1), .int (xs 2), .ref h2]) (rest := []) (wc := [(h0, .inr (11, f0)), (h3, .inr (7, f1))]) (wr := [(h1, .inr (12, f2))]) (w1 := [(h0, .inr (11, f0)), (h3, .inr (7, f1))]) ⟨hx, hb, hml, hown, hts⟩ hN hX hAE hK hP hD hS hA [0, 1] [2] rfl rfl (by decide +kernel) (by decide +kernel) (by decide +kernel) (c_L_line_0 l E D cI cJ cB cZ h0 (xs 1) (xs 2) h2 f0 h3 f1 e0 e1 e2 hl9) (vx_cwSW 4 hts g9_L_law_L_line_220 rfl rfl rfl (by decide +kernel) ⟨Nat.le_of_ble_eq_true rfl, Nat.le_of_ble_eq_true rfl⟩) rfl hl.1 (Nat.le_of_ble_eq_true rfl) dL_law_1674 ⟨Nat.le_of_ble_eq_true rfl, Nat.le_of_ble_eq_true rfl⟩ (fun H locs hP hD hS => ?_)
  have hP : va_P D vwCl [(h1, .inr (12, f2)), (h0, .inr (11, f0)), (h3, .inr (7, f1))] H := hP
  have hD : va_D A [(h1, .inr (12, f2)), (h0, .inr (11, f0)), (h3, .inr (7, f1))] := hD
  refine W.widen (k := 219) (n := 1205846) (Nat.le_of_ble_eq_true rfl) (Nat.le_of_ble_eq_true rfl) ?_
  refine lv_istore (lv' := [(5, .int 1), (0, .ref b), (1, .ref h0), (2, .ref h1), (3, .ref h2), (4, .int 0)]) hx hb dL_law_1677 hl (by decide) rfl (fun ls hl => ?_)
  refine lv_aload_n hx hb dL_law_1679 rfl (lv_at hl 3 rfl) ?_
  refine lv_aload_n hx hb dL_law_1680 rfl (lv_at hl 1 rfl) ?_
  refine lv_iload hx hb dL_law_1681 (lv_at hl 5 rfl) ?_
  refine lv_iconst (v := 1) hx hb dL_law_1683 (by decide) ?_
  refine lv_iadd hx hb dL_law_1684 ?_
  refine k_topi (y := 1) (by decide) ?_
  refine va_sld (xs := xs) hx hb hXs hbl hbA hS (k_in (by decide)) dL_law_1685 ?_
  refine k_topi (y := (xs 1)) (congrArg xs (by decide)) ?_
  refine lv_aload_n hx hb dL_law_1686 rfl (lv_at hl 1 rfl) ?_
  refine lv_iload hx hb dL_law_1687 (lv_at hl 5 rfl) ?_
  refine lv_iconst (v := 2) hx hb dL_law_1689 (by decide) ?_
  refine lv_iadd hx hb dL_law_1690 ?_
  refine k_topi (y := 2) (by decide) ?_
  refine va_sld (xs := xs) hx hb hXs hbl hbA hS (k_in (by decide)) dL_law_1691 ?_
  refine k_topi (y := (xs 2)) (congrArg xs (by decide)) ?_
  refine k_cVl (As := [.int (xs 1), .int (xs 2)]) (rest := []) (wc := [(h1, .inr (12, f2))]) (wr := [(h0, .inr (11, f0)), (h3, .inr (7, f1))]) (w1 := [(h1, .inr (12, (f2.set 0 (.int 1))))]) ⟨hx, hb, hml, hown, hts⟩ hN hX hAE hK hP hD hS hA [0] [1, 2] (ci := 12) rfl rfl rfl rfl (by decide +kernel) (by decide +kernel) (by decide +kernel) (c_X12_line_0 l E D cI cJ cB cZ h1 (xs 1) (xs 2) f2 e3 e2 e4) (cwV 2 hts g9_L_law_X12_line_222 rfl rfl rfl (by decide +kernel) ⟨Nat.le_of_ble_eq_true rfl, Nat.le_of_ble_eq_true rfl⟩) rfl hl.1 (Nat.le_of_ble_eq_true rfl) dL_law_1692 ⟨Nat.le_of_ble_eq_true rfl, Nat.le_of_ble_eq_true rfl⟩ (fun H locs hP hD hS => ?_)
  have hP : va_P D vwCl [(h0, .inr (11, f0)), (h3, .inr (7, f1)), (h1, .inr (12, (f2.set 0 (.int 1))))] H := hP
  have hD : va_D A [(h0, .inr (11, f0)), (h3, .inr (7, f1)), (h1, .inr (12, (f2.set 0 (.int 1))))] := hD
  refine lv_lstore (lv' := [(6, .long 0), (5, .int 1), (0, .ref b), (1, .ref h0), (2, .ref h1), (3, .ref h2), (4, .int 0)]) hx hb dL_law_1695 hl (by decide) rfl (fun ls hl => ?_)
  refine lv_aload_n hx hb dL_law_1697 rfl (lv_at hl 4 rfl) ?_
  refine k_cVi (As := []) (rest := []) (wc := [(h1, .inr (12, (f2.set 0 (.int 1))))]) (wr := [(h0, .inr (11, f0)), (h3, .inr (7, f1))]) (w1 := [(h1, .inr (12, (f2.set 0 (.int 1))))]) ⟨hx, hb, hml, hown, hts⟩ hN hX hAE hK hP hD hS hA [2] [0, 1] (ci := 12) rfl rfl rfl rfl (by decide +kernel) (by decide +kernel) (by decide +kernel) (c_X12_thrown_1 l E D cI cJ cB cZ h1 ((f2.set 0 (.int 1))) (k_set e4)) (cwV 0 hts g9_L_law_X12_thrown_61 rfl rfl rfl (by decide +kernel) ⟨Nat.le_of_ble_eq_true rfl, Nat.le_of_ble_eq_true rfl⟩) rfl hl.1 (Nat.le_of_ble_eq_true rfl) dL_law_1698 ⟨Nat.le_of_ble_eq_true rfl, Nat.le_of_ble_eq_true rfl⟩ (fun H locs hP hD hS => ?_)
  have hP : va_P D vwCl [(h0, .inr (11, f0)), (h3, .inr (7, f1)), (h1, .inr (12, (f2.set 0 (.int 1))))] H := hP
  have hD : va_D A [(h0, .inr (11, f0)), (h3, .inr (7, f1)), (h1, .inr (12, (f2.set 0 (.int 1))))] := hD
  refine lv_iload hx hb dL_law_1701 (lv_at hl 1 rfl) ?_
  refine lv_icmp_eq (tgt := 1708) hx hb dL_law_1703 (by decide) (fun _ => ?_) (fun c9 => absurd (by decide) c9)
  refine lv_iload hx hb dL_law_1708 (lv_at hl 1 rfl) ?_
  refine lv_if_ne (tgt := 1724) hx hb dL_law_1710 (by decide) (fun _ => ?_) (fun c9 => absurd c9 (by decide))
  refine lv_goto (tgt := 1765) hx hb dL_law_1724 (by decide) ?_
  refine W.widen (k := 601024) (n := 7293034) (Nat.le_of_ble_eq_true rfl) (Nat.le_of_ble_eq_true rfl) ?_
  exact T9 _ _ _ hS (lv_sub hl [2, 6] rfl)
set_option maxHeartbeats 400000000 in
set_option maxRecDepth 100000 in
theorem law_40_0 {p : Program} {l : Launch} {e : Env} {s : State} {m : MethodId} {below : List Frame} {meth : Method} {c : Code} {b : Nat} {xs : Nat → Int32} (E : kE) (D : va_G) (cI cJ cB cZ : ClassId) (A : Nat → Prop) (Q : State → Prop) (h0 : Nat) (h1 : Nat) (h2 : Nat) (f0 : List Value) (h3 : Nat) (f1 : List Value) (h4 : Nat) (f2 : List Value) (h5 : Nat) (f3 : List Value) (f4 : List Value) (h6 : Nat) (g0 : Nat → Int32) (e0 : f0[1]? = some (.ref h3)) (e1 : f1[8]? = some (.int 0)) (e2 : f0[7]? = some (.ref h4)) (e3 : f2[0]? = some (.ref h5)) (e4 : f3[12]? = some (.int 0)) (e5 : f4[0]? = some (.int 0)) (e6 : f4[5]? = some (.int 0)) (e7 : f4[119]? = some (.int 0)) (e8 : f4[121]? = some (.ref h6)) (e9 : f4[33]? = some (.int 0)) (X9 : kLaw p l s m c b xs E D cI cJ cB cZ A) (T9 : kTail p l e s m b below meth c A Q) {H : Heap} {locs : List Loc} {ls : Array Slot} (hP : va_P D vwCl [(h0, .inr (11, f0)), (h3, .inr (1, f1)), (h4, .inr (0, f2)), (h5, .inr (2, f3)), (h1, .inr (12, f4)), (h6, .inl (cZ, 26, .inl g0))] H) (hD : va_D A [(h0, .inr (11, f0)), (h3, .inr (1, f1)), (h4, .inr (0, f2)), (h5, .inr (2, f3)), (h1, .inr (12, f4)), (h6, .inl (cZ, 26, .inl g0))]) (hS : va_S A s.heap H locs) (hl : lv_has ls 8 [(0, .ref b), (1, .ref h0), (2, .ref h1), (3, .ref h2), (4, .int 0)]) : W p l e room_1 s m #[Value.ref b] below meth c H locs 218 1205840 Q (F0 m 1727 ls []) := by
  obtain ⟨hl9, hx, hb, hml, hown, hts, hN, hX, hAE, hK, hA, hXs, hbl, hbA⟩ := X9
  refine lv_aload_n hx hb dL_law_1727 rfl (lv_at hl 1 rfl) ?_
  refine lv_aload_n hx hb dL_law_1728 rfl (lv_at hl 0 rfl) ?_
  refine lv_iload hx hb dL_law_1729 (lv_at hl 4 rfl) ?_
  refine lv_iconst (v := 1) hx hb dL_law_1731 (by decide) ?_
  refine lv_iadd hx hb dL_law_1732 ?_
  refine k_topi (y := 1) (by decide) ?_
  refine va_sld (xs := xs) hx hb hXs hbl hbA hS (k_in (by decide)) dL_law_1733 ?_
  refine k_topi (y := (xs 1)) (congrArg xs (by decide)) ?_
  refine k_cVi (As := [.int (xs 1)]) (rest := []) (wc := [(h0, .inr (11, f0)), (h3, .inr (1, f1)), (h4, .inr (0, f2)), (h5, .inr (2, f3))]) (wr := [(h1, .inr (12, f4)), (h6, .inl (cZ, 26, .inl g0))]) (w1 := [(h0, .inr (11, f0)), (h3, .inr (1, f1)), (h4, .inr (0, f2)), (h5, .inr (2, f3))]) ⟨hx, hb, hml, hown, hts⟩ hN hX hAE hK hP hD hS hA [0, 1, 2, 3] [4, 5] (ci := 11) rfl rfl rfl rfl (by decide +kernel) (by decide +kernel) (by decide +kernel) (c_X11_bound_0 l E D cI cJ cB cZ h0 (xs 1) f0 h3 f1 h4 f2 h5 f3 e0 e1 e2 e3 e4) (cwV 1 hts g9_L_law_X11_bound_223 rfl rfl rfl (by decide +kernel) ⟨Nat.le_of_ble_eq_true rfl, Nat.le_of_ble_eq_true rfl⟩) rfl hl.1 (Nat.le_of_ble_eq_true rfl) dL_law_1734 ⟨Nat.le_of_ble_eq_true rfl, Nat.le_of_ble_eq_true rfl⟩ (fun H locs hP hD hS => ?_)
  have hP : va_P D vwCl [(h1, .inr (12, f4)), (h6, .inl (cZ, 26, .inl g0)), (h0, .inr (11, f0)), (h3, .inr (1, f1)), (h4, .inr (0, f2)), (h5, .inr (2, f3))] H := hP
  have hD : va_D A [(h1, .inr (12, f4)), (h6, .inl (cZ, 26, .inl g0)), (h0, .inr (11, f0)), (h3, .inr (1, f1)), (h4, .inr (0, f2)), (h5, .inr (2, f3))] := hD
  refine lv_aload_n hx hb dL_law_1737 rfl (lv_at hl 2 rfl) ?_
  refine lv_aload_n hx hb dL_law_1738 rfl (lv_at hl 0 rfl) ?_
  refine lv_iload hx hb dL_law_1739 (lv_at hl 4 rfl) ?_
  refine lv_iconst (v := 1) hx hb dL_law_1741 (by decide) ?_
  refine lv_iadd hx hb dL_law_1742 ?_
  refine k_topi (y := 1) (by decide) ?_
  refine va_sld (xs := xs) hx hb hXs hbl hbA hS (k_in (by decide)) dL_law_1743 ?_
  refine k_topi (y := (xs 1)) (congrArg xs (by decide)) ?_
  refine k_cVi (As := [.int (xs 1)]) (rest := [.int 0]) (wc := [(h1, .inr (12, f4)), (h6, .inl (cZ, 26, .inl g0))]) (wr := [(h0, .inr (11, f0)), (h3, .inr (1, f1)), (h4, .inr (0, f2)), (h5, .inr (2, f3))]) (w1 := [(h1, .inr (12, ((f4.set 0 (.int 0)).set 119 (.int 0)))), (h6, .inl (cZ, 26, .inl (upd (upd (upd (upd (upd (upd (upd (upd (upd (upd (upd (upd (upd (upd (upd (upd (upd (upd (upd (upd (upd (upd (upd (upd (upd (upd g0 0 0) 1 0) 2 0) 3 0) 4 0) 5 0) 6 0) 7 0) 8 0) 9 0) 10 0) 11 0) 12 0) 13 0) 14 0) 15 0) 16 0) 17 0) 18 0) 19 0) 20 0) 21 0) 22 0) 23 0) 24 0) 25 0)))]) ⟨hx, hb, hml, hown, hts⟩ hN hX hAE hK hP hD hS hA [0, 1] [2, 3, 4, 5] (ci := 12) rfl rfl rfl rfl (by decide +kernel) (by decide +kernel) (by decide +kernel) (c_X12_bound_0 l E D cI cJ cB cZ h1 (xs 1) f4 h6 g0 e5 e6 e7 e8 e9) (cwV 1 hts g9_L_law_X12_bound_226 rfl rfl rfl (by decide +kernel) ⟨Nat.le_of_ble_eq_true rfl, Nat.le_of_ble_eq_true rfl⟩) rfl hl.1 (Nat.le_of_ble_eq_true rfl) dL_law_1744 ⟨Nat.le_of_ble_eq_true rfl, Nat.le_of_ble_eq_true rfl⟩ (fun H locs hP hD hS => ?_)
  have hP : va_P D vwCl [(h0, .inr (11, f0)), (h3, .inr (1, f1)), (h4, .inr (0, f2)), (h5, .inr (2, f3)), (h1, .inr (12, ((f4.set 0 (.int 0)).set 119 (.int 0)))), (h6, .inl (cZ, 26, .inl (upd (upd (upd (upd (upd (upd (upd (upd (upd (upd (upd (upd (upd (upd (upd (upd (upd (upd (upd (upd (upd (upd (upd (upd (upd (upd g0 0 0) 1 0) 2 0) 3 0) 4 0) 5 0) 6 0) 7 0) 8 0) 9 0) 10 0) 11 0) 12 0) 13 0) 14 0) 15 0) 16 0) 17 0) 18 0) 19 0) 20 0) 21 0) 22 0) 23 0) 24 0) 25 0)))] H := hP
  have hD : va_D A [(h0, .inr (11, f0)), (h3, .inr (1, f1)), (h4, .inr (0, f2)), (h5, .inr (2, f3)), (h1, .inr (12, ((f4.set 0 (.int 0)).set 119 (.int 0)))), (h6, .inl (cZ, 26, .inl (upd (upd (upd (upd (upd (upd (upd (upd (upd (upd (upd (upd (upd (upd (upd (upd (upd (upd (upd (upd (upd (upd (upd (upd (upd (upd g0 0 0) 1 0) 2 0) 3 0) 4 0) 5 0) 6 0) 7 0) 8 0) 9 0) 10 0) 11 0) 12 0) 13 0) 14 0) 15 0) 16 0) 17 0) 18 0) 19 0) 20 0) 21 0) 22 0) 23 0) 24 0) 25 0)))] := hD
  refine lv_icmp_eq (tgt := 1765) hx hb dL_law_1747 (by decide) (fun _ => ?_) (fun c9 => absurd (by decide) c9)
  refine W.widen (k := 601024) (n := 7293034) (Nat.le_of_ble_eq_true rfl) (Nat.le_of_ble_eq_true rfl) ?_
  exact T9 _ _ _ hS (lv_sub hl [0, 4] rfl)
set_option maxHeartbeats 400000000 in
set_option maxRecDepth 100000 in
theorem law_41_0 {p : Program} {l : Launch} {e : Env} {s : State} {m : MethodId} {below : List Frame} {meth : Method} {c : Code} {b : Nat} {xs : Nat → Int32} (E : kE) (D : va_G) (cI cJ cB cZ : ClassId) (A : Nat → Prop) (Q : State → Prop) (h0 : Nat) (h1 : Nat) (h2 : Nat) (f0 : List Value) (h3 : Nat) (f1 : List Value) (f2 : List Value) (e0 : f0[1]? = some (.ref h3)) (e1 : f1[8]? = some (.int 0)) (e2 : f2[0]? = some (.int 0)) (e3 : f2[5]? = some (.int 0)) (X9 : kLaw p l s m c b xs E D cI cJ cB cZ A) (T9 : kTail p l e s m b below meth c A Q) {H : Heap} {locs : List Loc} {ls : Array Slot} (hP : va_P D vwCl [(h0, .inr (11, f0)), (h3, .inr (1, f1)), (h1, .inr (12, f2))] H) (hD : va_D A [(h0, .inr (11, f0)), (h3, .inr (1, f1)), (h1, .inr (12, f2))]) (hS : va_S A s.heap H locs) (hl : lv_has ls 8 [(0, .ref b), (1, .ref h0), (2, .ref h1), (3, .ref h2), (4, .int 0)]) : W p l e room_1 s m #[Value.ref b] below meth c H locs 218 1205840 Q (F0 m 1752 ls []) := by
  obtain ⟨hl9, hx, hb, hml, hown, hts, hN, hX, hAE, hK, hA, hXs, hbl, hbA⟩ := X9
  refine lv_aload_n hx hb dL_law_1752 rfl (lv_at hl 1 rfl) ?_
  refine k_cVi (As := []) (rest := []) (wc := [(h0, .inr (11, f0)), (h3, .inr (1, f1))]) (wr := [(h1, .inr (12, f2))]) (w1 := [(h0, .inr (11, f0)), (h3, .inr (1, f1))]) ⟨hx, hb, hml, hown, hts⟩ hN hX hAE hK hP hD hS hA [0, 1] [2] (ci := 11) rfl rfl rfl rfl (by decide +kernel) (by decide +kernel) (by decide +kernel) (c_X11_audit_0 l E D cI cJ cB cZ h0 f0 h3 f1 e0 e1) (cwV 0 hts g9_L_law_X11_audit_227 rfl rfl rfl (by decide +kernel) ⟨Nat.le_of_ble_eq_true rfl, Nat.le_of_ble_eq_true rfl⟩) rfl hl.1 (Nat.le_of_ble_eq_true rfl) dL_law_1753 ⟨Nat.le_of_ble_eq_true rfl, Nat.le_of_ble_eq_true rfl⟩ (fun H locs hP hD hS => ?_)
  have hP : va_P D vwCl [(h1, .inr (12, f2)), (h0, .inr (11, f0)), (h3, .inr (1, f1))] H := hP
  have hD : va_D A [(h1, .inr (12, f2)), (h0, .inr (11, f0)), (h3, .inr (1, f1))] := hD
  refine lv_aload_n hx hb dL_law_1756 rfl (lv_at hl 2 rfl) ?_
  refine k_cVi (As := []) (rest := [.int 0]) (wc := [(h1, .inr (12, f2))]) (wr := [(h0, .inr (11, f0)), (h3, .inr (1, f1))]) (w1 := [(h1, .inr (12, (f2.set 0 (.int 0))))]) ⟨hx, hb, hml, hown, hts⟩ hN hX hAE hK hP hD hS hA [0] [1, 2] (ci := 12) rfl rfl rfl rfl (by decide +kernel) (by decide +kernel) (by decide +kernel) (c_X12_audit_0 l E D cI cJ cB cZ h1 f2 e2 e3) (cwV 0 hts g9_L_law_X12_audit_230 rfl rfl rfl (by decide +kernel) ⟨Nat.le_of_ble_eq_true rfl, Nat.le_of_ble_eq_true rfl⟩) rfl hl.1 (Nat.le_of_ble_eq_true rfl) dL_law_1757 ⟨Nat.le_of_ble_eq_true rfl, Nat.le_of_ble_eq_true rfl⟩ (fun H locs hP hD hS => ?_)
  have hP : va_P D vwCl [(h0, .inr (11, f0)), (h3, .inr (1, f1)), (h1, .inr (12, (f2.set 0 (.int 0))))] H := hP
  have hD : va_D A [(h0, .inr (11, f0)), (h3, .inr (1, f1)), (h1, .inr (12, (f2.set 0 (.int 0))))] := hD
  refine lv_icmp_eq (tgt := 1765) hx hb dL_law_1760 (by decide) (fun _ => ?_) (fun c9 => absurd (by decide) c9)
  refine W.widen (k := 601024) (n := 7293034) (Nat.le_of_ble_eq_true rfl) (Nat.le_of_ble_eq_true rfl) ?_
  exact T9 _ _ _ hS (lv_sub hl [0, 4] rfl)
