set_option maxRecDepth 100000 in
theorem d240_1297 : decode (xmb 240) 1297 = .ok (.iload 4, 2) := by decide +kernel
set_option maxRecDepth 100000 in
theorem d240_1299 : decode (xmb 240) 1299 = .ok (.iconst 3, 1) := by decide +kernel
set_option maxRecDepth 100000 in
theorem d240_1300 : decode (xmb 240) 1300 = .ok (.iadd, 1) := by decide +kernel
set_option maxRecDepth 100000 in
theorem d240_1301 : decode (xmb 240) 1301 = .ok (.iaload, 1) := by decide +kernel
set_option maxRecDepth 100000 in
theorem d240_1302 : decode (xmb 240) 1302 = .ok (.ifCond .eq 7, 3) := by decide +kernel
set_option maxRecDepth 100000 in
theorem d240_1305 : decode (xmb 240) 1305 = .ok (.iconst 1, 1) := by decide +kernel
set_option maxRecDepth 100000 in
theorem d240_1306 : decode (xmb 240) 1306 = .ok (.goto 4, 3) := by decide +kernel
set_option maxRecDepth 100000 in
theorem d240_1309 : decode (xmb 240) 1309 = .ok (.iconst 0, 1) := by decide +kernel
set_option maxRecDepth 100000 in
theorem d240_1310 : decode (xmb 240) 1310 = .ok (.invokevirtual 176, 3) := by decide +kernel
set_option maxRecDepth 100000 in
theorem d240_1313 : decode (xmb 240) 1313 = .ok (.istore 6, 2) := by decide +kernel
set_option maxRecDepth 100000 in
theorem d240_1315 : decode (xmb 240) 1315 = .ok (.aload_n 2, 1) := by decide +kernel
set_option maxRecDepth 100000 in
theorem d240_1316 : decode (xmb 240) 1316 = .ok (.invokevirtual 115, 3) := by decide +kernel
set_option maxRecDepth 100000 in
theorem d240_1319 : decode (xmb 240) 1319 = .ok (.iload 5, 2) := by decide +kernel
set_option maxRecDepth 100000 in
theorem d240_1321 : decode (xmb 240) 1321 = .ok (.if_icmp .eq 5, 3) := by decide +kernel
set_option maxRecDepth 100000 in
theorem d240_1324 : decode (xmb 240) 1324 = .ok (.iconst 0, 1) := by decide +kernel
set_option maxRecDepth 100000 in
theorem d240_1325 : decode (xmb 240) 1325 = .ok (.ireturn, 1) := by decide +kernel
set_option maxRecDepth 100000 in
theorem d240_1326 : decode (xmb 240) 1326 = .ok (.iload 5, 2) := by decide +kernel
set_option maxRecDepth 100000 in
theorem d240_1328 : decode (xmb 240) 1328 = .ok (.ifCond .ne 15, 3) := by decide +kernel
set_option maxRecDepth 100000 in
theorem d240_1331 : decode (xmb 240) 1331 = .ok (.aload_n 3, 1) := by decide +kernel
set_option maxRecDepth 100000 in
theorem d240_1332 : decode (xmb 240) 1332 = .ok (.iconst 0, 1) := by decide +kernel
set_option maxRecDepth 100000 in
theorem d240_1333 : decode (xmb 240) 1333 = .ok (.laload, 1) := by decide +kernel
set_option maxRecDepth 100000 in
theorem d240_1334 : decode (xmb 240) 1334 = .ok (.iload 6, 2) := by decide +kernel
set_option maxRecDepth 100000 in
theorem d240_1336 : decode (xmb 240) 1336 = .ok (.i2l, 1) := by decide +kernel
set_option maxRecDepth 100000 in
theorem d240_1337 : decode (xmb 240) 1337 = .ok (.lcmp, 1) := by decide +kernel
set_option maxRecDepth 100000 in
theorem d240_1338 : decode (xmb 240) 1338 = .ok (.ifCond .eq 5, 3) := by decide +kernel
set_option maxRecDepth 100000 in
theorem d240_1341 : decode (xmb 240) 1341 = .ok (.iconst 0, 1) := by decide +kernel
set_option maxRecDepth 100000 in
theorem d240_1342 : decode (xmb 240) 1342 = .ok (.ireturn, 1) := by decide +kernel
set_option maxRecDepth 100000 in
theorem d240_1343 : decode (xmb 240) 1343 = .ok (.goto 768, 3) := by decide +kernel
set_option maxRecDepth 100000 in
theorem d240_1346 : decode (xmb 240) 1346 = .ok (.aload_n 1, 1) := by decide +kernel
set_option maxRecDepth 100000 in
theorem d240_1347 : decode (xmb 240) 1347 = .ok (.aload_n 0, 1) := by decide +kernel
set_option maxRecDepth 100000 in
theorem d240_1348 : decode (xmb 240) 1348 = .ok (.iload 4, 2) := by decide +kernel
set_option maxRecDepth 100000 in
theorem d240_1350 : decode (xmb 240) 1350 = .ok (.iconst 1, 1) := by decide +kernel
set_option maxRecDepth 100000 in
theorem d240_1351 : decode (xmb 240) 1351 = .ok (.iadd, 1) := by decide +kernel
set_option maxRecDepth 100000 in
theorem d240_1352 : decode (xmb 240) 1352 = .ok (.iaload, 1) := by decide +kernel
set_option maxRecDepth 100000 in
theorem d240_1353 : decode (xmb 240) 1353 = .ok (.aload_n 0, 1) := by decide +kernel
set_option maxRecDepth 100000 in
theorem d240_1354 : decode (xmb 240) 1354 = .ok (.iload 4, 2) := by decide +kernel
set_option maxRecDepth 100000 in
theorem d240_1356 : decode (xmb 240) 1356 = .ok (.iconst 2, 1) := by decide +kernel
set_option maxRecDepth 100000 in
theorem d240_1357 : decode (xmb 240) 1357 = .ok (.iadd, 1) := by decide +kernel
set_option maxRecDepth 100000 in
theorem d240_1358 : decode (xmb 240) 1358 = .ok (.iaload, 1) := by decide +kernel
set_option maxRecDepth 100000 in
theorem d240_1359 : decode (xmb 240) 1359 = .ok (.aload_n 3, 1) := by decide +kernel
set_option maxRecDepth 100000 in
theorem d240_1360 : decode (xmb 240) 1360 = .ok (.invokestatic 177, 3) := by decide +kernel
set_option maxRecDepth 100000 in
theorem d240_1363 : decode (xmb 240) 1363 = .ok (.istore 5, 2) := by decide +kernel
set_option maxRecDepth 100000 in
theorem d240_1365 : decode (xmb 240) 1365 = .ok (.aload_n 2, 1) := by decide +kernel
set_option maxRecDepth 100000 in
theorem d240_1366 : decode (xmb 240) 1366 = .ok (.aload_n 0, 1) := by decide +kernel
set_option maxRecDepth 100000 in
theorem d240_1367 : decode (xmb 240) 1367 = .ok (.iload 4, 2) := by decide +kernel
set_option maxRecDepth 100000 in
theorem d240_1369 : decode (xmb 240) 1369 = .ok (.iconst 1, 1) := by decide +kernel
set_option maxRecDepth 100000 in
theorem d240_1370 : decode (xmb 240) 1370 = .ok (.iadd, 1) := by decide +kernel
set_option maxRecDepth 100000 in
theorem d240_1371 : decode (xmb 240) 1371 = .ok (.iaload, 1) := by decide +kernel
set_option maxRecDepth 100000 in
theorem d240_1372 : decode (xmb 240) 1372 = .ok (.aload_n 0, 1) := by decide +kernel
set_option maxRecDepth 100000 in
theorem d240_1373 : decode (xmb 240) 1373 = .ok (.iload 4, 2) := by decide +kernel
set_option maxRecDepth 100000 in
theorem d240_1375 : decode (xmb 240) 1375 = .ok (.iconst 2, 1) := by decide +kernel
set_option maxRecDepth 100000 in
theorem d240_1376 : decode (xmb 240) 1376 = .ok (.iadd, 1) := by decide +kernel
set_option maxRecDepth 100000 in
theorem d240_1377 : decode (xmb 240) 1377 = .ok (.iaload, 1) := by decide +kernel
set_option maxRecDepth 100000 in
theorem d240_1378 : decode (xmb 240) 1378 = .ok (.invokevirtual 179, 3) := by decide +kernel
set_option maxRecDepth 100000 in
theorem d240_1381 : decode (xmb 240) 1381 = .ok (.istore 6, 2) := by decide +kernel
set_option maxRecDepth 100000 in
theorem d240_1383 : decode (xmb 240) 1383 = .ok (.aload_n 2, 1) := by decide +kernel
set_option maxRecDepth 100000 in
theorem d240_1384 : decode (xmb 240) 1384 = .ok (.invokevirtual 115, 3) := by decide +kernel
set_option maxRecDepth 100000 in
theorem d240_1387 : decode (xmb 240) 1387 = .ok (.iload 5, 2) := by decide +kernel
set_option maxRecDepth 100000 in
theorem d240_1389 : decode (xmb 240) 1389 = .ok (.if_icmp .eq 5, 3) := by decide +kernel
set_option maxRecDepth 100000 in
theorem d240_1392 : decode (xmb 240) 1392 = .ok (.iconst 0, 1) := by decide +kernel
set_option maxRecDepth 100000 in
theorem d240_1393 : decode (xmb 240) 1393 = .ok (.ireturn, 1) := by decide +kernel
set_option maxRecDepth 100000 in
theorem d240_1394 : decode (xmb 240) 1394 = .ok (.iload 5, 2) := by decide +kernel
set_option maxRecDepth 100000 in
theorem d240_1396 : decode (xmb 240) 1396 = .ok (.ifCond .ne 15, 3) := by decide +kernel
set_option maxRecDepth 100000 in
theorem d240_1399 : decode (xmb 240) 1399 = .ok (.aload_n 3, 1) := by decide +kernel
set_option maxRecDepth 100000 in
theorem d240_1400 : decode (xmb 240) 1400 = .ok (.iconst 0, 1) := by decide +kernel
set_option maxRecDepth 100000 in
theorem d240_1401 : decode (xmb 240) 1401 = .ok (.laload, 1) := by decide +kernel
set_option maxRecDepth 100000 in
theorem d240_1402 : decode (xmb 240) 1402 = .ok (.iload 6, 2) := by decide +kernel
set_option maxRecDepth 100000 in
theorem d240_1404 : decode (xmb 240) 1404 = .ok (.i2l, 1) := by decide +kernel
set_option maxRecDepth 100000 in
theorem d240_1405 : decode (xmb 240) 1405 = .ok (.lcmp, 1) := by decide +kernel
set_option maxRecDepth 100000 in
theorem d240_1406 : decode (xmb 240) 1406 = .ok (.ifCond .eq 5, 3) := by decide +kernel
set_option maxRecDepth 100000 in
theorem d240_1409 : decode (xmb 240) 1409 = .ok (.iconst 0, 1) := by decide +kernel
set_option maxRecDepth 100000 in
theorem d240_1410 : decode (xmb 240) 1410 = .ok (.ireturn, 1) := by decide +kernel
set_option maxRecDepth 100000 in
theorem d240_1411 : decode (xmb 240) 1411 = .ok (.goto 700, 3) := by decide +kernel
set_option maxRecDepth 100000 in
theorem d240_1414 : decode (xmb 240) 1414 = .ok (.aload_n 1, 1) := by decide +kernel
set_option maxRecDepth 100000 in
theorem d240_1415 : decode (xmb 240) 1415 = .ok (.aload_n 0, 1) := by decide +kernel
set_option maxRecDepth 100000 in
theorem d240_1416 : decode (xmb 240) 1416 = .ok (.iload 4, 2) := by decide +kernel
set_option maxRecDepth 100000 in
theorem d240_1418 : decode (xmb 240) 1418 = .ok (.iconst 1, 1) := by decide +kernel
set_option maxRecDepth 100000 in
theorem d240_1419 : decode (xmb 240) 1419 = .ok (.iadd, 1) := by decide +kernel
set_option maxRecDepth 100000 in
theorem d240_1420 : decode (xmb 240) 1420 = .ok (.iaload, 1) := by decide +kernel
set_option maxRecDepth 100000 in
theorem d240_1421 : decode (xmb 240) 1421 = .ok (.aload_n 0, 1) := by decide +kernel
set_option maxRecDepth 100000 in
theorem d240_1422 : decode (xmb 240) 1422 = .ok (.iload 4, 2) := by decide +kernel
set_option maxRecDepth 100000 in
theorem d240_1424 : decode (xmb 240) 1424 = .ok (.iconst 2, 1) := by decide +kernel
set_option maxRecDepth 100000 in
theorem d240_1425 : decode (xmb 240) 1425 = .ok (.iadd, 1) := by decide +kernel
set_option maxRecDepth 100000 in
theorem d240_1426 : decode (xmb 240) 1426 = .ok (.iaload, 1) := by decide +kernel
set_option maxRecDepth 100000 in
theorem d240_1427 : decode (xmb 240) 1427 = .ok (.aload_n 3, 1) := by decide +kernel
set_option maxRecDepth 100000 in
theorem d240_1428 : decode (xmb 240) 1428 = .ok (.invokestatic 180, 3) := by decide +kernel
set_option maxRecDepth 100000 in
theorem d240_1431 : decode (xmb 240) 1431 = .ok (.istore 5, 2) := by decide +kernel
set_option maxRecDepth 100000 in
theorem d240_1433 : decode (xmb 240) 1433 = .ok (.aload_n 2, 1) := by decide +kernel
set_option maxRecDepth 100000 in
theorem d240_1434 : decode (xmb 240) 1434 = .ok (.aload_n 0, 1) := by decide +kernel
set_option maxRecDepth 100000 in
theorem d240_1435 : decode (xmb 240) 1435 = .ok (.iload 4, 2) := by decide +kernel
set_option maxRecDepth 100000 in
theorem d240_1437 : decode (xmb 240) 1437 = .ok (.iconst 1, 1) := by decide +kernel
set_option maxRecDepth 100000 in
theorem d240_1438 : decode (xmb 240) 1438 = .ok (.iadd, 1) := by decide +kernel
set_option maxRecDepth 100000 in
theorem d240_1439 : decode (xmb 240) 1439 = .ok (.iaload, 1) := by decide +kernel
set_option maxRecDepth 100000 in
theorem d240_1440 : decode (xmb 240) 1440 = .ok (.aload_n 0, 1) := by decide +kernel
set_option maxRecDepth 100000 in
theorem d240_1441 : decode (xmb 240) 1441 = .ok (.iload 4, 2) := by decide +kernel
set_option maxRecDepth 100000 in
theorem d240_1443 : decode (xmb 240) 1443 = .ok (.iconst 2, 1) := by decide +kernel
set_option maxRecDepth 100000 in
theorem d240_1444 : decode (xmb 240) 1444 = .ok (.iadd, 1) := by decide +kernel
set_option maxRecDepth 100000 in
theorem d240_1445 : decode (xmb 240) 1445 = .ok (.iaload, 1) := by decide +kernel
set_option maxRecDepth 100000 in
theorem d240_1446 : decode (xmb 240) 1446 = .ok (.invokevirtual 182, 3) := by decide +kernel
set_option maxRecDepth 100000 in
theorem d240_1449 : decode (xmb 240) 1449 = .ok (.istore 6, 2) := by decide +kernel
set_option maxRecDepth 100000 in
theorem d240_1451 : decode (xmb 240) 1451 = .ok (.aload_n 2, 1) := by decide +kernel
set_option maxRecDepth 100000 in
theorem d240_1452 : decode (xmb 240) 1452 = .ok (.invokevirtual 115, 3) := by decide +kernel
set_option maxRecDepth 100000 in
theorem d240_1455 : decode (xmb 240) 1455 = .ok (.iload 5, 2) := by decide +kernel
set_option maxRecDepth 100000 in
theorem d240_1457 : decode (xmb 240) 1457 = .ok (.if_icmp .eq 5, 3) := by decide +kernel
set_option maxRecDepth 100000 in
theorem d240_1460 : decode (xmb 240) 1460 = .ok (.iconst 0, 1) := by decide +kernel
set_option maxRecDepth 100000 in
theorem d240_1461 : decode (xmb 240) 1461 = .ok (.ireturn, 1) := by decide +kernel
set_option maxRecDepth 100000 in
theorem d240_1462 : decode (xmb 240) 1462 = .ok (.iload 5, 2) := by decide +kernel
set_option maxRecDepth 100000 in
theorem d240_1464 : decode (xmb 240) 1464 = .ok (.ifCond .ne 15, 3) := by decide +kernel
set_option maxRecDepth 100000 in
theorem d240_1467 : decode (xmb 240) 1467 = .ok (.aload_n 3, 1) := by decide +kernel
set_option maxRecDepth 100000 in
theorem d240_1468 : decode (xmb 240) 1468 = .ok (.iconst 0, 1) := by decide +kernel
set_option maxRecDepth 100000 in
theorem d240_1469 : decode (xmb 240) 1469 = .ok (.laload, 1) := by decide +kernel
set_option maxRecDepth 100000 in
theorem d240_1470 : decode (xmb 240) 1470 = .ok (.iload 6, 2) := by decide +kernel
set_option maxRecDepth 100000 in
theorem d240_1472 : decode (xmb 240) 1472 = .ok (.i2l, 1) := by decide +kernel
set_option maxRecDepth 100000 in
theorem d240_1473 : decode (xmb 240) 1473 = .ok (.lcmp, 1) := by decide +kernel
set_option maxRecDepth 100000 in
theorem d240_1474 : decode (xmb 240) 1474 = .ok (.ifCond .eq 5, 3) := by decide +kernel
set_option maxRecDepth 100000 in
theorem d240_1477 : decode (xmb 240) 1477 = .ok (.iconst 0, 1) := by decide +kernel
set_option maxRecDepth 100000 in
theorem d240_1478 : decode (xmb 240) 1478 = .ok (.ireturn, 1) := by decide +kernel
set_option maxRecDepth 100000 in
theorem d240_1479 : decode (xmb 240) 1479 = .ok (.goto 632, 3) := by decide +kernel
set_option maxRecDepth 100000 in
theorem d240_1482 : decode (xmb 240) 1482 = .ok (.aload_n 1, 1) := by decide +kernel
set_option maxRecDepth 100000 in
theorem d240_1483 : decode (xmb 240) 1483 = .ok (.aload_n 3, 1) := by decide +kernel
set_option maxRecDepth 100000 in
theorem d240_1484 : decode (xmb 240) 1484 = .ok (.invokestatic 183, 3) := by decide +kernel
set_option maxRecDepth 100000 in
theorem d240_1487 : decode (xmb 240) 1487 = .ok (.istore 5, 2) := by decide +kernel
set_option maxRecDepth 100000 in
theorem d240_1489 : decode (xmb 240) 1489 = .ok (.aload_n 2, 1) := by decide +kernel
set_option maxRecDepth 100000 in
theorem d240_1490 : decode (xmb 240) 1490 = .ok (.invokevirtual 185, 3) := by decide +kernel
set_option maxRecDepth 100000 in
theorem d240_1493 : decode (xmb 240) 1493 = .ok (.istore 6, 2) := by decide +kernel
set_option maxRecDepth 100000 in
theorem d240_1495 : decode (xmb 240) 1495 = .ok (.aload_n 2, 1) := by decide +kernel
set_option maxRecDepth 100000 in
theorem d240_1496 : decode (xmb 240) 1496 = .ok (.invokevirtual 115, 3) := by decide +kernel
set_option maxRecDepth 100000 in
theorem d240_1499 : decode (xmb 240) 1499 = .ok (.iload 5, 2) := by decide +kernel
set_option maxRecDepth 100000 in
theorem d240_1501 : decode (xmb 240) 1501 = .ok (.if_icmp .eq 5, 3) := by decide +kernel
set_option maxRecDepth 100000 in
theorem d240_1504 : decode (xmb 240) 1504 = .ok (.iconst 0, 1) := by decide +kernel
set_option maxRecDepth 100000 in
theorem d240_1505 : decode (xmb 240) 1505 = .ok (.ireturn, 1) := by decide +kernel
set_option maxRecDepth 100000 in
theorem d240_1506 : decode (xmb 240) 1506 = .ok (.iload 5, 2) := by decide +kernel
set_option maxRecDepth 100000 in
theorem d240_1508 : decode (xmb 240) 1508 = .ok (.ifCond .ne 15, 3) := by decide +kernel
set_option maxRecDepth 100000 in
theorem d240_1511 : decode (xmb 240) 1511 = .ok (.aload_n 3, 1) := by decide +kernel
set_option maxRecDepth 100000 in
theorem d240_1512 : decode (xmb 240) 1512 = .ok (.iconst 0, 1) := by decide +kernel
set_option maxRecDepth 100000 in
theorem d240_1513 : decode (xmb 240) 1513 = .ok (.laload, 1) := by decide +kernel
set_option maxRecDepth 100000 in
theorem d240_1514 : decode (xmb 240) 1514 = .ok (.iload 6, 2) := by decide +kernel
set_option maxRecDepth 100000 in
theorem d240_1516 : decode (xmb 240) 1516 = .ok (.i2l, 1) := by decide +kernel
set_option maxRecDepth 100000 in
theorem d240_1517 : decode (xmb 240) 1517 = .ok (.lcmp, 1) := by decide +kernel
set_option maxRecDepth 100000 in
theorem d240_1518 : decode (xmb 240) 1518 = .ok (.ifCond .eq 5, 3) := by decide +kernel
set_option maxRecDepth 100000 in
theorem d240_1521 : decode (xmb 240) 1521 = .ok (.iconst 0, 1) := by decide +kernel
set_option maxRecDepth 100000 in
theorem d240_1522 : decode (xmb 240) 1522 = .ok (.ireturn, 1) := by decide +kernel
set_option maxRecDepth 100000 in
theorem d240_1523 : decode (xmb 240) 1523 = .ok (.goto 588, 3) := by decide +kernel
set_option maxRecDepth 100000 in
theorem d240_1526 : decode (xmb 240) 1526 = .ok (.aload_n 1, 1) := by decide +kernel
set_option maxRecDepth 100000 in
theorem d240_1527 : decode (xmb 240) 1527 = .ok (.aload_n 0, 1) := by decide +kernel
set_option maxRecDepth 100000 in
theorem d240_1528 : decode (xmb 240) 1528 = .ok (.iload 4, 2) := by decide +kernel
set_option maxRecDepth 100000 in
theorem d240_1530 : decode (xmb 240) 1530 = .ok (.iconst 1, 1) := by decide +kernel
set_option maxRecDepth 100000 in
theorem d240_1531 : decode (xmb 240) 1531 = .ok (.iadd, 1) := by decide +kernel
set_option maxRecDepth 100000 in
theorem d240_1532 : decode (xmb 240) 1532 = .ok (.iaload, 1) := by decide +kernel
set_option maxRecDepth 100000 in
theorem d240_1533 : decode (xmb 240) 1533 = .ok (.aload_n 0, 1) := by decide +kernel
set_option maxRecDepth 100000 in
theorem d240_1534 : decode (xmb 240) 1534 = .ok (.iload 4, 2) := by decide +kernel
set_option maxRecDepth 100000 in
theorem d240_1536 : decode (xmb 240) 1536 = .ok (.iconst 2, 1) := by decide +kernel
set_option maxRecDepth 100000 in
theorem d240_1537 : decode (xmb 240) 1537 = .ok (.iadd, 1) := by decide +kernel
set_option maxRecDepth 100000 in
theorem d240_1538 : decode (xmb 240) 1538 = .ok (.iaload, 1) := by decide +kernel
set_option maxRecDepth 100000 in
theorem d240_1539 : decode (xmb 240) 1539 = .ok (.aload_n 3, 1) := by decide +kernel
set_option maxRecDepth 100000 in
theorem d240_1540 : decode (xmb 240) 1540 = .ok (.invokestatic 186, 3) := by decide +kernel
set_option maxRecDepth 100000 in
theorem d240_1543 : decode (xmb 240) 1543 = .ok (.istore 5, 2) := by decide +kernel
set_option maxRecDepth 100000 in
theorem d240_1545 : decode (xmb 240) 1545 = .ok (.aload_n 2, 1) := by decide +kernel
set_option maxRecDepth 100000 in
theorem d240_1546 : decode (xmb 240) 1546 = .ok (.aload_n 0, 1) := by decide +kernel
set_option maxRecDepth 100000 in
theorem d240_1547 : decode (xmb 240) 1547 = .ok (.iload 4, 2) := by decide +kernel
set_option maxRecDepth 100000 in
theorem d240_1549 : decode (xmb 240) 1549 = .ok (.iconst 1, 1) := by decide +kernel
set_option maxRecDepth 100000 in
theorem d240_1550 : decode (xmb 240) 1550 = .ok (.iadd, 1) := by decide +kernel
set_option maxRecDepth 100000 in
theorem d240_1551 : decode (xmb 240) 1551 = .ok (.iaload, 1) := by decide +kernel
set_option maxRecDepth 100000 in
theorem d240_1552 : decode (xmb 240) 1552 = .ok (.aload_n 0, 1) := by decide +kernel
set_option maxRecDepth 100000 in
theorem d240_1553 : decode (xmb 240) 1553 = .ok (.iload 4, 2) := by decide +kernel
set_option maxRecDepth 100000 in
theorem d240_1555 : decode (xmb 240) 1555 = .ok (.iconst 2, 1) := by decide +kernel
set_option maxRecDepth 100000 in
theorem d240_1556 : decode (xmb 240) 1556 = .ok (.iadd, 1) := by decide +kernel
set_option maxRecDepth 100000 in
theorem d240_1557 : decode (xmb 240) 1557 = .ok (.iaload, 1) := by decide +kernel
set_option maxRecDepth 100000 in
theorem d240_1558 : decode (xmb 240) 1558 = .ok (.invokevirtual 188, 3) := by decide +kernel
set_option maxRecDepth 100000 in
theorem d240_1561 : decode (xmb 240) 1561 = .ok (.istore 6, 2) := by decide +kernel
set_option maxRecDepth 100000 in
theorem d240_1563 : decode (xmb 240) 1563 = .ok (.aload_n 2, 1) := by decide +kernel
set_option maxRecDepth 100000 in
theorem d240_1564 : decode (xmb 240) 1564 = .ok (.invokevirtual 115, 3) := by decide +kernel
set_option maxRecDepth 100000 in
theorem d240_1567 : decode (xmb 240) 1567 = .ok (.iload 5, 2) := by decide +kernel
set_option maxRecDepth 100000 in
theorem d240_1569 : decode (xmb 240) 1569 = .ok (.if_icmp .eq 5, 3) := by decide +kernel
set_option maxRecDepth 100000 in
theorem d240_1572 : decode (xmb 240) 1572 = .ok (.iconst 0, 1) := by decide +kernel
set_option maxRecDepth 100000 in
theorem d240_1573 : decode (xmb 240) 1573 = .ok (.ireturn, 1) := by decide +kernel
set_option maxRecDepth 100000 in
theorem d240_1574 : decode (xmb 240) 1574 = .ok (.iload 5, 2) := by decide +kernel
set_option maxRecDepth 100000 in
theorem d240_1576 : decode (xmb 240) 1576 = .ok (.ifCond .ne 15, 3) := by decide +kernel
set_option maxRecDepth 100000 in
theorem d240_1579 : decode (xmb 240) 1579 = .ok (.aload_n 3, 1) := by decide +kernel
set_option maxRecDepth 100000 in
theorem d240_1580 : decode (xmb 240) 1580 = .ok (.iconst 0, 1) := by decide +kernel
set_option maxRecDepth 100000 in
theorem d240_1581 : decode (xmb 240) 1581 = .ok (.laload, 1) := by decide +kernel
set_option maxRecDepth 100000 in
theorem d240_1582 : decode (xmb 240) 1582 = .ok (.iload 6, 2) := by decide +kernel
set_option maxRecDepth 100000 in
theorem d240_1584 : decode (xmb 240) 1584 = .ok (.i2l, 1) := by decide +kernel
set_option maxRecDepth 100000 in
theorem d240_1585 : decode (xmb 240) 1585 = .ok (.lcmp, 1) := by decide +kernel
set_option maxRecDepth 100000 in
theorem d240_1586 : decode (xmb 240) 1586 = .ok (.ifCond .eq 5, 3) := by decide +kernel
set_option maxRecDepth 100000 in
theorem d240_1589 : decode (xmb 240) 1589 = .ok (.iconst 0, 1) := by decide +kernel
set_option maxRecDepth 100000 in
theorem d240_1590 : decode (xmb 240) 1590 = .ok (.ireturn, 1) := by decide +kernel
set_option maxRecDepth 100000 in
theorem d240_1591 : decode (xmb 240) 1591 = .ok (.goto 520, 3) := by decide +kernel
set_option maxRecDepth 100000 in
theorem d240_1594 : decode (xmb 240) 1594 = .ok (.aload_n 1, 1) := by decide +kernel
set_option maxRecDepth 100000 in
theorem d240_1595 : decode (xmb 240) 1595 = .ok (.aload_n 0, 1) := by decide +kernel
set_option maxRecDepth 100000 in
theorem d240_1596 : decode (xmb 240) 1596 = .ok (.iload 4, 2) := by decide +kernel
set_option maxRecDepth 100000 in
theorem d240_1598 : decode (xmb 240) 1598 = .ok (.iconst 1, 1) := by decide +kernel
set_option maxRecDepth 100000 in
theorem d240_1599 : decode (xmb 240) 1599 = .ok (.iadd, 1) := by decide +kernel
set_option maxRecDepth 100000 in
theorem d240_1600 : decode (xmb 240) 1600 = .ok (.iaload, 1) := by decide +kernel
set_option maxRecDepth 100000 in
theorem d240_1601 : decode (xmb 240) 1601 = .ok (.aload_n 0, 1) := by decide +kernel
set_option maxRecDepth 100000 in
theorem d240_1602 : decode (xmb 240) 1602 = .ok (.iload 4, 2) := by decide +kernel
set_option maxRecDepth 100000 in
theorem d240_1604 : decode (xmb 240) 1604 = .ok (.iconst 2, 1) := by decide +kernel
set_option maxRecDepth 100000 in
theorem d240_1605 : decode (xmb 240) 1605 = .ok (.iadd, 1) := by decide +kernel
set_option maxRecDepth 100000 in
theorem d240_1606 : decode (xmb 240) 1606 = .ok (.iaload, 1) := by decide +kernel
set_option maxRecDepth 100000 in
theorem d240_1607 : decode (xmb 240) 1607 = .ok (.aload_n 3, 1) := by decide +kernel
set_option maxRecDepth 100000 in
theorem d240_1608 : decode (xmb 240) 1608 = .ok (.invokestatic 189, 3) := by decide +kernel
set_option maxRecDepth 100000 in
theorem d240_1611 : decode (xmb 240) 1611 = .ok (.istore 5, 2) := by decide +kernel
set_option maxRecDepth 100000 in
theorem d240_1613 : decode (xmb 240) 1613 = .ok (.aload_n 2, 1) := by decide +kernel
set_option maxRecDepth 100000 in
theorem d240_1614 : decode (xmb 240) 1614 = .ok (.aload_n 0, 1) := by decide +kernel
set_option maxRecDepth 100000 in
theorem d240_1615 : decode (xmb 240) 1615 = .ok (.iload 4, 2) := by decide +kernel
set_option maxRecDepth 100000 in
theorem d240_1617 : decode (xmb 240) 1617 = .ok (.iconst 1, 1) := by decide +kernel
set_option maxRecDepth 100000 in
theorem d240_1618 : decode (xmb 240) 1618 = .ok (.iadd, 1) := by decide +kernel
set_option maxRecDepth 100000 in
theorem d240_1619 : decode (xmb 240) 1619 = .ok (.iaload, 1) := by decide +kernel
set_option maxRecDepth 100000 in
theorem d240_1620 : decode (xmb 240) 1620 = .ok (.aload_n 0, 1) := by decide +kernel
set_option maxRecDepth 100000 in
theorem d240_1621 : decode (xmb 240) 1621 = .ok (.iload 4, 2) := by decide +kernel
set_option maxRecDepth 100000 in
theorem d240_1623 : decode (xmb 240) 1623 = .ok (.iconst 2, 1) := by decide +kernel
set_option maxRecDepth 100000 in
theorem d240_1624 : decode (xmb 240) 1624 = .ok (.iadd, 1) := by decide +kernel
set_option maxRecDepth 100000 in
theorem d240_1625 : decode (xmb 240) 1625 = .ok (.iaload, 1) := by decide +kernel
set_option maxRecDepth 100000 in
theorem d240_1626 : decode (xmb 240) 1626 = .ok (.invokevirtual 191, 3) := by decide +kernel
set_option maxRecDepth 100000 in
theorem d240_1629 : decode (xmb 240) 1629 = .ok (.istore 6, 2) := by decide +kernel
set_option maxRecDepth 100000 in
theorem d240_1631 : decode (xmb 240) 1631 = .ok (.aload_n 2, 1) := by decide +kernel
set_option maxRecDepth 100000 in
theorem d240_1632 : decode (xmb 240) 1632 = .ok (.invokevirtual 115, 3) := by decide +kernel
set_option maxRecDepth 100000 in
theorem d240_1635 : decode (xmb 240) 1635 = .ok (.iload 5, 2) := by decide +kernel
set_option maxRecDepth 100000 in
theorem d240_1637 : decode (xmb 240) 1637 = .ok (.if_icmp .eq 5, 3) := by decide +kernel
set_option maxRecDepth 100000 in
theorem d240_1640 : decode (xmb 240) 1640 = .ok (.iconst 0, 1) := by decide +kernel
set_option maxRecDepth 100000 in
theorem d240_1641 : decode (xmb 240) 1641 = .ok (.ireturn, 1) := by decide +kernel
set_option maxRecDepth 100000 in
theorem d240_1642 : decode (xmb 240) 1642 = .ok (.iload 5, 2) := by decide +kernel
set_option maxRecDepth 100000 in
theorem d240_1644 : decode (xmb 240) 1644 = .ok (.ifCond .ne 15, 3) := by decide +kernel
set_option maxRecDepth 100000 in
theorem d240_1647 : decode (xmb 240) 1647 = .ok (.aload_n 3, 1) := by decide +kernel
set_option maxRecDepth 100000 in
theorem d240_1648 : decode (xmb 240) 1648 = .ok (.iconst 0, 1) := by decide +kernel
set_option maxRecDepth 100000 in
theorem d240_1649 : decode (xmb 240) 1649 = .ok (.laload, 1) := by decide +kernel
set_option maxRecDepth 100000 in
theorem d240_1650 : decode (xmb 240) 1650 = .ok (.iload 6, 2) := by decide +kernel
set_option maxRecDepth 100000 in
theorem d240_1652 : decode (xmb 240) 1652 = .ok (.i2l, 1) := by decide +kernel
set_option maxRecDepth 100000 in
theorem d240_1653 : decode (xmb 240) 1653 = .ok (.lcmp, 1) := by decide +kernel
set_option maxRecDepth 100000 in
theorem d240_1654 : decode (xmb 240) 1654 = .ok (.ifCond .eq 5, 3) := by decide +kernel
set_option maxRecDepth 100000 in
theorem d240_1657 : decode (xmb 240) 1657 = .ok (.iconst 0, 1) := by decide +kernel
set_option maxRecDepth 100000 in
theorem d240_1658 : decode (xmb 240) 1658 = .ok (.ireturn, 1) := by decide +kernel
set_option maxRecDepth 100000 in
theorem d240_1659 : decode (xmb 240) 1659 = .ok (.goto 452, 3) := by decide +kernel
set_option maxRecDepth 100000 in
theorem d240_1662 : decode (xmb 240) 1662 = .ok (.aload_n 1, 1) := by decide +kernel
set_option maxRecDepth 100000 in
theorem d240_1663 : decode (xmb 240) 1663 = .ok (.aload_n 0, 1) := by decide +kernel
set_option maxRecDepth 100000 in
theorem d240_1664 : decode (xmb 240) 1664 = .ok (.iload 4, 2) := by decide +kernel
set_option maxRecDepth 100000 in
theorem d240_1666 : decode (xmb 240) 1666 = .ok (.iconst 1, 1) := by decide +kernel
set_option maxRecDepth 100000 in
theorem d240_1667 : decode (xmb 240) 1667 = .ok (.iadd, 1) := by decide +kernel
set_option maxRecDepth 100000 in
theorem d240_1668 : decode (xmb 240) 1668 = .ok (.iaload, 1) := by decide +kernel
set_option maxRecDepth 100000 in
theorem d240_1669 : decode (xmb 240) 1669 = .ok (.aload_n 3, 1) := by decide +kernel
set_option maxRecDepth 100000 in
theorem d240_1670 : decode (xmb 240) 1670 = .ok (.invokestatic 192, 3) := by decide +kernel
set_option maxRecDepth 100000 in
theorem d240_1673 : decode (xmb 240) 1673 = .ok (.istore 5, 2) := by decide +kernel
set_option maxRecDepth 100000 in
theorem d240_1675 : decode (xmb 240) 1675 = .ok (.aload_n 2, 1) := by decide +kernel
set_option maxRecDepth 100000 in
theorem d240_1676 : decode (xmb 240) 1676 = .ok (.aload_n 0, 1) := by decide +kernel
set_option maxRecDepth 100000 in
theorem d240_1677 : decode (xmb 240) 1677 = .ok (.iload 4, 2) := by decide +kernel
set_option maxRecDepth 100000 in
theorem d240_1679 : decode (xmb 240) 1679 = .ok (.iconst 1, 1) := by decide +kernel
set_option maxRecDepth 100000 in
theorem d240_1680 : decode (xmb 240) 1680 = .ok (.iadd, 1) := by decide +kernel
set_option maxRecDepth 100000 in
theorem d240_1681 : decode (xmb 240) 1681 = .ok (.iaload, 1) := by decide +kernel
set_option maxRecDepth 100000 in
theorem d240_1682 : decode (xmb 240) 1682 = .ok (.invokevirtual 194, 3) := by decide +kernel
set_option maxRecDepth 100000 in
theorem d240_1685 : decode (xmb 240) 1685 = .ok (.istore 6, 2) := by decide +kernel
