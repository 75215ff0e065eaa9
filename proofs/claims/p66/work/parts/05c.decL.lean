theorem dL_law_1186 : decode cL_law 1186 = .ok (.iadd, 1) := by decide +kernel
theorem dL_law_1187 : decode cL_law 1187 = .ok (.istore 8, 2) := by decide +kernel
theorem dL_law_1189 : decode cL_law 1189 = .ok (.iload 10, 2) := by decide +kernel
theorem dL_law_1191 : decode cL_law 1191 = .ok (.aload 12, 2) := by decide +kernel
theorem dL_law_1193 : decode cL_law 1193 = .ok (.iload 14, 2) := by decide +kernel
theorem dL_law_1195 : decode cL_law 1195 = .ok (.iaload, 1) := by decide +kernel
theorem dL_law_1196 : decode cL_law 1196 = .ok (.invokestatic 236, 3) := by decide +kernel
theorem dL_law_1199 : decode cL_law 1199 = .ok (.iload 14, 2) := by decide +kernel
theorem dL_law_1201 : decode cL_law 1201 = .ok (.if_icmp .ne 7, 3) := by decide +kernel
theorem dL_law_1204 : decode cL_law 1204 = .ok (.iconst 1, 1) := by decide +kernel
theorem dL_law_1205 : decode cL_law 1205 = .ok (.goto 4, 3) := by decide +kernel
theorem dL_law_1208 : decode cL_law 1208 = .ok (.iconst 0, 1) := by decide +kernel
theorem dL_law_1209 : decode cL_law 1209 = .ok (.iadd, 1) := by decide +kernel
theorem dL_law_1210 : decode cL_law 1210 = .ok (.istore 10, 2) := by decide +kernel
theorem dL_law_1212 : decode cL_law 1212 = .ok (.aload_n 1, 1) := by decide +kernel
theorem dL_law_1213 : decode cL_law 1213 = .ok (.iload 14, 2) := by decide +kernel
theorem dL_law_1215 : decode cL_law 1215 = .ok (.invokevirtual 241, 3) := by decide +kernel
theorem dL_law_1218 : decode cL_law 1218 = .ok (.aload 12, 2) := by decide +kernel
theorem dL_law_1220 : decode cL_law 1220 = .ok (.iload 14, 2) := by decide +kernel
theorem dL_law_1222 : decode cL_law 1222 = .ok (.iaload, 1) := by decide +kernel
theorem dL_law_1223 : decode cL_law 1223 = .ok (.invokestatic 244, 3) := by decide +kernel
theorem dL_law_1226 : decode cL_law 1226 = .ok (.if_icmp .ne 84, 3) := by decide +kernel
theorem dL_law_1229 : decode cL_law 1229 = .ok (.aload_n 1, 1) := by decide +kernel
theorem dL_law_1230 : decode cL_law 1230 = .ok (.iload 14, 2) := by decide +kernel
theorem dL_law_1232 : decode cL_law 1232 = .ok (.invokevirtual 247, 3) := by decide +kernel
theorem dL_law_1235 : decode cL_law 1235 = .ok (.aload 13, 2) := by decide +kernel
theorem dL_law_1237 : decode cL_law 1237 = .ok (.iload 14, 2) := by decide +kernel
theorem dL_law_1239 : decode cL_law 1239 = .ok (.iaload, 1) := by decide +kernel
theorem dL_law_1240 : decode cL_law 1240 = .ok (.if_icmp .ne 70, 3) := by decide +kernel
theorem dL_law_1243 : decode cL_law 1243 = .ok (.aload_n 1, 1) := by decide +kernel
theorem dL_law_1244 : decode cL_law 1244 = .ok (.iload 14, 2) := by decide +kernel
theorem dL_law_1246 : decode cL_law 1246 = .ok (.invokevirtual 119, 3) := by decide +kernel
theorem dL_law_1249 : decode cL_law 1249 = .ok (.ifCond .lt 61, 3) := by decide +kernel
theorem dL_law_1252 : decode cL_law 1252 = .ok (.aload_n 1, 1) := by decide +kernel
theorem dL_law_1253 : decode cL_law 1253 = .ok (.iload 14, 2) := by decide +kernel
theorem dL_law_1255 : decode cL_law 1255 = .ok (.invokevirtual 119, 3) := by decide +kernel
theorem dL_law_1258 : decode cL_law 1258 = .ok (.bipush 9, 2) := by decide +kernel
theorem dL_law_1260 : decode cL_law 1260 = .ok (.if_icmp .gt 50, 3) := by decide +kernel
theorem dL_law_1263 : decode cL_law 1263 = .ok (.aload_n 1, 1) := by decide +kernel
theorem dL_law_1264 : decode cL_law 1264 = .ok (.aload_n 1, 1) := by decide +kernel
theorem dL_law_1265 : decode cL_law 1265 = .ok (.iload 14, 2) := by decide +kernel
theorem dL_law_1267 : decode cL_law 1267 = .ok (.invokevirtual 250, 3) := by decide +kernel
theorem dL_law_1270 : decode cL_law 1270 = .ok (.new 152, 3) := by decide +kernel
theorem dL_law_1273 : decode cL_law 1273 = .ok (.dup, 1) := by decide +kernel
theorem dL_law_1274 : decode cL_law 1274 = .ok (.invokespecial 154, 3) := by decide +kernel
theorem dL_law_1277 : decode cL_law 1277 = .ok (.ldc 253, 2) := by decide +kernel
theorem dL_law_1279 : decode cL_law 1279 = .ok (.invokevirtual 161, 3) := by decide +kernel
theorem dL_law_1282 : decode cL_law 1282 = .ok (.iload 14, 2) := by decide +kernel
theorem dL_law_1284 : decode cL_law 1284 = .ok (.invokevirtual 155, 3) := by decide +kernel
theorem dL_law_1287 : decode cL_law 1287 = .ok (.ldc 255, 2) := by decide +kernel
theorem dL_law_1289 : decode cL_law 1289 = .ok (.invokevirtual 161, 3) := by decide +kernel
theorem dL_law_1292 : decode cL_law 1292 = .ok (.aload_n 1, 1) := by decide +kernel
theorem dL_law_1293 : decode cL_law 1293 = .ok (.iload 14, 2) := by decide +kernel
theorem dL_law_1295 : decode cL_law 1295 = .ok (.invokevirtual 119, 3) := by decide +kernel
theorem dL_law_1298 : decode cL_law 1298 = .ok (.invokevirtual 155, 3) := by decide +kernel
theorem dL_law_1301 : decode cL_law 1301 = .ok (.invokevirtual 179, 3) := by decide +kernel
theorem dL_law_1304 : decode cL_law 1304 = .ok (.invokestatic 228, 3) := by decide +kernel
theorem dL_law_1307 : decode cL_law 1307 = .ok (.ifCond .ne 5, 3) := by decide +kernel
theorem dL_law_1310 : decode cL_law 1310 = .ok (.iconst 0, 1) := by decide +kernel
theorem dL_law_1311 : decode cL_law 1311 = .ok (.ireturn, 1) := by decide +kernel
theorem dL_law_1312 : decode cL_law 1312 = .ok (.iconst 0, 1) := by decide +kernel
theorem dL_law_1313 : decode cL_law 1313 = .ok (.istore 15, 2) := by decide +kernel
theorem dL_law_1315 : decode cL_law 1315 = .ok (.iload 15, 2) := by decide +kernel
theorem dL_law_1317 : decode cL_law 1317 = .ok (.iload 4, 2) := by decide +kernel
theorem dL_law_1319 : decode cL_law 1319 = .ok (.if_icmp .ge 140, 3) := by decide +kernel
theorem dL_law_1322 : decode cL_law 1322 = .ok (.iconst 0, 1) := by decide +kernel
theorem dL_law_1323 : decode cL_law 1323 = .ok (.istore 16, 2) := by decide +kernel
theorem dL_law_1325 : decode cL_law 1325 = .ok (.iconst 0, 1) := by decide +kernel
theorem dL_law_1326 : decode cL_law 1326 = .ok (.istore 17, 2) := by decide +kernel
theorem dL_law_1328 : decode cL_law 1328 = .ok (.iload 17, 2) := by decide +kernel
theorem dL_law_1330 : decode cL_law 1330 = .ok (.iload_n 3, 1) := by decide +kernel
theorem dL_law_1331 : decode cL_law 1331 = .ok (.if_icmp .ge 60, 3) := by decide +kernel
theorem dL_law_1334 : decode cL_law 1334 = .ok (.aload_n 1, 1) := by decide +kernel
theorem dL_law_1335 : decode cL_law 1335 = .ok (.iload 17, 2) := by decide +kernel
theorem dL_law_1337 : decode cL_law 1337 = .ok (.iload 14, 2) := by decide +kernel
theorem dL_law_1339 : decode cL_law 1339 = .ok (.invokevirtual 209, 3) := by decide +kernel
theorem dL_law_1342 : decode cL_law 1342 = .ok (.ifCond .eq 43, 3) := by decide +kernel
theorem dL_law_1345 : decode cL_law 1345 = .ok (.aload_n 1, 1) := by decide +kernel
theorem dL_law_1346 : decode cL_law 1346 = .ok (.iload 17, 2) := by decide +kernel
theorem dL_law_1348 : decode cL_law 1348 = .ok (.iload 15, 2) := by decide +kernel
theorem dL_law_1350 : decode cL_law 1350 = .ok (.invokevirtual 209, 3) := by decide +kernel
theorem dL_law_1353 : decode cL_law 1353 = .ok (.ifCond .eq 32, 3) := by decide +kernel
theorem dL_law_1356 : decode cL_law 1356 = .ok (.iload 16, 2) := by decide +kernel
theorem dL_law_1358 : decode cL_law 1358 = .ok (.aload_n 1, 1) := by decide +kernel
theorem dL_law_1359 : decode cL_law 1359 = .ok (.iload 17, 2) := by decide +kernel
theorem dL_law_1361 : decode cL_law 1361 = .ok (.iload 14, 2) := by decide +kernel
theorem dL_law_1363 : decode cL_law 1363 = .ok (.invokevirtual 112, 3) := by decide +kernel
theorem dL_law_1366 : decode cL_law 1366 = .ok (.aload_n 1, 1) := by decide +kernel
theorem dL_law_1367 : decode cL_law 1367 = .ok (.iload 17, 2) := by decide +kernel
theorem dL_law_1369 : decode cL_law 1369 = .ok (.iload 15, 2) := by decide +kernel
theorem dL_law_1371 : decode cL_law 1371 = .ok (.invokevirtual 112, 3) := by decide +kernel
theorem dL_law_1374 : decode cL_law 1374 = .ok (.if_icmp .ne 7, 3) := by decide +kernel
theorem dL_law_1377 : decode cL_law 1377 = .ok (.iconst 1, 1) := by decide +kernel
theorem dL_law_1378 : decode cL_law 1378 = .ok (.goto 4, 3) := by decide +kernel
theorem dL_law_1381 : decode cL_law 1381 = .ok (.iconst (-1), 1) := by decide +kernel
theorem dL_law_1382 : decode cL_law 1382 = .ok (.iadd, 1) := by decide +kernel
theorem dL_law_1383 : decode cL_law 1383 = .ok (.istore 16, 2) := by decide +kernel
theorem dL_law_1385 : decode cL_law 1385 = .ok (.iinc 17 1, 3) := by decide +kernel
theorem dL_law_1388 : decode cL_law 1388 = .ok (.goto (-60), 3) := by decide +kernel
theorem dL_law_1391 : decode cL_law 1391 = .ok (.aload 12, 2) := by decide +kernel
theorem dL_law_1393 : decode cL_law 1393 = .ok (.iload 14, 2) := by decide +kernel
theorem dL_law_1395 : decode cL_law 1395 = .ok (.iaload, 1) := by decide +kernel
theorem dL_law_1396 : decode cL_law 1396 = .ok (.iload 15, 2) := by decide +kernel
theorem dL_law_1398 : decode cL_law 1398 = .ok (.ishr, 1) := by decide +kernel
theorem dL_law_1399 : decode cL_law 1399 = .ok (.iconst 1, 1) := by decide +kernel
theorem dL_law_1400 : decode cL_law 1400 = .ok (.iand, 1) := by decide +kernel
theorem dL_law_1401 : decode cL_law 1401 = .ok (.iconst 1, 1) := by decide +kernel
theorem dL_law_1402 : decode cL_law 1402 = .ok (.if_icmp .ne 7, 3) := by decide +kernel
theorem dL_law_1405 : decode cL_law 1405 = .ok (.iconst 1, 1) := by decide +kernel
theorem dL_law_1406 : decode cL_law 1406 = .ok (.goto 4, 3) := by decide +kernel
theorem dL_law_1409 : decode cL_law 1409 = .ok (.iconst 0, 1) := by decide +kernel
theorem dL_law_1410 : decode cL_law 1410 = .ok (.istore 17, 2) := by decide +kernel
theorem dL_law_1412 : decode cL_law 1412 = .ok (.aload_n 1, 1) := by decide +kernel
theorem dL_law_1413 : decode cL_law 1413 = .ok (.iload 14, 2) := by decide +kernel
theorem dL_law_1415 : decode cL_law 1415 = .ok (.iload 15, 2) := by decide +kernel
theorem dL_law_1417 : decode cL_law 1417 = .ok (.invokevirtual 257, 3) := by decide +kernel
theorem dL_law_1420 : decode cL_law 1420 = .ok (.iload 16, 2) := by decide +kernel
theorem dL_law_1422 : decode cL_law 1422 = .ok (.if_icmp .ne 29, 3) := by decide +kernel
theorem dL_law_1425 : decode cL_law 1425 = .ok (.aload_n 1, 1) := by decide +kernel
theorem dL_law_1426 : decode cL_law 1426 = .ok (.iload 14, 2) := by decide +kernel
theorem dL_law_1428 : decode cL_law 1428 = .ok (.iload 15, 2) := by decide +kernel
theorem dL_law_1430 : decode cL_law 1430 = .ok (.invokevirtual 260, 3) := by decide +kernel
theorem dL_law_1433 : decode cL_law 1433 = .ok (.iload 17, 2) := by decide +kernel
theorem dL_law_1435 : decode cL_law 1435 = .ok (.if_icmp .ne 16, 3) := by decide +kernel
theorem dL_law_1438 : decode cL_law 1438 = .ok (.aload_n 1, 1) := by decide +kernel
theorem dL_law_1439 : decode cL_law 1439 = .ok (.iload 14, 2) := by decide +kernel
theorem dL_law_1441 : decode cL_law 1441 = .ok (.iload 15, 2) := by decide +kernel
theorem dL_law_1443 : decode cL_law 1443 = .ok (.invokevirtual 263, 3) := by decide +kernel
theorem dL_law_1446 : decode cL_law 1446 = .ok (.iload 17, 2) := by decide +kernel
theorem dL_law_1448 : decode cL_law 1448 = .ok (.if_icmp .eq 5, 3) := by decide +kernel
theorem dL_law_1451 : decode cL_law 1451 = .ok (.iconst 0, 1) := by decide +kernel
theorem dL_law_1452 : decode cL_law 1452 = .ok (.ireturn, 1) := by decide +kernel
theorem dL_law_1453 : decode cL_law 1453 = .ok (.iinc 15 1, 3) := by decide +kernel
theorem dL_law_1456 : decode cL_law 1456 = .ok (.goto (-141), 3) := by decide +kernel
theorem dL_law_1459 : decode cL_law 1459 = .ok (.iinc 14 1, 3) := by decide +kernel
theorem dL_law_1462 : decode cL_law 1462 = .ok (.goto (-291), 3) := by decide +kernel
theorem dL_law_1465 : decode cL_law 1465 = .ok (.iconst 0, 1) := by decide +kernel
theorem dL_law_1466 : decode cL_law 1466 = .ok (.istore 14, 2) := by decide +kernel
theorem dL_law_1468 : decode cL_law 1468 = .ok (.iconst 0, 1) := by decide +kernel
theorem dL_law_1469 : decode cL_law 1469 = .ok (.istore 15, 2) := by decide +kernel
theorem dL_law_1471 : decode cL_law 1471 = .ok (.iload 15, 2) := by decide +kernel
theorem dL_law_1473 : decode cL_law 1473 = .ok (.bipush 6, 2) := by decide +kernel
theorem dL_law_1475 : decode cL_law 1475 = .ok (.if_icmp .ge 61, 3) := by decide +kernel
theorem dL_law_1478 : decode cL_law 1478 = .ok (.aload 11, 2) := by decide +kernel
theorem dL_law_1480 : decode cL_law 1480 = .ok (.iload 15, 2) := by decide +kernel
theorem dL_law_1482 : decode cL_law 1482 = .ok (.iaload, 1) := by decide +kernel
theorem dL_law_1483 : decode cL_law 1483 = .ok (.aload 11, 2) := by decide +kernel
theorem dL_law_1485 : decode cL_law 1485 = .ok (.iload 14, 2) := by decide +kernel
theorem dL_law_1487 : decode cL_law 1487 = .ok (.iaload, 1) := by decide +kernel
theorem dL_law_1488 : decode cL_law 1488 = .ok (.if_icmp .le 8, 3) := by decide +kernel
theorem dL_law_1491 : decode cL_law 1491 = .ok (.iload 15, 2) := by decide +kernel
theorem dL_law_1493 : decode cL_law 1493 = .ok (.goto 5, 3) := by decide +kernel
theorem dL_law_1496 : decode cL_law 1496 = .ok (.iload 14, 2) := by decide +kernel
theorem dL_law_1498 : decode cL_law 1498 = .ok (.istore 14, 2) := by decide +kernel
theorem dL_law_1500 : decode cL_law 1500 = .ok (.aload_n 1, 1) := by decide +kernel
theorem dL_law_1501 : decode cL_law 1501 = .ok (.iload 15, 2) := by decide +kernel
theorem dL_law_1503 : decode cL_law 1503 = .ok (.invokevirtual 266, 3) := by decide +kernel
theorem dL_law_1506 : decode cL_law 1506 = .ok (.aload 11, 2) := by decide +kernel
theorem dL_law_1508 : decode cL_law 1508 = .ok (.iload 15, 2) := by decide +kernel
theorem dL_law_1510 : decode cL_law 1510 = .ok (.iaload, 1) := by decide +kernel
theorem dL_law_1511 : decode cL_law 1511 = .ok (.if_icmp .ne 17, 3) := by decide +kernel
theorem dL_law_1514 : decode cL_law 1514 = .ok (.aload_n 1, 1) := by decide +kernel
theorem dL_law_1515 : decode cL_law 1515 = .ok (.iload 15, 2) := by decide +kernel
theorem dL_law_1517 : decode cL_law 1517 = .ok (.invokevirtual 269, 3) := by decide +kernel
theorem dL_law_1520 : decode cL_law 1520 = .ok (.aload 11, 2) := by decide +kernel
theorem dL_law_1522 : decode cL_law 1522 = .ok (.iload 15, 2) := by decide +kernel
theorem dL_law_1524 : decode cL_law 1524 = .ok (.iaload, 1) := by decide +kernel
theorem dL_law_1525 : decode cL_law 1525 = .ok (.if_icmp .eq 5, 3) := by decide +kernel
theorem dL_law_1528 : decode cL_law 1528 = .ok (.iconst 0, 1) := by decide +kernel
theorem dL_law_1529 : decode cL_law 1529 = .ok (.ireturn, 1) := by decide +kernel
theorem dL_law_1530 : decode cL_law 1530 = .ok (.iinc 15 1, 3) := by decide +kernel
theorem dL_law_1533 : decode cL_law 1533 = .ok (.goto (-62), 3) := by decide +kernel
theorem dL_law_1536 : decode cL_law 1536 = .ok (.aload_n 1, 1) := by decide +kernel
theorem dL_law_1537 : decode cL_law 1537 = .ok (.invokevirtual 272, 3) := by decide +kernel
theorem dL_law_1540 : decode cL_law 1540 = .ok (.iload 14, 2) := by decide +kernel
theorem dL_law_1542 : decode cL_law 1542 = .ok (.if_icmp .ne 128, 3) := by decide +kernel
theorem dL_law_1545 : decode cL_law 1545 = .ok (.aload_n 1, 1) := by decide +kernel
theorem dL_law_1546 : decode cL_law 1546 = .ok (.invokevirtual 275, 3) := by decide +kernel
theorem dL_law_1549 : decode cL_law 1549 = .ok (.iload 10, 2) := by decide +kernel
theorem dL_law_1551 : decode cL_law 1551 = .ok (.if_icmp .ne 119, 3) := by decide +kernel
theorem dL_law_1554 : decode cL_law 1554 = .ok (.aload_n 1, 1) := by decide +kernel
theorem dL_law_1555 : decode cL_law 1555 = .ok (.invokestatic 278, 3) := by decide +kernel
theorem dL_law_1558 : decode cL_law 1558 = .ok (.iload 9, 2) := by decide +kernel
theorem dL_law_1560 : decode cL_law 1560 = .ok (.if_icmp .ne 110, 3) := by decide +kernel
theorem dL_law_1563 : decode cL_law 1563 = .ok (.aload_n 1, 1) := by decide +kernel
theorem dL_law_1564 : decode cL_law 1564 = .ok (.invokevirtual 106, 3) := by decide +kernel
theorem dL_law_1567 : decode cL_law 1567 = .ok (.iload 5, 2) := by decide +kernel
theorem dL_law_1569 : decode cL_law 1569 = .ok (.if_icmp .ne 101, 3) := by decide +kernel
theorem dL_law_1572 : decode cL_law 1572 = .ok (.aload_n 1, 1) := by decide +kernel
theorem dL_law_1573 : decode cL_law 1573 = .ok (.iload 5, 2) := by decide +kernel
theorem dL_law_1575 : decode cL_law 1575 = .ok (.invokestatic 281, 3) := by decide +kernel
theorem dL_law_1578 : decode cL_law 1578 = .ok (.sipush (-30000), 3) := by decide +kernel
theorem dL_law_1581 : decode cL_law 1581 = .ok (.if_icmp .ne 89, 3) := by decide +kernel
theorem dL_law_1584 : decode cL_law 1584 = .ok (.aload_n 1, 1) := by decide +kernel
theorem dL_law_1585 : decode cL_law 1585 = .ok (.invokevirtual 283, 3) := by decide +kernel
theorem dL_law_1588 : decode cL_law 1588 = .ok (.iload 6, 2) := by decide +kernel
theorem dL_law_1590 : decode cL_law 1590 = .ok (.if_icmp .ne 80, 3) := by decide +kernel
theorem dL_law_1593 : decode cL_law 1593 = .ok (.aload_n 1, 1) := by decide +kernel
theorem dL_law_1594 : decode cL_law 1594 = .ok (.invokevirtual 286, 3) := by decide +kernel
theorem dL_law_1597 : decode cL_law 1597 = .ok (.iload 7, 2) := by decide +kernel
theorem dL_law_1599 : decode cL_law 1599 = .ok (.if_icmp .ne 71, 3) := by decide +kernel
theorem dL_law_1602 : decode cL_law 1602 = .ok (.aload_n 1, 1) := by decide +kernel
theorem dL_law_1603 : decode cL_law 1603 = .ok (.invokevirtual 289, 3) := by decide +kernel
theorem dL_law_1606 : decode cL_law 1606 = .ok (.iload_n 3, 1) := by decide +kernel
theorem dL_law_1607 : decode cL_law 1607 = .ok (.iload 5, 2) := by decide +kernel
theorem dL_law_1609 : decode cL_law 1609 = .ok (.isub, 1) := by decide +kernel
theorem dL_law_1610 : decode cL_law 1610 = .ok (.if_icmp .lt 60, 3) := by decide +kernel
theorem dL_law_1613 : decode cL_law 1613 = .ok (.iload 5, 2) := by decide +kernel
theorem dL_law_1615 : decode cL_law 1615 = .ok (.iload_n 3, 1) := by decide +kernel
theorem dL_law_1616 : decode cL_law 1616 = .ok (.if_icmp .ge 20, 3) := by decide +kernel
theorem dL_law_1619 : decode cL_law 1619 = .ok (.aload_n 1, 1) := by decide +kernel
theorem dL_law_1620 : decode cL_law 1620 = .ok (.invokevirtual 292, 3) := by decide +kernel
theorem dL_law_1623 : decode cL_law 1623 = .ok (.iload 7, 2) := by decide +kernel
theorem dL_law_1625 : decode cL_law 1625 = .ok (.i2f, 1) := by decide +kernel
theorem dL_law_1626 : decode cL_law 1626 = .ok (.iload_n 3, 1) := by decide +kernel
theorem dL_law_1627 : decode cL_law 1627 = .ok (.iload 5, 2) := by decide +kernel
theorem dL_law_1629 : decode cL_law 1629 = .ok (.isub, 1) := by decide +kernel
theorem dL_law_1630 : decode cL_law 1630 = .ok (.i2f, 1) := by decide +kernel
theorem dL_law_1631 : decode cL_law 1631 = .ok (.fdiv, 1) := by decide +kernel
theorem dL_law_1632 : decode cL_law 1632 = .ok (.fcmp .l, 1) := by decide +kernel
theorem dL_law_1633 : decode cL_law 1633 = .ok (.ifCond .ne 37, 3) := by decide +kernel
theorem dL_law_1636 : decode cL_law 1636 = .ok (.aload_n 1, 1) := by decide +kernel
theorem dL_law_1637 : decode cL_law 1637 = .ok (.invokevirtual 296, 3) := by decide +kernel
theorem dL_law_1640 : decode cL_law 1640 = .ok (.iload 8, 2) := by decide +kernel
theorem dL_law_1642 : decode cL_law 1642 = .ok (.i2d, 1) := by decide +kernel
theorem dL_law_1643 : decode cL_law 1643 = .ok (.iload 4, 2) := by decide +kernel
theorem dL_law_1645 : decode cL_law 1645 = .ok (.i2d, 1) := by decide +kernel
theorem dL_law_1646 : decode cL_law 1646 = .ok (.ddiv, 1) := by decide +kernel
theorem dL_law_1647 : decode cL_law 1647 = .ok (.dcmp .l, 1) := by decide +kernel
theorem dL_law_1648 : decode cL_law 1648 = .ok (.ifCond .ne 22, 3) := by decide +kernel
theorem dL_law_1651 : decode cL_law 1651 = .ok (.aload_n 1, 1) := by decide +kernel
theorem dL_law_1652 : decode cL_law 1652 = .ok (.invokevirtual 300, 3) := by decide +kernel
theorem dL_law_1655 : decode cL_law 1655 = .ok (.ifCond .eq 15, 3) := by decide +kernel
theorem dL_law_1658 : decode cL_law 1658 = .ok (.aload_n 1, 1) := by decide +kernel
theorem dL_law_1659 : decode cL_law 1659 = .ok (.iload 4, 2) := by decide +kernel
theorem dL_law_1661 : decode cL_law 1661 = .ok (.invokestatic 304, 3) := by decide +kernel
theorem dL_law_1664 : decode cL_law 1664 = .ok (.sipush (-30000), 3) := by decide +kernel
theorem dL_law_1667 : decode cL_law 1667 = .ok (.if_icmp .eq 5, 3) := by decide +kernel
theorem dL_law_1670 : decode cL_law 1670 = .ok (.iconst 0, 1) := by decide +kernel
theorem dL_law_1671 : decode cL_law 1671 = .ok (.ireturn, 1) := by decide +kernel
theorem dL_law_1672 : decode cL_law 1672 = .ok (.iconst 1, 1) := by decide +kernel
theorem dL_law_1673 : decode cL_law 1673 = .ok (.istore 15, 2) := by decide +kernel
theorem dL_law_1675 : decode cL_law 1675 = .ok (.iload 15, 2) := by decide +kernel
theorem dL_law_1677 : decode cL_law 1677 = .ok (.iload 4, 2) := by decide +kernel
theorem dL_law_1679 : decode cL_law 1679 = .ok (.if_icmp .ge 84, 3) := by decide +kernel
theorem dL_law_1682 : decode cL_law 1682 = .ok (.aload_n 1, 1) := by decide +kernel
theorem dL_law_1683 : decode cL_law 1683 = .ok (.iload 15, 2) := by decide +kernel
theorem dL_law_1685 : decode cL_law 1685 = .ok (.iconst 1, 1) := by decide +kernel
theorem dL_law_1686 : decode cL_law 1686 = .ok (.isub, 1) := by decide +kernel
theorem dL_law_1687 : decode cL_law 1687 = .ok (.invokevirtual 48, 3) := by decide +kernel
theorem dL_law_1690 : decode cL_law 1690 = .ok (.istore 16, 2) := by decide +kernel
theorem dL_law_1692 : decode cL_law 1692 = .ok (.aload_n 1, 1) := by decide +kernel
theorem dL_law_1693 : decode cL_law 1693 = .ok (.iload 15, 2) := by decide +kernel
theorem dL_law_1695 : decode cL_law 1695 = .ok (.invokevirtual 48, 3) := by decide +kernel
theorem dL_law_1698 : decode cL_law 1698 = .ok (.istore 17, 2) := by decide +kernel
theorem dL_law_1700 : decode cL_law 1700 = .ok (.aload_n 1, 1) := by decide +kernel
theorem dL_law_1701 : decode cL_law 1701 = .ok (.iload 16, 2) := by decide +kernel
theorem dL_law_1703 : decode cL_law 1703 = .ok (.invokevirtual 119, 3) := by decide +kernel
theorem dL_law_1706 : decode cL_law 1706 = .ok (.aload_n 1, 1) := by decide +kernel
theorem dL_law_1707 : decode cL_law 1707 = .ok (.iload 17, 2) := by decide +kernel
theorem dL_law_1709 : decode cL_law 1709 = .ok (.invokevirtual 119, 3) := by decide +kernel
theorem dL_law_1712 : decode cL_law 1712 = .ok (.isub, 1) := by decide +kernel
theorem dL_law_1713 : decode cL_law 1713 = .ok (.istore 18, 2) := by decide +kernel
theorem dL_law_1715 : decode cL_law 1715 = .ok (.aload 13, 2) := by decide +kernel
theorem dL_law_1717 : decode cL_law 1717 = .ok (.iload 16, 2) := by decide +kernel
theorem dL_law_1719 : decode cL_law 1719 = .ok (.iaload, 1) := by decide +kernel
theorem dL_law_1720 : decode cL_law 1720 = .ok (.aload 13, 2) := by decide +kernel
theorem dL_law_1722 : decode cL_law 1722 = .ok (.iload 17, 2) := by decide +kernel
theorem dL_law_1724 : decode cL_law 1724 = .ok (.iaload, 1) := by decide +kernel
theorem dL_law_1725 : decode cL_law 1725 = .ok (.isub, 1) := by decide +kernel
theorem dL_law_1726 : decode cL_law 1726 = .ok (.istore 19, 2) := by decide +kernel
theorem dL_law_1728 : decode cL_law 1728 = .ok (.iload 18, 2) := by decide +kernel
theorem dL_law_1730 : decode cL_law 1730 = .ok (.ifCond .lt 25, 3) := by decide +kernel
theorem dL_law_1733 : decode cL_law 1733 = .ok (.iload 18, 2) := by decide +kernel
theorem dL_law_1735 : decode cL_law 1735 = .ok (.ifCond .ne 22, 3) := by decide +kernel
theorem dL_law_1738 : decode cL_law 1738 = .ok (.iload 19, 2) := by decide +kernel
theorem dL_law_1740 : decode cL_law 1740 = .ok (.ifCond .lt 15, 3) := by decide +kernel
theorem dL_law_1743 : decode cL_law 1743 = .ok (.iload 19, 2) := by decide +kernel
theorem dL_law_1745 : decode cL_law 1745 = .ok (.ifCond .ne 12, 3) := by decide +kernel
theorem dL_law_1748 : decode cL_law 1748 = .ok (.iload 16, 2) := by decide +kernel
theorem dL_law_1750 : decode cL_law 1750 = .ok (.iload 17, 2) := by decide +kernel
theorem dL_law_1752 : decode cL_law 1752 = .ok (.if_icmp .le 5, 3) := by decide +kernel
theorem dL_law_1755 : decode cL_law 1755 = .ok (.iconst 0, 1) := by decide +kernel
theorem dL_law_1756 : decode cL_law 1756 = .ok (.ireturn, 1) := by decide +kernel
theorem dL_law_1757 : decode cL_law 1757 = .ok (.iinc 15 1, 3) := by decide +kernel
theorem dL_law_1760 : decode cL_law 1760 = .ok (.goto (-85), 3) := by decide +kernel
theorem dL_law_1763 : decode cL_law 1763 = .ok (.aload_n 1, 1) := by decide +kernel
theorem dL_law_1764 : decode cL_law 1764 = .ok (.aload_n 0, 1) := by decide +kernel
theorem dL_law_1765 : decode cL_law 1765 = .ok (.bipush 100, 2) := by decide +kernel
theorem dL_law_1767 : decode cL_law 1767 = .ok (.iconst 4, 1) := by decide +kernel
theorem dL_law_1768 : decode cL_law 1768 = .ok (.iload_n 2, 1) := by decide +kernel
theorem dL_law_1769 : decode cL_law 1769 = .ok (.imul, 1) := by decide +kernel
theorem dL_law_1770 : decode cL_law 1770 = .ok (.iadd, 1) := by decide +kernel
theorem dL_law_1771 : decode cL_law 1771 = .ok (.invokestatic 84, 3) := by decide +kernel
theorem dL_law_1774 : decode cL_law 1774 = .ok (.iinc 2 1, 3) := by decide +kernel
theorem dL_law_1777 : decode cL_law 1777 = .ok (.goto (-1762), 3) := by decide +kernel
theorem dL_law_1780 : decode cL_law 1780 = .ok (.iconst 1, 1) := by decide +kernel
theorem dL_law_1781 : decode cL_law 1781 = .ok (.ireturn, 1) := by decide +kernel
