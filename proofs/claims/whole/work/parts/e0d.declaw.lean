/-! THE LAW: its decode rows, 4 -/
theorem dL_law_1263 : decode code 1263 = .ok (.iconst 1, 1) := by decide +kernel
theorem dL_law_1264 : decode code 1264 = .ok (.iadd, 1) := by decide +kernel
theorem dL_law_1265 : decode code 1265 = .ok (.iaload, 1) := by decide +kernel
theorem dL_law_1266 : decode code 1266 = .ok (.aload_n 0, 1) := by decide +kernel
theorem dL_law_1267 : decode code 1267 = .ok (.iload_n 3, 1) := by decide +kernel
theorem dL_law_1268 : decode code 1268 = .ok (.iconst 2, 1) := by decide +kernel
theorem dL_law_1269 : decode code 1269 = .ok (.iadd, 1) := by decide +kernel
theorem dL_law_1270 : decode code 1270 = .ok (.iaload, 1) := by decide +kernel
theorem dL_law_1271 : decode code 1271 = .ok (.invokevirtual 116, 3) := by decide +kernel
theorem dL_law_1274 : decode code 1274 = .ok (.aload_n 2, 1) := by decide +kernel
theorem dL_law_1275 : decode code 1275 = .ok (.aload_n 0, 1) := by decide +kernel
theorem dL_law_1276 : decode code 1276 = .ok (.iload_n 3, 1) := by decide +kernel
theorem dL_law_1277 : decode code 1277 = .ok (.iconst 1, 1) := by decide +kernel
theorem dL_law_1278 : decode code 1278 = .ok (.iadd, 1) := by decide +kernel
theorem dL_law_1279 : decode code 1279 = .ok (.iaload, 1) := by decide +kernel
theorem dL_law_1280 : decode code 1280 = .ok (.aload_n 0, 1) := by decide +kernel
theorem dL_law_1281 : decode code 1281 = .ok (.iload_n 3, 1) := by decide +kernel
theorem dL_law_1282 : decode code 1282 = .ok (.iconst 2, 1) := by decide +kernel
theorem dL_law_1283 : decode code 1283 = .ok (.iadd, 1) := by decide +kernel
theorem dL_law_1284 : decode code 1284 = .ok (.iaload, 1) := by decide +kernel
theorem dL_law_1285 : decode code 1285 = .ok (.invokevirtual 119, 3) := by decide +kernel
theorem dL_law_1288 : decode code 1288 = .ok (.if_icmp .eq 1053, 3) := by decide +kernel
theorem dL_law_1291 : decode code 1291 = .ok (.iconst 0, 1) := by decide +kernel
theorem dL_law_1292 : decode code 1292 = .ok (.ireturn, 1) := by decide +kernel
theorem dL_law_1293 : decode code 1293 = .ok (.aload_n 1, 1) := by decide +kernel
theorem dL_law_1294 : decode code 1294 = .ok (.aload_n 0, 1) := by decide +kernel
theorem dL_law_1295 : decode code 1295 = .ok (.iload_n 3, 1) := by decide +kernel
theorem dL_law_1296 : decode code 1296 = .ok (.iconst 1, 1) := by decide +kernel
theorem dL_law_1297 : decode code 1297 = .ok (.iadd, 1) := by decide +kernel
theorem dL_law_1298 : decode code 1298 = .ok (.iaload, 1) := by decide +kernel
theorem dL_law_1299 : decode code 1299 = .ok (.aload_n 0, 1) := by decide +kernel
theorem dL_law_1300 : decode code 1300 = .ok (.iload_n 3, 1) := by decide +kernel
theorem dL_law_1301 : decode code 1301 = .ok (.iconst 2, 1) := by decide +kernel
theorem dL_law_1302 : decode code 1302 = .ok (.iadd, 1) := by decide +kernel
theorem dL_law_1303 : decode code 1303 = .ok (.iaload, 1) := by decide +kernel
theorem dL_law_1304 : decode code 1304 = .ok (.aload_n 0, 1) := by decide +kernel
theorem dL_law_1305 : decode code 1305 = .ok (.iload_n 3, 1) := by decide +kernel
theorem dL_law_1306 : decode code 1306 = .ok (.iconst 3, 1) := by decide +kernel
theorem dL_law_1307 : decode code 1307 = .ok (.iadd, 1) := by decide +kernel
theorem dL_law_1308 : decode code 1308 = .ok (.iaload, 1) := by decide +kernel
theorem dL_law_1309 : decode code 1309 = .ok (.aload_n 0, 1) := by decide +kernel
theorem dL_law_1310 : decode code 1310 = .ok (.iload_n 3, 1) := by decide +kernel
theorem dL_law_1311 : decode code 1311 = .ok (.iconst 4, 1) := by decide +kernel
theorem dL_law_1312 : decode code 1312 = .ok (.iadd, 1) := by decide +kernel
theorem dL_law_1313 : decode code 1313 = .ok (.iaload, 1) := by decide +kernel
theorem dL_law_1314 : decode code 1314 = .ok (.invokevirtual 120, 3) := by decide +kernel
theorem dL_law_1317 : decode code 1317 = .ok (.aload_n 2, 1) := by decide +kernel
theorem dL_law_1318 : decode code 1318 = .ok (.aload_n 0, 1) := by decide +kernel
theorem dL_law_1319 : decode code 1319 = .ok (.iload_n 3, 1) := by decide +kernel
theorem dL_law_1320 : decode code 1320 = .ok (.iconst 1, 1) := by decide +kernel
theorem dL_law_1321 : decode code 1321 = .ok (.iadd, 1) := by decide +kernel
theorem dL_law_1322 : decode code 1322 = .ok (.iaload, 1) := by decide +kernel
theorem dL_law_1323 : decode code 1323 = .ok (.aload_n 0, 1) := by decide +kernel
theorem dL_law_1324 : decode code 1324 = .ok (.iload_n 3, 1) := by decide +kernel
theorem dL_law_1325 : decode code 1325 = .ok (.iconst 2, 1) := by decide +kernel
theorem dL_law_1326 : decode code 1326 = .ok (.iadd, 1) := by decide +kernel
theorem dL_law_1327 : decode code 1327 = .ok (.iaload, 1) := by decide +kernel
theorem dL_law_1328 : decode code 1328 = .ok (.aload_n 0, 1) := by decide +kernel
theorem dL_law_1329 : decode code 1329 = .ok (.iload_n 3, 1) := by decide +kernel
theorem dL_law_1330 : decode code 1330 = .ok (.iconst 3, 1) := by decide +kernel
theorem dL_law_1331 : decode code 1331 = .ok (.iadd, 1) := by decide +kernel
theorem dL_law_1332 : decode code 1332 = .ok (.iaload, 1) := by decide +kernel
theorem dL_law_1333 : decode code 1333 = .ok (.aload_n 0, 1) := by decide +kernel
theorem dL_law_1334 : decode code 1334 = .ok (.iload_n 3, 1) := by decide +kernel
theorem dL_law_1335 : decode code 1335 = .ok (.iconst 4, 1) := by decide +kernel
theorem dL_law_1336 : decode code 1336 = .ok (.iadd, 1) := by decide +kernel
theorem dL_law_1337 : decode code 1337 = .ok (.iaload, 1) := by decide +kernel
theorem dL_law_1338 : decode code 1338 = .ok (.invokevirtual 123, 3) := by decide +kernel
theorem dL_law_1341 : decode code 1341 = .ok (.if_icmp .eq 1000, 3) := by decide +kernel
theorem dL_law_1344 : decode code 1344 = .ok (.iconst 0, 1) := by decide +kernel
theorem dL_law_1345 : decode code 1345 = .ok (.ireturn, 1) := by decide +kernel
theorem dL_law_1346 : decode code 1346 = .ok (.aload_n 1, 1) := by decide +kernel
theorem dL_law_1347 : decode code 1347 = .ok (.aload_n 0, 1) := by decide +kernel
theorem dL_law_1348 : decode code 1348 = .ok (.iload_n 3, 1) := by decide +kernel
theorem dL_law_1349 : decode code 1349 = .ok (.iconst 1, 1) := by decide +kernel
theorem dL_law_1350 : decode code 1350 = .ok (.iadd, 1) := by decide +kernel
theorem dL_law_1351 : decode code 1351 = .ok (.iaload, 1) := by decide +kernel
theorem dL_law_1352 : decode code 1352 = .ok (.invokevirtual 124, 3) := by decide +kernel
theorem dL_law_1355 : decode code 1355 = .ok (.aload_n 2, 1) := by decide +kernel
theorem dL_law_1356 : decode code 1356 = .ok (.aload_n 0, 1) := by decide +kernel
theorem dL_law_1357 : decode code 1357 = .ok (.iload_n 3, 1) := by decide +kernel
theorem dL_law_1358 : decode code 1358 = .ok (.iconst 1, 1) := by decide +kernel
theorem dL_law_1359 : decode code 1359 = .ok (.iadd, 1) := by decide +kernel
theorem dL_law_1360 : decode code 1360 = .ok (.iaload, 1) := by decide +kernel
theorem dL_law_1361 : decode code 1361 = .ok (.invokevirtual 127, 3) := by decide +kernel
theorem dL_law_1364 : decode code 1364 = .ok (.if_icmp .eq 977, 3) := by decide +kernel
theorem dL_law_1367 : decode code 1367 = .ok (.iconst 0, 1) := by decide +kernel
theorem dL_law_1368 : decode code 1368 = .ok (.ireturn, 1) := by decide +kernel
theorem dL_law_1369 : decode code 1369 = .ok (.aload_n 1, 1) := by decide +kernel
theorem dL_law_1370 : decode code 1370 = .ok (.aload_n 0, 1) := by decide +kernel
theorem dL_law_1371 : decode code 1371 = .ok (.iload_n 3, 1) := by decide +kernel
theorem dL_law_1372 : decode code 1372 = .ok (.iconst 1, 1) := by decide +kernel
theorem dL_law_1373 : decode code 1373 = .ok (.iadd, 1) := by decide +kernel
theorem dL_law_1374 : decode code 1374 = .ok (.iaload, 1) := by decide +kernel
theorem dL_law_1375 : decode code 1375 = .ok (.invokevirtual 128, 3) := by decide +kernel
theorem dL_law_1378 : decode code 1378 = .ok (.aload_n 2, 1) := by decide +kernel
theorem dL_law_1379 : decode code 1379 = .ok (.aload_n 0, 1) := by decide +kernel
theorem dL_law_1380 : decode code 1380 = .ok (.iload_n 3, 1) := by decide +kernel
theorem dL_law_1381 : decode code 1381 = .ok (.iconst 1, 1) := by decide +kernel
theorem dL_law_1382 : decode code 1382 = .ok (.iadd, 1) := by decide +kernel
theorem dL_law_1383 : decode code 1383 = .ok (.iaload, 1) := by decide +kernel
theorem dL_law_1384 : decode code 1384 = .ok (.invokevirtual 131, 3) := by decide +kernel
theorem dL_law_1387 : decode code 1387 = .ok (.if_icmp .eq 954, 3) := by decide +kernel
theorem dL_law_1390 : decode code 1390 = .ok (.iconst 0, 1) := by decide +kernel
theorem dL_law_1391 : decode code 1391 = .ok (.ireturn, 1) := by decide +kernel
theorem dL_law_1392 : decode code 1392 = .ok (.aload_n 1, 1) := by decide +kernel
theorem dL_law_1393 : decode code 1393 = .ok (.aload_n 0, 1) := by decide +kernel
theorem dL_law_1394 : decode code 1394 = .ok (.iload_n 3, 1) := by decide +kernel
theorem dL_law_1395 : decode code 1395 = .ok (.iconst 1, 1) := by decide +kernel
theorem dL_law_1396 : decode code 1396 = .ok (.iadd, 1) := by decide +kernel
theorem dL_law_1397 : decode code 1397 = .ok (.iaload, 1) := by decide +kernel
theorem dL_law_1398 : decode code 1398 = .ok (.invokevirtual 132, 3) := by decide +kernel
theorem dL_law_1401 : decode code 1401 = .ok (.aload_n 2, 1) := by decide +kernel
theorem dL_law_1402 : decode code 1402 = .ok (.aload_n 0, 1) := by decide +kernel
theorem dL_law_1403 : decode code 1403 = .ok (.iload_n 3, 1) := by decide +kernel
theorem dL_law_1404 : decode code 1404 = .ok (.iconst 1, 1) := by decide +kernel
theorem dL_law_1405 : decode code 1405 = .ok (.iadd, 1) := by decide +kernel
theorem dL_law_1406 : decode code 1406 = .ok (.iaload, 1) := by decide +kernel
theorem dL_law_1407 : decode code 1407 = .ok (.invokevirtual 135, 3) := by decide +kernel
theorem dL_law_1410 : decode code 1410 = .ok (.if_icmp .eq 931, 3) := by decide +kernel
theorem dL_law_1413 : decode code 1413 = .ok (.iconst 0, 1) := by decide +kernel
theorem dL_law_1414 : decode code 1414 = .ok (.ireturn, 1) := by decide +kernel
theorem dL_law_1415 : decode code 1415 = .ok (.aload_n 1, 1) := by decide +kernel
theorem dL_law_1416 : decode code 1416 = .ok (.aload_n 0, 1) := by decide +kernel
theorem dL_law_1417 : decode code 1417 = .ok (.iload_n 3, 1) := by decide +kernel
theorem dL_law_1418 : decode code 1418 = .ok (.iconst 1, 1) := by decide +kernel
theorem dL_law_1419 : decode code 1419 = .ok (.iadd, 1) := by decide +kernel
theorem dL_law_1420 : decode code 1420 = .ok (.iaload, 1) := by decide +kernel
theorem dL_law_1421 : decode code 1421 = .ok (.aload_n 0, 1) := by decide +kernel
theorem dL_law_1422 : decode code 1422 = .ok (.iload_n 3, 1) := by decide +kernel
theorem dL_law_1423 : decode code 1423 = .ok (.iconst 2, 1) := by decide +kernel
theorem dL_law_1424 : decode code 1424 = .ok (.iadd, 1) := by decide +kernel
theorem dL_law_1425 : decode code 1425 = .ok (.iaload, 1) := by decide +kernel
theorem dL_law_1426 : decode code 1426 = .ok (.invokevirtual 136, 3) := by decide +kernel
theorem dL_law_1429 : decode code 1429 = .ok (.aload_n 2, 1) := by decide +kernel
theorem dL_law_1430 : decode code 1430 = .ok (.aload_n 0, 1) := by decide +kernel
theorem dL_law_1431 : decode code 1431 = .ok (.iload_n 3, 1) := by decide +kernel
theorem dL_law_1432 : decode code 1432 = .ok (.iconst 1, 1) := by decide +kernel
theorem dL_law_1433 : decode code 1433 = .ok (.iadd, 1) := by decide +kernel
theorem dL_law_1434 : decode code 1434 = .ok (.iaload, 1) := by decide +kernel
theorem dL_law_1435 : decode code 1435 = .ok (.aload_n 0, 1) := by decide +kernel
theorem dL_law_1436 : decode code 1436 = .ok (.iload_n 3, 1) := by decide +kernel
theorem dL_law_1437 : decode code 1437 = .ok (.iconst 2, 1) := by decide +kernel
theorem dL_law_1438 : decode code 1438 = .ok (.iadd, 1) := by decide +kernel
theorem dL_law_1439 : decode code 1439 = .ok (.iaload, 1) := by decide +kernel
theorem dL_law_1440 : decode code 1440 = .ok (.invokevirtual 139, 3) := by decide +kernel
theorem dL_law_1443 : decode code 1443 = .ok (.if_icmp .eq 898, 3) := by decide +kernel
theorem dL_law_1446 : decode code 1446 = .ok (.iconst 0, 1) := by decide +kernel
theorem dL_law_1447 : decode code 1447 = .ok (.ireturn, 1) := by decide +kernel
theorem dL_law_1448 : decode code 1448 = .ok (.aload_n 1, 1) := by decide +kernel
theorem dL_law_1449 : decode code 1449 = .ok (.aload_n 0, 1) := by decide +kernel
theorem dL_law_1450 : decode code 1450 = .ok (.iload_n 3, 1) := by decide +kernel
theorem dL_law_1451 : decode code 1451 = .ok (.iconst 1, 1) := by decide +kernel
theorem dL_law_1452 : decode code 1452 = .ok (.iadd, 1) := by decide +kernel
theorem dL_law_1453 : decode code 1453 = .ok (.iaload, 1) := by decide +kernel
theorem dL_law_1454 : decode code 1454 = .ok (.invokevirtual 140, 3) := by decide +kernel
theorem dL_law_1457 : decode code 1457 = .ok (.aload_n 2, 1) := by decide +kernel
theorem dL_law_1458 : decode code 1458 = .ok (.aload_n 0, 1) := by decide +kernel
theorem dL_law_1459 : decode code 1459 = .ok (.iload_n 3, 1) := by decide +kernel
theorem dL_law_1460 : decode code 1460 = .ok (.iconst 1, 1) := by decide +kernel
theorem dL_law_1461 : decode code 1461 = .ok (.iadd, 1) := by decide +kernel
theorem dL_law_1462 : decode code 1462 = .ok (.iaload, 1) := by decide +kernel
theorem dL_law_1463 : decode code 1463 = .ok (.invokevirtual 143, 3) := by decide +kernel
theorem dL_law_1466 : decode code 1466 = .ok (.if_icmp .eq 875, 3) := by decide +kernel
theorem dL_law_1469 : decode code 1469 = .ok (.iconst 0, 1) := by decide +kernel
theorem dL_law_1470 : decode code 1470 = .ok (.ireturn, 1) := by decide +kernel
theorem dL_law_1471 : decode code 1471 = .ok (.aload_n 1, 1) := by decide +kernel
theorem dL_law_1472 : decode code 1472 = .ok (.aload_n 0, 1) := by decide +kernel
theorem dL_law_1473 : decode code 1473 = .ok (.iload_n 3, 1) := by decide +kernel
theorem dL_law_1474 : decode code 1474 = .ok (.iconst 1, 1) := by decide +kernel
theorem dL_law_1475 : decode code 1475 = .ok (.iadd, 1) := by decide +kernel
theorem dL_law_1476 : decode code 1476 = .ok (.iaload, 1) := by decide +kernel
theorem dL_law_1477 : decode code 1477 = .ok (.aload_n 0, 1) := by decide +kernel
theorem dL_law_1478 : decode code 1478 = .ok (.iload_n 3, 1) := by decide +kernel
theorem dL_law_1479 : decode code 1479 = .ok (.iconst 2, 1) := by decide +kernel
theorem dL_law_1480 : decode code 1480 = .ok (.iadd, 1) := by decide +kernel
theorem dL_law_1481 : decode code 1481 = .ok (.iaload, 1) := by decide +kernel
theorem dL_law_1482 : decode code 1482 = .ok (.aload_n 0, 1) := by decide +kernel
theorem dL_law_1483 : decode code 1483 = .ok (.iload_n 3, 1) := by decide +kernel
theorem dL_law_1484 : decode code 1484 = .ok (.iconst 3, 1) := by decide +kernel
theorem dL_law_1485 : decode code 1485 = .ok (.iadd, 1) := by decide +kernel
theorem dL_law_1486 : decode code 1486 = .ok (.iaload, 1) := by decide +kernel
theorem dL_law_1487 : decode code 1487 = .ok (.invokevirtual 144, 3) := by decide +kernel
theorem dL_law_1490 : decode code 1490 = .ok (.aload_n 2, 1) := by decide +kernel
theorem dL_law_1491 : decode code 1491 = .ok (.aload_n 0, 1) := by decide +kernel
theorem dL_law_1492 : decode code 1492 = .ok (.iload_n 3, 1) := by decide +kernel
theorem dL_law_1493 : decode code 1493 = .ok (.iconst 1, 1) := by decide +kernel
theorem dL_law_1494 : decode code 1494 = .ok (.iadd, 1) := by decide +kernel
theorem dL_law_1495 : decode code 1495 = .ok (.iaload, 1) := by decide +kernel
theorem dL_law_1496 : decode code 1496 = .ok (.aload_n 0, 1) := by decide +kernel
theorem dL_law_1497 : decode code 1497 = .ok (.iload_n 3, 1) := by decide +kernel
theorem dL_law_1498 : decode code 1498 = .ok (.iconst 2, 1) := by decide +kernel
theorem dL_law_1499 : decode code 1499 = .ok (.iadd, 1) := by decide +kernel
theorem dL_law_1500 : decode code 1500 = .ok (.iaload, 1) := by decide +kernel
theorem dL_law_1501 : decode code 1501 = .ok (.aload_n 0, 1) := by decide +kernel
theorem dL_law_1502 : decode code 1502 = .ok (.iload_n 3, 1) := by decide +kernel
theorem dL_law_1503 : decode code 1503 = .ok (.iconst 3, 1) := by decide +kernel
theorem dL_law_1504 : decode code 1504 = .ok (.iadd, 1) := by decide +kernel
theorem dL_law_1505 : decode code 1505 = .ok (.iaload, 1) := by decide +kernel
theorem dL_law_1506 : decode code 1506 = .ok (.invokevirtual 147, 3) := by decide +kernel
theorem dL_law_1509 : decode code 1509 = .ok (.if_icmp .eq 832, 3) := by decide +kernel
theorem dL_law_1512 : decode code 1512 = .ok (.iconst 0, 1) := by decide +kernel
theorem dL_law_1513 : decode code 1513 = .ok (.ireturn, 1) := by decide +kernel
theorem dL_law_1514 : decode code 1514 = .ok (.aload_n 1, 1) := by decide +kernel
theorem dL_law_1515 : decode code 1515 = .ok (.aload_n 0, 1) := by decide +kernel
theorem dL_law_1516 : decode code 1516 = .ok (.iload_n 3, 1) := by decide +kernel
theorem dL_law_1517 : decode code 1517 = .ok (.iconst 1, 1) := by decide +kernel
theorem dL_law_1518 : decode code 1518 = .ok (.iadd, 1) := by decide +kernel
theorem dL_law_1519 : decode code 1519 = .ok (.iaload, 1) := by decide +kernel
theorem dL_law_1520 : decode code 1520 = .ok (.invokevirtual 148, 3) := by decide +kernel
theorem dL_law_1523 : decode code 1523 = .ok (.aload_n 2, 1) := by decide +kernel
theorem dL_law_1524 : decode code 1524 = .ok (.aload_n 0, 1) := by decide +kernel
theorem dL_law_1525 : decode code 1525 = .ok (.iload_n 3, 1) := by decide +kernel
theorem dL_law_1526 : decode code 1526 = .ok (.iconst 1, 1) := by decide +kernel
theorem dL_law_1527 : decode code 1527 = .ok (.iadd, 1) := by decide +kernel
theorem dL_law_1528 : decode code 1528 = .ok (.iaload, 1) := by decide +kernel
theorem dL_law_1529 : decode code 1529 = .ok (.invokevirtual 151, 3) := by decide +kernel
theorem dL_law_1532 : decode code 1532 = .ok (.if_icmp .eq 809, 3) := by decide +kernel
theorem dL_law_1535 : decode code 1535 = .ok (.iconst 0, 1) := by decide +kernel
theorem dL_law_1536 : decode code 1536 = .ok (.ireturn, 1) := by decide +kernel
theorem dL_law_1537 : decode code 1537 = .ok (.aload_n 1, 1) := by decide +kernel
theorem dL_law_1538 : decode code 1538 = .ok (.aload_n 0, 1) := by decide +kernel
theorem dL_law_1539 : decode code 1539 = .ok (.iload_n 3, 1) := by decide +kernel
theorem dL_law_1540 : decode code 1540 = .ok (.iconst 1, 1) := by decide +kernel
theorem dL_law_1541 : decode code 1541 = .ok (.iadd, 1) := by decide +kernel
theorem dL_law_1542 : decode code 1542 = .ok (.iaload, 1) := by decide +kernel
theorem dL_law_1543 : decode code 1543 = .ok (.aload_n 0, 1) := by decide +kernel
theorem dL_law_1544 : decode code 1544 = .ok (.iload_n 3, 1) := by decide +kernel
theorem dL_law_1545 : decode code 1545 = .ok (.iconst 2, 1) := by decide +kernel
theorem dL_law_1546 : decode code 1546 = .ok (.iadd, 1) := by decide +kernel
theorem dL_law_1547 : decode code 1547 = .ok (.iaload, 1) := by decide +kernel
theorem dL_law_1548 : decode code 1548 = .ok (.aload_n 0, 1) := by decide +kernel
theorem dL_law_1549 : decode code 1549 = .ok (.iload_n 3, 1) := by decide +kernel
theorem dL_law_1550 : decode code 1550 = .ok (.iconst 3, 1) := by decide +kernel
theorem dL_law_1551 : decode code 1551 = .ok (.iadd, 1) := by decide +kernel
theorem dL_law_1552 : decode code 1552 = .ok (.iaload, 1) := by decide +kernel
theorem dL_law_1553 : decode code 1553 = .ok (.ifCond .eq 7, 3) := by decide +kernel
theorem dL_law_1556 : decode code 1556 = .ok (.iconst 1, 1) := by decide +kernel
theorem dL_law_1557 : decode code 1557 = .ok (.goto 4, 3) := by decide +kernel
theorem dL_law_1560 : decode code 1560 = .ok (.iconst 0, 1) := by decide +kernel
theorem dL_law_1561 : decode code 1561 = .ok (.invokevirtual 152, 3) := by decide +kernel
theorem dL_law_1564 : decode code 1564 = .ok (.aload_n 2, 1) := by decide +kernel
theorem dL_law_1565 : decode code 1565 = .ok (.aload_n 0, 1) := by decide +kernel
theorem dL_law_1566 : decode code 1566 = .ok (.iload_n 3, 1) := by decide +kernel
theorem dL_law_1567 : decode code 1567 = .ok (.iconst 1, 1) := by decide +kernel
theorem dL_law_1568 : decode code 1568 = .ok (.iadd, 1) := by decide +kernel
theorem dL_law_1569 : decode code 1569 = .ok (.iaload, 1) := by decide +kernel
theorem dL_law_1570 : decode code 1570 = .ok (.aload_n 0, 1) := by decide +kernel
theorem dL_law_1571 : decode code 1571 = .ok (.iload_n 3, 1) := by decide +kernel
theorem dL_law_1572 : decode code 1572 = .ok (.iconst 2, 1) := by decide +kernel
theorem dL_law_1573 : decode code 1573 = .ok (.iadd, 1) := by decide +kernel
theorem dL_law_1574 : decode code 1574 = .ok (.iaload, 1) := by decide +kernel
theorem dL_law_1575 : decode code 1575 = .ok (.aload_n 0, 1) := by decide +kernel
theorem dL_law_1576 : decode code 1576 = .ok (.iload_n 3, 1) := by decide +kernel
theorem dL_law_1577 : decode code 1577 = .ok (.iconst 3, 1) := by decide +kernel
theorem dL_law_1578 : decode code 1578 = .ok (.iadd, 1) := by decide +kernel
theorem dL_law_1579 : decode code 1579 = .ok (.iaload, 1) := by decide +kernel
theorem dL_law_1580 : decode code 1580 = .ok (.ifCond .eq 7, 3) := by decide +kernel
theorem dL_law_1583 : decode code 1583 = .ok (.iconst 1, 1) := by decide +kernel
theorem dL_law_1584 : decode code 1584 = .ok (.goto 4, 3) := by decide +kernel
theorem dL_law_1587 : decode code 1587 = .ok (.iconst 0, 1) := by decide +kernel
theorem dL_law_1588 : decode code 1588 = .ok (.invokevirtual 156, 3) := by decide +kernel
theorem dL_law_1591 : decode code 1591 = .ok (.if_icmp .eq 750, 3) := by decide +kernel
theorem dL_law_1594 : decode code 1594 = .ok (.iconst 0, 1) := by decide +kernel
theorem dL_law_1595 : decode code 1595 = .ok (.ireturn, 1) := by decide +kernel
theorem dL_law_1596 : decode code 1596 = .ok (.aload_n 1, 1) := by decide +kernel
theorem dL_law_1597 : decode code 1597 = .ok (.aload_n 0, 1) := by decide +kernel
theorem dL_law_1598 : decode code 1598 = .ok (.iload_n 3, 1) := by decide +kernel
theorem dL_law_1599 : decode code 1599 = .ok (.iconst 1, 1) := by decide +kernel
theorem dL_law_1600 : decode code 1600 = .ok (.iadd, 1) := by decide +kernel
theorem dL_law_1601 : decode code 1601 = .ok (.iaload, 1) := by decide +kernel
theorem dL_law_1602 : decode code 1602 = .ok (.aload_n 0, 1) := by decide +kernel
theorem dL_law_1603 : decode code 1603 = .ok (.iload_n 3, 1) := by decide +kernel
theorem dL_law_1604 : decode code 1604 = .ok (.iconst 2, 1) := by decide +kernel
theorem dL_law_1605 : decode code 1605 = .ok (.iadd, 1) := by decide +kernel
theorem dL_law_1606 : decode code 1606 = .ok (.iaload, 1) := by decide +kernel
theorem dL_law_1607 : decode code 1607 = .ok (.aload_n 0, 1) := by decide +kernel
theorem dL_law_1608 : decode code 1608 = .ok (.iload_n 3, 1) := by decide +kernel
theorem dL_law_1609 : decode code 1609 = .ok (.iconst 3, 1) := by decide +kernel
theorem dL_law_1610 : decode code 1610 = .ok (.iadd, 1) := by decide +kernel
theorem dL_law_1611 : decode code 1611 = .ok (.iaload, 1) := by decide +kernel
theorem dL_law_1612 : decode code 1612 = .ok (.ifCond .eq 7, 3) := by decide +kernel
theorem dL_law_1615 : decode code 1615 = .ok (.iconst 1, 1) := by decide +kernel
theorem dL_law_1616 : decode code 1616 = .ok (.goto 4, 3) := by decide +kernel
theorem dL_law_1619 : decode code 1619 = .ok (.iconst 0, 1) := by decide +kernel
theorem dL_law_1620 : decode code 1620 = .ok (.aload_n 0, 1) := by decide +kernel
theorem dL_law_1621 : decode code 1621 = .ok (.iload_n 3, 1) := by decide +kernel
theorem dL_law_1622 : decode code 1622 = .ok (.iconst 4, 1) := by decide +kernel
theorem dL_law_1623 : decode code 1623 = .ok (.iadd, 1) := by decide +kernel
theorem dL_law_1624 : decode code 1624 = .ok (.iaload, 1) := by decide +kernel
theorem dL_law_1625 : decode code 1625 = .ok (.invokevirtual 157, 3) := by decide +kernel
