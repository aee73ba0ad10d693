theorem dL_law_1316 : decode cL_law 1316 = .ok (.aload_n 1, 1) := by decide +kernel
theorem tw_1312 : Cond.methodLink RL 136 yX11_area ∈ wsL_law := List.mem_of_getElem? (i := 1312) (by decide +kernel)
theorem tw_1313 : Cond.instanceMethod yX11_area ∈ wsL_law := List.mem_of_getElem? (i := 1313) (by decide +kernel)
theorem tw_1314 : Cond.selects RX11 yX11_area yX11_area ∈ wsL_law := List.mem_of_getElem? (i := 1314) (by decide +kernel)
theorem tw_1315 : Cond.code yX11_area cX11_area 1 (some .int) ∈ wsL_law := List.mem_of_getElem? (i := 1315) (by decide +kernel)
theorem dL_law_1317 : decode cL_law 1317 = .ok (.invokevirtual 136, 3) := by decide +kernel
theorem dL_law_1320 : decode cL_law 1320 = .ok (.aload_n 2, 1) := by decide +kernel
theorem tw_1317 : Cond.methodLink RL 139 yX12_area ∈ wsL_law := List.mem_of_getElem? (i := 1317) (by decide +kernel)
theorem tw_1318 : Cond.instanceMethod yX12_area ∈ wsL_law := List.mem_of_getElem? (i := 1318) (by decide +kernel)
theorem tw_1319 : Cond.selects RX12 yX12_area yX12_area ∈ wsL_law := List.mem_of_getElem? (i := 1319) (by decide +kernel)
theorem tw_1320 : Cond.code yX12_area cX12_area 1 (some .int) ∈ wsL_law := List.mem_of_getElem? (i := 1320) (by decide +kernel)
theorem dL_law_1321 : decode cL_law 1321 = .ok (.invokevirtual 139, 3) := by decide +kernel
theorem dL_law_1324 : decode cL_law 1324 = .ok (.if_icmp .eq 401, 3) := by decide +kernel
theorem dL_law_1329 : decode cL_law 1329 = .ok (.aload_n 1, 1) := by decide +kernel
theorem dL_law_1330 : decode cL_law 1330 = .ok (.aload_n 0, 1) := by decide +kernel
theorem dL_law_1331 : decode cL_law 1331 = .ok (.iload_n 3, 1) := by decide +kernel
theorem dL_law_1332 : decode cL_law 1332 = .ok (.iconst 1, 1) := by decide +kernel
theorem dL_law_1333 : decode cL_law 1333 = .ok (.iadd, 1) := by decide +kernel
theorem dL_law_1334 : decode cL_law 1334 = .ok (.iaload, 1) := by decide +kernel
theorem dL_law_1335 : decode cL_law 1335 = .ok (.aload_n 0, 1) := by decide +kernel
theorem dL_law_1336 : decode cL_law 1336 = .ok (.iload_n 3, 1) := by decide +kernel
theorem dL_law_1337 : decode cL_law 1337 = .ok (.iconst 2, 1) := by decide +kernel
theorem dL_law_1338 : decode cL_law 1338 = .ok (.iadd, 1) := by decide +kernel
theorem dL_law_1339 : decode cL_law 1339 = .ok (.iaload, 1) := by decide +kernel
theorem tw_1321 : Cond.methodLink RL 140 yX11_choose ∈ wsL_law := List.mem_of_getElem? (i := 1321) (by decide +kernel)
theorem tw_1322 : Cond.instanceMethod yX11_choose ∈ wsL_law := List.mem_of_getElem? (i := 1322) (by decide +kernel)
theorem tw_1323 : Cond.selects RX11 yX11_choose yX11_choose ∈ wsL_law := List.mem_of_getElem? (i := 1323) (by decide +kernel)
theorem tw_1324 : Cond.code yX11_choose cX11_choose 3 (some .boolean) ∈ wsL_law := List.mem_of_getElem? (i := 1324) (by decide +kernel)
theorem dL_law_1340 : decode cL_law 1340 = .ok (.invokevirtual 140, 3) := by decide +kernel
theorem dL_law_1343 : decode cL_law 1343 = .ok (.aload_n 2, 1) := by decide +kernel
theorem dL_law_1344 : decode cL_law 1344 = .ok (.aload_n 0, 1) := by decide +kernel
theorem dL_law_1345 : decode cL_law 1345 = .ok (.iload_n 3, 1) := by decide +kernel
theorem dL_law_1346 : decode cL_law 1346 = .ok (.iconst 1, 1) := by decide +kernel
theorem dL_law_1347 : decode cL_law 1347 = .ok (.iadd, 1) := by decide +kernel
theorem dL_law_1348 : decode cL_law 1348 = .ok (.iaload, 1) := by decide +kernel
theorem dL_law_1349 : decode cL_law 1349 = .ok (.aload_n 0, 1) := by decide +kernel
theorem dL_law_1350 : decode cL_law 1350 = .ok (.iload_n 3, 1) := by decide +kernel
theorem dL_law_1351 : decode cL_law 1351 = .ok (.iconst 2, 1) := by decide +kernel
theorem dL_law_1352 : decode cL_law 1352 = .ok (.iadd, 1) := by decide +kernel
theorem dL_law_1353 : decode cL_law 1353 = .ok (.iaload, 1) := by decide +kernel
theorem tw_1326 : Cond.methodLink RL 143 yX12_choose ∈ wsL_law := List.mem_of_getElem? (i := 1326) (by decide +kernel)
theorem tw_1327 : Cond.instanceMethod yX12_choose ∈ wsL_law := List.mem_of_getElem? (i := 1327) (by decide +kernel)
theorem tw_1328 : Cond.selects RX12 yX12_choose yX12_choose ∈ wsL_law := List.mem_of_getElem? (i := 1328) (by decide +kernel)
theorem tw_1329 : Cond.code yX12_choose cX12_choose 3 (some .boolean) ∈ wsL_law := List.mem_of_getElem? (i := 1329) (by decide +kernel)
theorem dL_law_1354 : decode cL_law 1354 = .ok (.invokevirtual 143, 3) := by decide +kernel
theorem dL_law_1357 : decode cL_law 1357 = .ok (.if_icmp .eq 368, 3) := by decide +kernel
theorem dL_law_1362 : decode cL_law 1362 = .ok (.aload_n 1, 1) := by decide +kernel
theorem dL_law_1363 : decode cL_law 1363 = .ok (.aload_n 0, 1) := by decide +kernel
theorem dL_law_1364 : decode cL_law 1364 = .ok (.iload_n 3, 1) := by decide +kernel
theorem dL_law_1365 : decode cL_law 1365 = .ok (.iconst 1, 1) := by decide +kernel
theorem dL_law_1366 : decode cL_law 1366 = .ok (.iadd, 1) := by decide +kernel
theorem dL_law_1367 : decode cL_law 1367 = .ok (.iaload, 1) := by decide +kernel
theorem dL_law_1368 : decode cL_law 1368 = .ok (.i2l, 1) := by decide +kernel
theorem dL_law_1369 : decode cL_law 1369 = .ok (.bipush 32, 2) := by decide +kernel
theorem dL_law_1371 : decode cL_law 1371 = .ok (.lshl, 1) := by decide +kernel
theorem dL_law_1372 : decode cL_law 1372 = .ok (.aload_n 0, 1) := by decide +kernel
theorem dL_law_1373 : decode cL_law 1373 = .ok (.iload_n 3, 1) := by decide +kernel
theorem dL_law_1374 : decode cL_law 1374 = .ok (.iconst 2, 1) := by decide +kernel
theorem dL_law_1375 : decode cL_law 1375 = .ok (.iadd, 1) := by decide +kernel
theorem dL_law_1376 : decode cL_law 1376 = .ok (.iaload, 1) := by decide +kernel
theorem dL_law_1377 : decode cL_law 1377 = .ok (.i2l, 1) := by decide +kernel
theorem tw_6 : Cond.constantLong RL 144 (4294967295) ∈ wsL_law := List.mem_of_getElem? (i := 6) (by decide +kernel)
theorem dL_law_1378 : decode cL_law 1378 = .ok (.ldc2_w 144, 3) := by decide +kernel
theorem dL_law_1381 : decode cL_law 1381 = .ok (.land, 1) := by decide +kernel
theorem dL_law_1382 : decode cL_law 1382 = .ok (.lor, 1) := by decide +kernel
theorem tw_1330 : Cond.methodLink RL 146 yX11_council ∈ wsL_law := List.mem_of_getElem? (i := 1330) (by decide +kernel)
theorem tw_1331 : Cond.instanceMethod yX11_council ∈ wsL_law := List.mem_of_getElem? (i := 1331) (by decide +kernel)
theorem tw_1332 : Cond.selects RX11 yX11_council yX11_council ∈ wsL_law := List.mem_of_getElem? (i := 1332) (by decide +kernel)
theorem tw_1333 : Cond.code yX11_council cX11_council 3 (some .int) ∈ wsL_law := List.mem_of_getElem? (i := 1333) (by decide +kernel)
theorem dL_law_1383 : decode cL_law 1383 = .ok (.invokevirtual 146, 3) := by decide +kernel
theorem dL_law_1386 : decode cL_law 1386 = .ok (.aload_n 2, 1) := by decide +kernel
theorem dL_law_1387 : decode cL_law 1387 = .ok (.aload_n 0, 1) := by decide +kernel
theorem dL_law_1388 : decode cL_law 1388 = .ok (.iload_n 3, 1) := by decide +kernel
theorem dL_law_1389 : decode cL_law 1389 = .ok (.iconst 1, 1) := by decide +kernel
theorem dL_law_1390 : decode cL_law 1390 = .ok (.iadd, 1) := by decide +kernel
theorem dL_law_1391 : decode cL_law 1391 = .ok (.iaload, 1) := by decide +kernel
theorem dL_law_1392 : decode cL_law 1392 = .ok (.i2l, 1) := by decide +kernel
theorem dL_law_1393 : decode cL_law 1393 = .ok (.bipush 32, 2) := by decide +kernel
theorem dL_law_1395 : decode cL_law 1395 = .ok (.lshl, 1) := by decide +kernel
theorem dL_law_1396 : decode cL_law 1396 = .ok (.aload_n 0, 1) := by decide +kernel
theorem dL_law_1397 : decode cL_law 1397 = .ok (.iload_n 3, 1) := by decide +kernel
theorem dL_law_1398 : decode cL_law 1398 = .ok (.iconst 2, 1) := by decide +kernel
theorem dL_law_1399 : decode cL_law 1399 = .ok (.iadd, 1) := by decide +kernel
theorem dL_law_1400 : decode cL_law 1400 = .ok (.iaload, 1) := by decide +kernel
theorem dL_law_1401 : decode cL_law 1401 = .ok (.i2l, 1) := by decide +kernel
theorem dL_law_1402 : decode cL_law 1402 = .ok (.ldc2_w 144, 3) := by decide +kernel
theorem dL_law_1405 : decode cL_law 1405 = .ok (.land, 1) := by decide +kernel
theorem dL_law_1406 : decode cL_law 1406 = .ok (.lor, 1) := by decide +kernel
theorem tw_1354 : Cond.methodLink RL 150 yX12_council ∈ wsL_law := List.mem_of_getElem? (i := 1354) (by decide +kernel)
theorem tw_1355 : Cond.instanceMethod yX12_council ∈ wsL_law := List.mem_of_getElem? (i := 1355) (by decide +kernel)
theorem tw_1356 : Cond.selects RX12 yX12_council yX12_council ∈ wsL_law := List.mem_of_getElem? (i := 1356) (by decide +kernel)
theorem tw_1357 : Cond.code yX12_council cX12_council 8 (some .int) ∈ wsL_law := List.mem_of_getElem? (i := 1357) (by decide +kernel)
theorem dL_law_1407 : decode cL_law 1407 = .ok (.invokevirtual 150, 3) := by decide +kernel
theorem dL_law_1410 : decode cL_law 1410 = .ok (.if_icmp .eq 315, 3) := by decide +kernel
theorem dL_law_1415 : decode cL_law 1415 = .ok (.aload_n 1, 1) := by decide +kernel
theorem dL_law_1416 : decode cL_law 1416 = .ok (.aload_n 0, 1) := by decide +kernel
theorem dL_law_1417 : decode cL_law 1417 = .ok (.iload_n 3, 1) := by decide +kernel
theorem dL_law_1418 : decode cL_law 1418 = .ok (.iconst 1, 1) := by decide +kernel
theorem dL_law_1419 : decode cL_law 1419 = .ok (.iadd, 1) := by decide +kernel
theorem dL_law_1420 : decode cL_law 1420 = .ok (.iaload, 1) := by decide +kernel
theorem dL_law_1421 : decode cL_law 1421 = .ok (.aload_n 0, 1) := by decide +kernel
theorem dL_law_1422 : decode cL_law 1422 = .ok (.iload_n 3, 1) := by decide +kernel
theorem dL_law_1423 : decode cL_law 1423 = .ok (.iconst 2, 1) := by decide +kernel
theorem dL_law_1424 : decode cL_law 1424 = .ok (.iadd, 1) := by decide +kernel
theorem dL_law_1425 : decode cL_law 1425 = .ok (.iaload, 1) := by decide +kernel
theorem dL_law_1426 : decode cL_law 1426 = .ok (.aload_n 0, 1) := by decide +kernel
theorem dL_law_1427 : decode cL_law 1427 = .ok (.iload_n 3, 1) := by decide +kernel
theorem dL_law_1428 : decode cL_law 1428 = .ok (.iconst 3, 1) := by decide +kernel
theorem dL_law_1429 : decode cL_law 1429 = .ok (.iadd, 1) := by decide +kernel
theorem dL_law_1430 : decode cL_law 1430 = .ok (.iaload, 1) := by decide +kernel
theorem tw_1358 : Cond.methodLink RL 151 yX11_sinks ∈ wsL_law := List.mem_of_getElem? (i := 1358) (by decide +kernel)
theorem tw_1359 : Cond.instanceMethod yX11_sinks ∈ wsL_law := List.mem_of_getElem? (i := 1359) (by decide +kernel)
theorem tw_1360 : Cond.selects RX11 yX11_sinks yX11_sinks ∈ wsL_law := List.mem_of_getElem? (i := 1360) (by decide +kernel)
theorem tw_1361 : Cond.code yX11_sinks cX11_sinks 5 (some .int) ∈ wsL_law := List.mem_of_getElem? (i := 1361) (by decide +kernel)
theorem dL_law_1431 : decode cL_law 1431 = .ok (.invokevirtual 151, 3) := by decide +kernel
theorem dL_law_1434 : decode cL_law 1434 = .ok (.aload_n 2, 1) := by decide +kernel
theorem dL_law_1435 : decode cL_law 1435 = .ok (.aload_n 0, 1) := by decide +kernel
theorem dL_law_1436 : decode cL_law 1436 = .ok (.iload_n 3, 1) := by decide +kernel
theorem dL_law_1437 : decode cL_law 1437 = .ok (.iconst 1, 1) := by decide +kernel
theorem dL_law_1438 : decode cL_law 1438 = .ok (.iadd, 1) := by decide +kernel
theorem dL_law_1439 : decode cL_law 1439 = .ok (.iaload, 1) := by decide +kernel
theorem dL_law_1440 : decode cL_law 1440 = .ok (.aload_n 0, 1) := by decide +kernel
theorem dL_law_1441 : decode cL_law 1441 = .ok (.iload_n 3, 1) := by decide +kernel
theorem dL_law_1442 : decode cL_law 1442 = .ok (.iconst 2, 1) := by decide +kernel
theorem dL_law_1443 : decode cL_law 1443 = .ok (.iadd, 1) := by decide +kernel
theorem dL_law_1444 : decode cL_law 1444 = .ok (.iaload, 1) := by decide +kernel
theorem dL_law_1445 : decode cL_law 1445 = .ok (.aload_n 0, 1) := by decide +kernel
theorem dL_law_1446 : decode cL_law 1446 = .ok (.iload_n 3, 1) := by decide +kernel
theorem dL_law_1447 : decode cL_law 1447 = .ok (.iconst 3, 1) := by decide +kernel
theorem dL_law_1448 : decode cL_law 1448 = .ok (.iadd, 1) := by decide +kernel
theorem dL_law_1449 : decode cL_law 1449 = .ok (.iaload, 1) := by decide +kernel
theorem tw_1397 : Cond.methodLink RL 154 yX12_sinks ∈ wsL_law := List.mem_of_getElem? (i := 1397) (by decide +kernel)
theorem tw_1398 : Cond.instanceMethod yX12_sinks ∈ wsL_law := List.mem_of_getElem? (i := 1398) (by decide +kernel)
theorem tw_1399 : Cond.selects RX12 yX12_sinks yX12_sinks ∈ wsL_law := List.mem_of_getElem? (i := 1399) (by decide +kernel)
theorem tw_1400 : Cond.code yX12_sinks cX12_sinks 6 (some .int) ∈ wsL_law := List.mem_of_getElem? (i := 1400) (by decide +kernel)
theorem dL_law_1450 : decode cL_law 1450 = .ok (.invokevirtual 154, 3) := by decide +kernel
theorem dL_law_1453 : decode cL_law 1453 = .ok (.if_icmp .eq 272, 3) := by decide +kernel
theorem dL_law_1458 : decode cL_law 1458 = .ok (.aload_n 1, 1) := by decide +kernel
theorem dL_law_1459 : decode cL_law 1459 = .ok (.aload_n 0, 1) := by decide +kernel
theorem dL_law_1460 : decode cL_law 1460 = .ok (.iload_n 3, 1) := by decide +kernel
theorem dL_law_1461 : decode cL_law 1461 = .ok (.iconst 1, 1) := by decide +kernel
theorem dL_law_1462 : decode cL_law 1462 = .ok (.iadd, 1) := by decide +kernel
theorem dL_law_1463 : decode cL_law 1463 = .ok (.iaload, 1) := by decide +kernel
theorem dL_law_1464 : decode cL_law 1464 = .ok (.aload_n 0, 1) := by decide +kernel
theorem dL_law_1465 : decode cL_law 1465 = .ok (.iload_n 3, 1) := by decide +kernel
theorem dL_law_1466 : decode cL_law 1466 = .ok (.iconst 2, 1) := by decide +kernel
theorem dL_law_1467 : decode cL_law 1467 = .ok (.iadd, 1) := by decide +kernel
theorem dL_law_1468 : decode cL_law 1468 = .ok (.iaload, 1) := by decide +kernel
theorem tw_1401 : Cond.methodLink RL 155 yX11_cant ∈ wsL_law := List.mem_of_getElem? (i := 1401) (by decide +kernel)
theorem tw_1402 : Cond.instanceMethod yX11_cant ∈ wsL_law := List.mem_of_getElem? (i := 1402) (by decide +kernel)
theorem tw_1403 : Cond.selects RX11 yX11_cant yX11_cant ∈ wsL_law := List.mem_of_getElem? (i := 1403) (by decide +kernel)
theorem tw_1404 : Cond.code yX11_cant cX11_cant 4 (some .int) ∈ wsL_law := List.mem_of_getElem? (i := 1404) (by decide +kernel)
theorem dL_law_1469 : decode cL_law 1469 = .ok (.invokevirtual 155, 3) := by decide +kernel
theorem dL_law_1472 : decode cL_law 1472 = .ok (.aload_n 2, 1) := by decide +kernel
theorem dL_law_1473 : decode cL_law 1473 = .ok (.aload_n 0, 1) := by decide +kernel
theorem dL_law_1474 : decode cL_law 1474 = .ok (.iload_n 3, 1) := by decide +kernel
theorem dL_law_1475 : decode cL_law 1475 = .ok (.iconst 1, 1) := by decide +kernel
theorem dL_law_1476 : decode cL_law 1476 = .ok (.iadd, 1) := by decide +kernel
theorem dL_law_1477 : decode cL_law 1477 = .ok (.iaload, 1) := by decide +kernel
theorem dL_law_1478 : decode cL_law 1478 = .ok (.aload_n 0, 1) := by decide +kernel
theorem dL_law_1479 : decode cL_law 1479 = .ok (.iload_n 3, 1) := by decide +kernel
theorem dL_law_1480 : decode cL_law 1480 = .ok (.iconst 2, 1) := by decide +kernel
theorem dL_law_1481 : decode cL_law 1481 = .ok (.iadd, 1) := by decide +kernel
theorem dL_law_1482 : decode cL_law 1482 = .ok (.iaload, 1) := by decide +kernel
theorem tw_1407 : Cond.methodLink RL 158 yX12_cant ∈ wsL_law := List.mem_of_getElem? (i := 1407) (by decide +kernel)
theorem tw_1408 : Cond.instanceMethod yX12_cant ∈ wsL_law := List.mem_of_getElem? (i := 1408) (by decide +kernel)
theorem tw_1409 : Cond.selects RX12 yX12_cant yX12_cant ∈ wsL_law := List.mem_of_getElem? (i := 1409) (by decide +kernel)
theorem tw_1410 : Cond.code yX12_cant cX12_cant 5 (some .int) ∈ wsL_law := List.mem_of_getElem? (i := 1410) (by decide +kernel)
theorem dL_law_1483 : decode cL_law 1483 = .ok (.invokevirtual 158, 3) := by decide +kernel
theorem dL_law_1486 : decode cL_law 1486 = .ok (.if_icmp .eq 239, 3) := by decide +kernel
theorem dL_law_1491 : decode cL_law 1491 = .ok (.aload_n 1, 1) := by decide +kernel
theorem dL_law_1492 : decode cL_law 1492 = .ok (.aload_n 0, 1) := by decide +kernel
theorem dL_law_1493 : decode cL_law 1493 = .ok (.iload_n 3, 1) := by decide +kernel
theorem dL_law_1494 : decode cL_law 1494 = .ok (.iconst 1, 1) := by decide +kernel
theorem dL_law_1495 : decode cL_law 1495 = .ok (.iadd, 1) := by decide +kernel
theorem dL_law_1496 : decode cL_law 1496 = .ok (.iaload, 1) := by decide +kernel
theorem dL_law_1497 : decode cL_law 1497 = .ok (.aload_n 0, 1) := by decide +kernel
theorem dL_law_1498 : decode cL_law 1498 = .ok (.iload_n 3, 1) := by decide +kernel
theorem dL_law_1499 : decode cL_law 1499 = .ok (.iconst 2, 1) := by decide +kernel
theorem dL_law_1500 : decode cL_law 1500 = .ok (.iadd, 1) := by decide +kernel
theorem dL_law_1501 : decode cL_law 1501 = .ok (.iaload, 1) := by decide +kernel
theorem dL_law_1502 : decode cL_law 1502 = .ok (.aload_n 0, 1) := by decide +kernel
theorem dL_law_1503 : decode cL_law 1503 = .ok (.iload_n 3, 1) := by decide +kernel
theorem dL_law_1504 : decode cL_law 1504 = .ok (.iconst 3, 1) := by decide +kernel
theorem dL_law_1505 : decode cL_law 1505 = .ok (.iadd, 1) := by decide +kernel
theorem dL_law_1506 : decode cL_law 1506 = .ok (.iaload, 1) := by decide +kernel
theorem dL_law_1507 : decode cL_law 1507 = .ok (.aload_n 0, 1) := by decide +kernel
theorem dL_law_1508 : decode cL_law 1508 = .ok (.iload_n 3, 1) := by decide +kernel
theorem dL_law_1509 : decode cL_law 1509 = .ok (.iconst 4, 1) := by decide +kernel
theorem dL_law_1510 : decode cL_law 1510 = .ok (.iadd, 1) := by decide +kernel
theorem dL_law_1511 : decode cL_law 1511 = .ok (.iaload, 1) := by decide +kernel
theorem tw_1411 : Cond.methodLink RL 159 yX11_keeps ∈ wsL_law := List.mem_of_getElem? (i := 1411) (by decide +kernel)
theorem tw_1412 : Cond.instanceMethod yX11_keeps ∈ wsL_law := List.mem_of_getElem? (i := 1412) (by decide +kernel)
theorem tw_1413 : Cond.selects RX11 yX11_keeps yX11_keeps ∈ wsL_law := List.mem_of_getElem? (i := 1413) (by decide +kernel)
theorem tw_1414 : Cond.code yX11_keeps cX11_keeps 7 (some .int) ∈ wsL_law := List.mem_of_getElem? (i := 1414) (by decide +kernel)
theorem dL_law_1512 : decode cL_law 1512 = .ok (.invokevirtual 159, 3) := by decide +kernel
theorem dL_law_1515 : decode cL_law 1515 = .ok (.aload_n 2, 1) := by decide +kernel
theorem dL_law_1516 : decode cL_law 1516 = .ok (.aload_n 0, 1) := by decide +kernel
theorem dL_law_1517 : decode cL_law 1517 = .ok (.iload_n 3, 1) := by decide +kernel
theorem dL_law_1518 : decode cL_law 1518 = .ok (.iconst 1, 1) := by decide +kernel
theorem dL_law_1519 : decode cL_law 1519 = .ok (.iadd, 1) := by decide +kernel
theorem dL_law_1520 : decode cL_law 1520 = .ok (.iaload, 1) := by decide +kernel
theorem dL_law_1521 : decode cL_law 1521 = .ok (.aload_n 0, 1) := by decide +kernel
theorem dL_law_1522 : decode cL_law 1522 = .ok (.iload_n 3, 1) := by decide +kernel
theorem dL_law_1523 : decode cL_law 1523 = .ok (.iconst 2, 1) := by decide +kernel
theorem dL_law_1524 : decode cL_law 1524 = .ok (.iadd, 1) := by decide +kernel
theorem dL_law_1525 : decode cL_law 1525 = .ok (.iaload, 1) := by decide +kernel
theorem dL_law_1526 : decode cL_law 1526 = .ok (.aload_n 0, 1) := by decide +kernel
theorem dL_law_1527 : decode cL_law 1527 = .ok (.iload_n 3, 1) := by decide +kernel
theorem dL_law_1528 : decode cL_law 1528 = .ok (.iconst 3, 1) := by decide +kernel
theorem dL_law_1529 : decode cL_law 1529 = .ok (.iadd, 1) := by decide +kernel
theorem dL_law_1530 : decode cL_law 1530 = .ok (.iaload, 1) := by decide +kernel
theorem dL_law_1531 : decode cL_law 1531 = .ok (.aload_n 0, 1) := by decide +kernel
theorem dL_law_1532 : decode cL_law 1532 = .ok (.iload_n 3, 1) := by decide +kernel
theorem dL_law_1533 : decode cL_law 1533 = .ok (.iconst 4, 1) := by decide +kernel
theorem dL_law_1534 : decode cL_law 1534 = .ok (.iadd, 1) := by decide +kernel
theorem dL_law_1535 : decode cL_law 1535 = .ok (.iaload, 1) := by decide +kernel
theorem tw_1420 : Cond.methodLink RL 163 yX12_keeps ∈ wsL_law := List.mem_of_getElem? (i := 1420) (by decide +kernel)
theorem tw_1421 : Cond.instanceMethod yX12_keeps ∈ wsL_law := List.mem_of_getElem? (i := 1421) (by decide +kernel)
theorem tw_1422 : Cond.selects RX12 yX12_keeps yX12_keeps ∈ wsL_law := List.mem_of_getElem? (i := 1422) (by decide +kernel)
theorem tw_1423 : Cond.code yX12_keeps cX12_keeps 6 (some .int) ∈ wsL_law := List.mem_of_getElem? (i := 1423) (by decide +kernel)
theorem dL_law_1536 : decode cL_law 1536 = .ok (.invokevirtual 163, 3) := by decide +kernel
theorem dL_law_1539 : decode cL_law 1539 = .ok (.if_icmp .eq 186, 3) := by decide +kernel
theorem dL_law_1544 : decode cL_law 1544 = .ok (.aload_n 1, 1) := by decide +kernel
theorem dL_law_1545 : decode cL_law 1545 = .ok (.aload_n 0, 1) := by decide +kernel
theorem dL_law_1546 : decode cL_law 1546 = .ok (.iload_n 3, 1) := by decide +kernel
theorem dL_law_1547 : decode cL_law 1547 = .ok (.iconst 1, 1) := by decide +kernel
theorem dL_law_1548 : decode cL_law 1548 = .ok (.iadd, 1) := by decide +kernel
theorem dL_law_1549 : decode cL_law 1549 = .ok (.iaload, 1) := by decide +kernel
theorem dL_law_1550 : decode cL_law 1550 = .ok (.aload_n 0, 1) := by decide +kernel
theorem dL_law_1551 : decode cL_law 1551 = .ok (.iload_n 3, 1) := by decide +kernel
theorem dL_law_1552 : decode cL_law 1552 = .ok (.iconst 2, 1) := by decide +kernel
theorem dL_law_1553 : decode cL_law 1553 = .ok (.iadd, 1) := by decide +kernel
theorem dL_law_1554 : decode cL_law 1554 = .ok (.iaload, 1) := by decide +kernel
theorem dL_law_1555 : decode cL_law 1555 = .ok (.aload_n 0, 1) := by decide +kernel
theorem dL_law_1556 : decode cL_law 1556 = .ok (.iload_n 3, 1) := by decide +kernel
theorem dL_law_1557 : decode cL_law 1557 = .ok (.iconst 3, 1) := by decide +kernel
theorem dL_law_1558 : decode cL_law 1558 = .ok (.iadd, 1) := by decide +kernel
theorem dL_law_1559 : decode cL_law 1559 = .ok (.iaload, 1) := by decide +kernel
theorem tw_1428 : Cond.methodLink RL 164 yX11_order ∈ wsL_law := List.mem_of_getElem? (i := 1428) (by decide +kernel)
theorem tw_1429 : Cond.instanceMethod yX11_order ∈ wsL_law := List.mem_of_getElem? (i := 1429) (by decide +kernel)
theorem tw_1430 : Cond.selects RX11 yX11_order yX11_order ∈ wsL_law := List.mem_of_getElem? (i := 1430) (by decide +kernel)
theorem tw_1431 : Cond.code yX11_order cX11_order 5 (some .int) ∈ wsL_law := List.mem_of_getElem? (i := 1431) (by decide +kernel)
theorem dL_law_1560 : decode cL_law 1560 = .ok (.invokevirtual 164, 3) := by decide +kernel
theorem dL_law_1563 : decode cL_law 1563 = .ok (.aload_n 2, 1) := by decide +kernel
theorem dL_law_1564 : decode cL_law 1564 = .ok (.aload_n 0, 1) := by decide +kernel
theorem dL_law_1565 : decode cL_law 1565 = .ok (.iload_n 3, 1) := by decide +kernel
theorem dL_law_1566 : decode cL_law 1566 = .ok (.iconst 1, 1) := by decide +kernel
theorem dL_law_1567 : decode cL_law 1567 = .ok (.iadd, 1) := by decide +kernel
theorem dL_law_1568 : decode cL_law 1568 = .ok (.iaload, 1) := by decide +kernel
theorem dL_law_1569 : decode cL_law 1569 = .ok (.aload_n 0, 1) := by decide +kernel
theorem dL_law_1570 : decode cL_law 1570 = .ok (.iload_n 3, 1) := by decide +kernel
theorem dL_law_1571 : decode cL_law 1571 = .ok (.iconst 2, 1) := by decide +kernel
theorem dL_law_1572 : decode cL_law 1572 = .ok (.iadd, 1) := by decide +kernel
theorem dL_law_1573 : decode cL_law 1573 = .ok (.iaload, 1) := by decide +kernel
theorem dL_law_1574 : decode cL_law 1574 = .ok (.aload_n 0, 1) := by decide +kernel
theorem dL_law_1575 : decode cL_law 1575 = .ok (.iload_n 3, 1) := by decide +kernel
theorem dL_law_1576 : decode cL_law 1576 = .ok (.iconst 3, 1) := by decide +kernel
theorem dL_law_1577 : decode cL_law 1577 = .ok (.iadd, 1) := by decide +kernel
theorem dL_law_1578 : decode cL_law 1578 = .ok (.iaload, 1) := by decide +kernel
theorem tw_1483 : Cond.methodLink RL 167 yX12_order ∈ wsL_law := List.mem_of_getElem? (i := 1483) (by decide +kernel)
theorem tw_1484 : Cond.instanceMethod yX12_order ∈ wsL_law := List.mem_of_getElem? (i := 1484) (by decide +kernel)
theorem tw_1485 : Cond.selects RX12 yX12_order yX12_order ∈ wsL_law := List.mem_of_getElem? (i := 1485) (by decide +kernel)
theorem tw_1486 : Cond.code yX12_order cX12_order 10 (some .int) ∈ wsL_law := List.mem_of_getElem? (i := 1486) (by decide +kernel)
theorem dL_law_1579 : decode cL_law 1579 = .ok (.invokevirtual 167, 3) := by decide +kernel
theorem dL_law_1582 : decode cL_law 1582 = .ok (.if_icmp .eq 143, 3) := by decide +kernel
theorem dL_law_1587 : decode cL_law 1587 = .ok (.aload_n 1, 1) := by decide +kernel
theorem dL_law_1588 : decode cL_law 1588 = .ok (.aload_n 0, 1) := by decide +kernel
theorem dL_law_1589 : decode cL_law 1589 = .ok (.iload_n 3, 1) := by decide +kernel
theorem dL_law_1590 : decode cL_law 1590 = .ok (.iconst 1, 1) := by decide +kernel
theorem dL_law_1591 : decode cL_law 1591 = .ok (.iadd, 1) := by decide +kernel
theorem dL_law_1592 : decode cL_law 1592 = .ok (.iaload, 1) := by decide +kernel
theorem tw_1495 : Cond.methodLink RL 168 yX11_grave ∈ wsL_law := List.mem_of_getElem? (i := 1495) (by decide +kernel)
theorem tw_1496 : Cond.instanceMethod yX11_grave ∈ wsL_law := List.mem_of_getElem? (i := 1496) (by decide +kernel)
theorem tw_1497 : Cond.selects RX11 yX11_grave yX11_grave ∈ wsL_law := List.mem_of_getElem? (i := 1497) (by decide +kernel)
theorem tw_1498 : Cond.code yX11_grave cX11_grave 2 (some .int) ∈ wsL_law := List.mem_of_getElem? (i := 1498) (by decide +kernel)
theorem dL_law_1593 : decode cL_law 1593 = .ok (.invokevirtual 168, 3) := by decide +kernel
theorem dL_law_1596 : decode cL_law 1596 = .ok (.aload_n 2, 1) := by decide +kernel
theorem dL_law_1597 : decode cL_law 1597 = .ok (.aload_n 0, 1) := by decide +kernel
theorem dL_law_1598 : decode cL_law 1598 = .ok (.iload_n 3, 1) := by decide +kernel
theorem dL_law_1599 : decode cL_law 1599 = .ok (.iconst 1, 1) := by decide +kernel
theorem dL_law_1600 : decode cL_law 1600 = .ok (.iadd, 1) := by decide +kernel
theorem dL_law_1601 : decode cL_law 1601 = .ok (.iaload, 1) := by decide +kernel
theorem tw_1505 : Cond.methodLink RL 171 yX12_grave ∈ wsL_law := List.mem_of_getElem? (i := 1505) (by decide +kernel)
theorem tw_1506 : Cond.instanceMethod yX12_grave ∈ wsL_law := List.mem_of_getElem? (i := 1506) (by decide +kernel)
theorem tw_1507 : Cond.selects RX12 yX12_grave yX12_grave ∈ wsL_law := List.mem_of_getElem? (i := 1507) (by decide +kernel)
theorem tw_1508 : Cond.code yX12_grave cX12_grave 2 (some .int) ∈ wsL_law := List.mem_of_getElem? (i := 1508) (by decide +kernel)
theorem dL_law_1602 : decode cL_law 1602 = .ok (.invokevirtual 171, 3) := by decide +kernel
theorem dL_law_1605 : decode cL_law 1605 = .ok (.if_icmp .eq 120, 3) := by decide +kernel
theorem dL_law_1610 : decode cL_law 1610 = .ok (.aload_n 1, 1) := by decide +kernel
theorem dL_law_1611 : decode cL_law 1611 = .ok (.aload_n 0, 1) := by decide +kernel
theorem dL_law_1612 : decode cL_law 1612 = .ok (.iload_n 3, 1) := by decide +kernel
theorem dL_law_1613 : decode cL_law 1613 = .ok (.iconst 1, 1) := by decide +kernel
theorem dL_law_1614 : decode cL_law 1614 = .ok (.iadd, 1) := by decide +kernel
theorem dL_law_1615 : decode cL_law 1615 = .ok (.iaload, 1) := by decide +kernel
theorem dL_law_1616 : decode cL_law 1616 = .ok (.aload_n 0, 1) := by decide +kernel
theorem dL_law_1617 : decode cL_law 1617 = .ok (.iload_n 3, 1) := by decide +kernel
theorem dL_law_1618 : decode cL_law 1618 = .ok (.iconst 2, 1) := by decide +kernel
theorem dL_law_1619 : decode cL_law 1619 = .ok (.iadd, 1) := by decide +kernel
theorem dL_law_1620 : decode cL_law 1620 = .ok (.iaload, 1) := by decide +kernel
theorem tw_1513 : Cond.methodLink RL 172 yX11_bury ∈ wsL_law := List.mem_of_getElem? (i := 1513) (by decide +kernel)
theorem tw_1514 : Cond.instanceMethod yX11_bury ∈ wsL_law := List.mem_of_getElem? (i := 1514) (by decide +kernel)
theorem tw_1515 : Cond.selects RX11 yX11_bury yX11_bury ∈ wsL_law := List.mem_of_getElem? (i := 1515) (by decide +kernel)
theorem tw_1516 : Cond.code yX11_bury cX11_bury 3 (some .boolean) ∈ wsL_law := List.mem_of_getElem? (i := 1516) (by decide +kernel)
theorem dL_law_1621 : decode cL_law 1621 = .ok (.invokevirtual 172, 3) := by decide +kernel
theorem dL_law_1624 : decode cL_law 1624 = .ok (.aload_n 2, 1) := by decide +kernel
theorem dL_law_1625 : decode cL_law 1625 = .ok (.aload_n 0, 1) := by decide +kernel
theorem dL_law_1626 : decode cL_law 1626 = .ok (.iload_n 3, 1) := by decide +kernel
theorem dL_law_1627 : decode cL_law 1627 = .ok (.iconst 1, 1) := by decide +kernel
theorem dL_law_1628 : decode cL_law 1628 = .ok (.iadd, 1) := by decide +kernel
theorem dL_law_1629 : decode cL_law 1629 = .ok (.iaload, 1) := by decide +kernel
theorem dL_law_1630 : decode cL_law 1630 = .ok (.aload_n 0, 1) := by decide +kernel
theorem dL_law_1631 : decode cL_law 1631 = .ok (.iload_n 3, 1) := by decide +kernel
theorem dL_law_1632 : decode cL_law 1632 = .ok (.iconst 2, 1) := by decide +kernel
theorem dL_law_1633 : decode cL_law 1633 = .ok (.iadd, 1) := by decide +kernel
theorem dL_law_1634 : decode cL_law 1634 = .ok (.iaload, 1) := by decide +kernel
theorem tw_1521 : Cond.methodLink RL 175 yX12_bury ∈ wsL_law := List.mem_of_getElem? (i := 1521) (by decide +kernel)
theorem tw_1522 : Cond.instanceMethod yX12_bury ∈ wsL_law := List.mem_of_getElem? (i := 1522) (by decide +kernel)
theorem tw_1523 : Cond.selects RX12 yX12_bury yX12_bury ∈ wsL_law := List.mem_of_getElem? (i := 1523) (by decide +kernel)
theorem tw_1524 : Cond.code yX12_bury cX12_bury 3 (some .boolean) ∈ wsL_law := List.mem_of_getElem? (i := 1524) (by decide +kernel)
theorem dL_law_1635 : decode cL_law 1635 = .ok (.invokevirtual 175, 3) := by decide +kernel
theorem dL_law_1638 : decode cL_law 1638 = .ok (.if_icmp .eq 87, 3) := by decide +kernel
theorem dL_law_1643 : decode cL_law 1643 = .ok (.aload_n 1, 1) := by decide +kernel
theorem dL_law_1644 : decode cL_law 1644 = .ok (.aload_n 0, 1) := by decide +kernel
theorem dL_law_1645 : decode cL_law 1645 = .ok (.iload_n 3, 1) := by decide +kernel
theorem dL_law_1646 : decode cL_law 1646 = .ok (.iconst 1, 1) := by decide +kernel
theorem dL_law_1647 : decode cL_law 1647 = .ok (.iadd, 1) := by decide +kernel
theorem dL_law_1648 : decode cL_law 1648 = .ok (.iaload, 1) := by decide +kernel
theorem dL_law_1649 : decode cL_law 1649 = .ok (.aload_n 0, 1) := by decide +kernel
theorem dL_law_1650 : decode cL_law 1650 = .ok (.iload_n 3, 1) := by decide +kernel
theorem dL_law_1651 : decode cL_law 1651 = .ok (.iconst 2, 1) := by decide +kernel
theorem dL_law_1652 : decode cL_law 1652 = .ok (.iadd, 1) := by decide +kernel
theorem dL_law_1653 : decode cL_law 1653 = .ok (.iaload, 1) := by decide +kernel
theorem tw_1525 : Cond.methodLink RL 176 yX11_found ∈ wsL_law := List.mem_of_getElem? (i := 1525) (by decide +kernel)
theorem tw_1526 : Cond.instanceMethod yX11_found ∈ wsL_law := List.mem_of_getElem? (i := 1526) (by decide +kernel)
theorem tw_1527 : Cond.selects RX11 yX11_found yX11_found ∈ wsL_law := List.mem_of_getElem? (i := 1527) (by decide +kernel)
theorem tw_1528 : Cond.code yX11_found cX11_found 3 (some .int) ∈ wsL_law := List.mem_of_getElem? (i := 1528) (by decide +kernel)
theorem dL_law_1654 : decode cL_law 1654 = .ok (.invokevirtual 176, 3) := by decide +kernel
theorem dL_law_1657 : decode cL_law 1657 = .ok (.aload_n 2, 1) := by decide +kernel
theorem dL_law_1658 : decode cL_law 1658 = .ok (.aload_n 0, 1) := by decide +kernel
theorem dL_law_1659 : decode cL_law 1659 = .ok (.iload_n 3, 1) := by decide +kernel
theorem dL_law_1660 : decode cL_law 1660 = .ok (.iconst 1, 1) := by decide +kernel
theorem dL_law_1661 : decode cL_law 1661 = .ok (.iadd, 1) := by decide +kernel
theorem dL_law_1662 : decode cL_law 1662 = .ok (.iaload, 1) := by decide +kernel
theorem dL_law_1663 : decode cL_law 1663 = .ok (.aload_n 0, 1) := by decide +kernel
theorem dL_law_1664 : decode cL_law 1664 = .ok (.iload_n 3, 1) := by decide +kernel
theorem dL_law_1665 : decode cL_law 1665 = .ok (.iconst 2, 1) := by decide +kernel
theorem dL_law_1666 : decode cL_law 1666 = .ok (.iadd, 1) := by decide +kernel
theorem dL_law_1667 : decode cL_law 1667 = .ok (.iaload, 1) := by decide +kernel
theorem tw_1533 : Cond.methodLink RL 179 yX12_found ∈ wsL_law := List.mem_of_getElem? (i := 1533) (by decide +kernel)
theorem tw_1534 : Cond.instanceMethod yX12_found ∈ wsL_law := List.mem_of_getElem? (i := 1534) (by decide +kernel)
theorem tw_1535 : Cond.selects RX12 yX12_found yX12_found ∈ wsL_law := List.mem_of_getElem? (i := 1535) (by decide +kernel)
theorem tw_1536 : Cond.code yX12_found cX12_found 7 (some .int) ∈ wsL_law := List.mem_of_getElem? (i := 1536) (by decide +kernel)
theorem dL_law_1668 : decode cL_law 1668 = .ok (.invokevirtual 179, 3) := by decide +kernel
theorem dL_law_1671 : decode cL_law 1671 = .ok (.if_icmp .eq 54, 3) := by decide +kernel
theorem dL_law_1676 : decode cL_law 1676 = .ok (.aload_n 1, 1) := by decide +kernel
theorem tw_1537 : Cond.methodLink RL 180 yX11_image ∈ wsL_law := List.mem_of_getElem? (i := 1537) (by decide +kernel)
theorem tw_1538 : Cond.instanceMethod yX11_image ∈ wsL_law := List.mem_of_getElem? (i := 1538) (by decide +kernel)
theorem tw_1539 : Cond.selects RX11 yX11_image yX11_image ∈ wsL_law := List.mem_of_getElem? (i := 1539) (by decide +kernel)
theorem tw_1540 : Cond.code yX11_image cX11_image 1 (some .int) ∈ wsL_law := List.mem_of_getElem? (i := 1540) (by decide +kernel)
theorem dL_law_1677 : decode cL_law 1677 = .ok (.invokevirtual 180, 3) := by decide +kernel
theorem dL_law_1680 : decode cL_law 1680 = .ok (.aload_n 2, 1) := by decide +kernel
theorem tw_1541 : Cond.methodLink RL 183 yX12_image ∈ wsL_law := List.mem_of_getElem? (i := 1541) (by decide +kernel)
theorem tw_1542 : Cond.instanceMethod yX12_image ∈ wsL_law := List.mem_of_getElem? (i := 1542) (by decide +kernel)
theorem tw_1543 : Cond.selects RX12 yX12_image yX12_image ∈ wsL_law := List.mem_of_getElem? (i := 1543) (by decide +kernel)
theorem tw_1544 : Cond.code yX12_image cX12_image 1 (some .int) ∈ wsL_law := List.mem_of_getElem? (i := 1544) (by decide +kernel)
theorem dL_law_1681 : decode cL_law 1681 = .ok (.invokevirtual 183, 3) := by decide +kernel
theorem dL_law_1684 : decode cL_law 1684 = .ok (.if_icmp .eq 41, 3) := by decide +kernel
theorem dL_law_1689 : decode cL_law 1689 = .ok (.aload_n 1, 1) := by decide +kernel
theorem tw_1545 : Cond.methodLink RL 184 yX11_back ∈ wsL_law := List.mem_of_getElem? (i := 1545) (by decide +kernel)
theorem tw_1546 : Cond.instanceMethod yX11_back ∈ wsL_law := List.mem_of_getElem? (i := 1546) (by decide +kernel)
theorem tw_1547 : Cond.selects RX11 yX11_back yX11_back ∈ wsL_law := List.mem_of_getElem? (i := 1547) (by decide +kernel)
theorem tw_1548 : Cond.code yX11_back cX11_back 1 (some .int) ∈ wsL_law := List.mem_of_getElem? (i := 1548) (by decide +kernel)
theorem dL_law_1690 : decode cL_law 1690 = .ok (.invokevirtual 184, 3) := by decide +kernel
theorem dL_law_1693 : decode cL_law 1693 = .ok (.aload_n 2, 1) := by decide +kernel
theorem tw_1549 : Cond.methodLink RL 187 yX12_back ∈ wsL_law := List.mem_of_getElem? (i := 1549) (by decide +kernel)
theorem tw_1550 : Cond.instanceMethod yX12_back ∈ wsL_law := List.mem_of_getElem? (i := 1550) (by decide +kernel)
theorem tw_1551 : Cond.selects RX12 yX12_back yX12_back ∈ wsL_law := List.mem_of_getElem? (i := 1551) (by decide +kernel)
theorem tw_1552 : Cond.code yX12_back cX12_back 1 (some .int) ∈ wsL_law := List.mem_of_getElem? (i := 1552) (by decide +kernel)
theorem dL_law_1694 : decode cL_law 1694 = .ok (.invokevirtual 187, 3) := by decide +kernel
theorem dL_law_1697 : decode cL_law 1697 = .ok (.if_icmp .eq 28, 3) := by decide +kernel
theorem dL_law_1702 : decode cL_law 1702 = .ok (.aload_n 1, 1) := by decide +kernel
theorem dL_law_1703 : decode cL_law 1703 = .ok (.aload_n 0, 1) := by decide +kernel
theorem dL_law_1704 : decode cL_law 1704 = .ok (.iload_n 3, 1) := by decide +kernel
theorem dL_law_1705 : decode cL_law 1705 = .ok (.iconst 1, 1) := by decide +kernel
theorem dL_law_1706 : decode cL_law 1706 = .ok (.iadd, 1) := by decide +kernel
theorem dL_law_1707 : decode cL_law 1707 = .ok (.iaload, 1) := by decide +kernel
theorem tw_1553 : Cond.methodLink RL 188 yX11_about ∈ wsL_law := List.mem_of_getElem? (i := 1553) (by decide +kernel)
theorem tw_1554 : Cond.instanceMethod yX11_about ∈ wsL_law := List.mem_of_getElem? (i := 1554) (by decide +kernel)
theorem tw_1555 : Cond.selects RX11 yX11_about yX11_about ∈ wsL_law := List.mem_of_getElem? (i := 1555) (by decide +kernel)
theorem tw_1556 : Cond.code yX11_about cX11_about 2 (some .int) ∈ wsL_law := List.mem_of_getElem? (i := 1556) (by decide +kernel)
theorem dL_law_1708 : decode cL_law 1708 = .ok (.invokevirtual 188, 3) := by decide +kernel
theorem dL_law_1711 : decode cL_law 1711 = .ok (.aload_n 2, 1) := by decide +kernel
theorem dL_law_1712 : decode cL_law 1712 = .ok (.aload_n 0, 1) := by decide +kernel
theorem dL_law_1713 : decode cL_law 1713 = .ok (.iload_n 3, 1) := by decide +kernel
theorem dL_law_1714 : decode cL_law 1714 = .ok (.iconst 1, 1) := by decide +kernel
theorem dL_law_1715 : decode cL_law 1715 = .ok (.iadd, 1) := by decide +kernel
theorem dL_law_1716 : decode cL_law 1716 = .ok (.iaload, 1) := by decide +kernel
theorem tw_1562 : Cond.methodLink RL 191 yX12_about ∈ wsL_law := List.mem_of_getElem? (i := 1562) (by decide +kernel)
theorem tw_1563 : Cond.instanceMethod yX12_about ∈ wsL_law := List.mem_of_getElem? (i := 1563) (by decide +kernel)
theorem tw_1564 : Cond.selects RX12 yX12_about yX12_about ∈ wsL_law := List.mem_of_getElem? (i := 1564) (by decide +kernel)
theorem tw_1565 : Cond.code yX12_about cX12_about 4 (some .int) ∈ wsL_law := List.mem_of_getElem? (i := 1565) (by decide +kernel)
theorem dL_law_1717 : decode cL_law 1717 = .ok (.invokevirtual 191, 3) := by decide +kernel
theorem dL_law_1720 : decode cL_law 1720 = .ok (.if_icmp .eq 5, 3) := by decide +kernel
set_option maxHeartbeats 8000000 in
set_option maxRecDepth 100000 in
theorem lw_op_28 {p : Program} {e : Env} {s : State} {m : MethodId} {below : List Frame} {meth : Method} {c : Code} {b : Nat} (l : Launch) (hx : p.tables.exec = Jvm.exec) (hb : c.code = cL_law) (hr : meth.sig.returnType = ret) (hml : c.maxLocals = 4) (hown : s.vm.findClass RL = some m.cls) (hlocks : meth.locks = false) (hts : ∀ w ∈ (Cond.initialized RX11 :: wsL_law), w.before #[Value.ref b] s = true) (xs : Nat → Int32) (hX : va_X b 7 xs s s.heap) (hbl : b < s.heap.size) {D : va_G} {t : pq_T} (hK : va_K D vwCl (pq_ty t) s) (hN : pq_N s) {σ τ : pq_S} {I : Nat → Nat → Int32} {J : Nat → Nat → Int64} {ri : Nat → Nat → Int32} {rj : Nat → Nat → Int64} {rq : Nat → Nat → Option Nat} {I2 : Nat → Nat → Int32} {J2 : Nat → Nat → Int64} {si : Nat → Nat → Int32} {sj : Nat → Nat → Int64} {sq : Nat → Nat → Option Nat} {this that : Nat} (hokx : okRingsUnder σ I this) (hL_this : this ∈ σ.1) (hK_this : σ.2.1 this = 11) (hZ : pq_Z I) (hq0 : rq = fun _ _ => none) (hokm : okModel τ I2 si that) (hL_that : that ∈ τ.1) (hK_that : τ.2.1 that = 12) (hdis : ∀ a, a ∈ τ.1 → a ∉ σ.1) {H : Heap} {locs : List Loc} (hP : va_P D vwCl (pq_P t σ (I, J, ri, rj, rq)) H) (hD : va_D (fun q => s.heap.size ≤ q) (pq_P t σ (I, J, ri, rj, rq))) (hP2 : va_P D vwCl (pq_P t τ (I2, J2, si, sj, sq)) H) (hD2 : va_D (fun q => s.heap.size ≤ q) (pq_P t τ (I2, J2, si, sj, sq))) (hS : va_S (fun q => s.heap.size ≤ q) s.heap H locs) {ls : Array Slot} (hl : lv_has ls 4 [(3, .int 0), (2, .ref that), (1, .ref this), (0, .ref b)]) : W p l e room_1 s m #[Value.ref b] below meth c H locs 207 49062 (lw_Z below #[Value.ref b] s) (F0 m 1316 ls []) := by
  have hA : ∀ q : Nat, s.heap.size ≤ q → s.heap.size ≤ q := fun _ h => h
  obtain ⟨y_this_352, y_this_353, y_this_354, y_this_355, y_this_356, hd_this_352_353, hd_this_352_354, hd_this_353_354⟩ := id hokx
  obtain ⟨-, this_now, hR_this_now, hL_this_now, hK_this_now, ho_this_now⟩ := y_this_352
  obtain ⟨y_this_now_325, y_this_now_326, y_this_now_327, y_this_now_328, y_this_now_329, y_this_now_330, y_this_now_331, y_this_now_332, hi_this_now_320, hi_this_now_323, hi_this_now_324⟩ := id ho_this_now
  obtain ⟨y_that_384, y_that_385, y_that_386, y_that_387, y_that_400, y_that_404, y_that_405, y_that_408, y_that_409, y_that_411, y_that_412, y_that_413, y_that_414, hi_that_388, hi_that_389, hi_that_390, hi_that_391, hd_that_384_385, hd_that_384_386, hd_that_384_414, hd_that_386_414, hF_384, hF_385⟩ := id hokm
  obtain ⟨-, that_a, hR_that_a, hL_that_a, hK_that_a, hN_that_a⟩ := y_that_384
  refine lv_aload_n hx hb dL_law_1316 rfl (lv_at hl 2 rfl) ?_
  refine lk_i (va_runV (As := []) (rest := []) ⟨hx, hb, hml, hown, hts⟩ (c_X11_area l D t σ I J ri rj rq H.size this hL_this hK_this this_now hR_this_now hL_this_now hK_this_now hi_this_now_324) (cwV 0 hts (tw_V tw_1312 tw_1313 tw_1314 tw_2 tw_1315) rfl rfl rfl (by decide +kernel) ⟨Nat.le_of_ble_eq_true rfl, Nat.le_of_ble_eq_true rfl⟩) ⟨pq_blind, pq_recv hK hP hL_this hK_this (by decide) rfl, pq_pre hK hN hP hD⟩ rfl rfl hl.1 rfl (lv_room (Nat.le_of_ble_eq_true rfl)) dL_law_1317 ⟨Nat.le_of_ble_eq_true rfl, Nat.le_of_ble_eq_true rfl⟩) hD hS hA hP2 hdis (fun r1 u1 H locs hw1 hP2 hS => ?_)
  obtain ⟨-, hr1⟩ := hw1
  refine lv_aload_n hx hb dL_law_1320 rfl (lv_at hl 1 rfl) ?_
  refine pk_i (va_runV (As := []) (rest := [.int r1]) ⟨hx, hb, hml, hown, hts⟩ (c_X12_area l D t τ I2 J2 si sj sq H.size that hL_that hK_that that_a hR_that_a hL_that_a hK_that_a hN_that_a (okF_at hF_384 hR_that_a)) (cwV 0 hts (tw_V tw_1317 tw_1318 tw_1319 tw_5 tw_1320) rfl rfl rfl (by decide +kernel) ⟨Nat.le_of_ble_eq_true rfl, Nat.le_of_ble_eq_true rfl⟩) ⟨pq_blind, pq_recv hK hP2 hL_that hK_that (by decide) rfl, pq_pre hK hN hP2 hD2⟩ rfl rfl hl.1 rfl (lv_room (Nat.le_of_ble_eq_true rfl)) dL_law_1321 ⟨Nat.le_of_ble_eq_true rfl, Nat.le_of_ble_eq_true rfl⟩) hD2 hS hA (fun r2 σ3 μ3 H locs hw2 hP3 hD3 hS => ?_)
  obtain ⟨-, hr2⟩ := hw2
  have he : r1 = r2 := by exact hr1.trans hr2.symm
  refine lv_icmp_eq (tgt := 1725) hx hb dL_law_1324 (by decide) (fun _ => ?_) (fun q => absurd he q)
  exact lw_tail l hx hb hr hlocks hX hbl (by decide) (by decide) hS (lv_sub hl [3, 0] rfl)
set_option maxHeartbeats 8000000 in
set_option maxRecDepth 100000 in
theorem lw_op_29 {p : Program} {e : Env} {s : State} {m : MethodId} {below : List Frame} {meth : Method} {c : Code} {b : Nat} (l : Launch) (hx : p.tables.exec = Jvm.exec) (hb : c.code = cL_law) (hr : meth.sig.returnType = ret) (hml : c.maxLocals = 4) (hown : s.vm.findClass RL = some m.cls) (hlocks : meth.locks = false) (hts : ∀ w ∈ (Cond.initialized RX11 :: wsL_law), w.before #[Value.ref b] s = true) (xs : Nat → Int32) (hX : va_X b 7 xs s s.heap) (hbl : b < s.heap.size) {D : va_G} {t : pq_T} (hK : va_K D vwCl (pq_ty t) s) (hN : pq_N s) {σ τ : pq_S} {I : Nat → Nat → Int32} {J : Nat → Nat → Int64} {ri : Nat → Nat → Int32} {rj : Nat → Nat → Int64} {rq : Nat → Nat → Option Nat} {I2 : Nat → Nat → Int32} {J2 : Nat → Nat → Int64} {si : Nat → Nat → Int32} {sj : Nat → Nat → Int64} {sq : Nat → Nat → Option Nat} {this that : Nat} (hokx : okRingsUnder σ I this) (hL_this : this ∈ σ.1) (hK_this : σ.2.1 this = 11) (hZ : pq_Z I) (hq0 : rq = fun _ _ => none) (hokm : okModel τ I2 si that) (hL_that : that ∈ τ.1) (hK_that : τ.2.1 that = 12) (hdis : ∀ a, a ∈ τ.1 → a ∉ σ.1) {H : Heap} {locs : List Loc} (hP : va_P D vwCl (pq_P t σ (I, J, ri, rj, rq)) H) (hD : va_D (fun q => s.heap.size ≤ q) (pq_P t σ (I, J, ri, rj, rq))) (hP2 : va_P D vwCl (pq_P t τ (I2, J2, si, sj, sq)) H) (hD2 : va_D (fun q => s.heap.size ≤ q) (pq_P t τ (I2, J2, si, sj, sq))) (hS : va_S (fun q => s.heap.size ≤ q) s.heap H locs) {ls : Array Slot} (hl : lv_has ls 4 [(3, .int 0), (2, .ref that), (1, .ref this), (0, .ref b)]) : W p l e room_1 s m #[Value.ref b] below meth c H locs 207 49062 (lw_Z below #[Value.ref b] s) (F0 m 1329 ls []) := by
  have hA : ∀ q : Nat, s.heap.size ≤ q → s.heap.size ≤ q := fun _ h => h
  obtain ⟨y_this_352, y_this_353, y_this_354, y_this_355, y_this_356, hd_this_352_353, hd_this_352_354, hd_this_353_354⟩ := id hokx
  obtain ⟨-, this_now, hR_this_now, hL_this_now, hK_this_now, ho_this_now⟩ := y_this_352
  obtain ⟨y_this_now_325, y_this_now_326, y_this_now_327, y_this_now_328, y_this_now_329, y_this_now_330, y_this_now_331, y_this_now_332, hi_this_now_320, hi_this_now_323, hi_this_now_324⟩ := id ho_this_now
  obtain ⟨-, this_now_folk, hR_this_now_folk, hL_this_now_folk, hK_this_now_folk, ho_this_now_folk⟩ := y_this_now_328
  obtain ⟨y_that_384, y_that_385, y_that_386, y_that_387, y_that_400, y_that_404, y_that_405, y_that_408, y_that_409, y_that_411, y_that_412, y_that_413, y_that_414, hi_that_388, hi_that_389, hi_that_390, hi_that_391, hd_that_384_385, hd_that_384_386, hd_that_384_414, hd_that_386_414, hF_384, hF_385⟩ := id hokm
  obtain ⟨-, that_a, hR_that_a, hL_that_a, hK_that_a, hN_that_a⟩ := y_that_384
  refine lv_aload_n hx hb dL_law_1329 rfl (lv_at hl 2 rfl) ?_
  refine lv_aload_n hx hb dL_law_1330 rfl (lv_at hl 3 rfl) ?_
  refine lv_iload_n hx hb dL_law_1331 rfl (lv_at hl 0 rfl) ?_
  refine lv_iconst (v := 1) hx hb dL_law_1332 (by decide) ?_
  refine lv_iadd hx hb dL_law_1333 ?_
  refine lv_tov 1 (by decide) ?_
  refine va_sld hx hb hX hbl (Nat.not_le.mpr hbl) hS (vp_in_iff.mpr (by decide)) dL_law_1334 ?_
  refine lv_tov (xs 1) rfl ?_
  refine lv_aload_n hx hb dL_law_1335 rfl (lv_at hl 3 rfl) ?_
  refine lv_iload_n hx hb dL_law_1336 rfl (lv_at hl 0 rfl) ?_
  refine lv_iconst (v := 2) hx hb dL_law_1337 (by decide) ?_
  refine lv_iadd hx hb dL_law_1338 ?_
  refine lv_tov 2 (by decide) ?_
  refine va_sld hx hb hX hbl (Nat.not_le.mpr hbl) hS (vp_in_iff.mpr (by decide)) dL_law_1339 ?_
  refine lv_tov (xs 2) rfl ?_
  refine lk_i (va_runV (As := [.int (xs 1), .int (xs 2)]) (rest := []) ⟨hx, hb, hml, hown, hts⟩ (c_X11_choose l D t σ I J ri rj rq H.size this (xs 1) (xs 2) hL_this hK_this this_now hR_this_now hL_this_now hK_this_now this_now_folk hR_this_now_folk hL_this_now_folk hK_this_now_folk hZ) (cwV 2 hts (tw_V tw_1321 tw_1322 tw_1323 tw_2 tw_1324) rfl rfl rfl (by decide +kernel) ⟨Nat.le_of_ble_eq_true rfl, Nat.le_of_ble_eq_true rfl⟩) ⟨pq_blind, pq_recv hK hP hL_this hK_this (by decide) rfl, pq_pre hK hN hP hD⟩ rfl rfl hl.1 rfl (lv_room (Nat.le_of_ble_eq_true rfl)) dL_law_1340 ⟨Nat.le_of_ble_eq_true rfl, Nat.le_of_ble_eq_true rfl⟩) hD hS hA hP2 hdis (fun r1 u1 H locs hw1 hP2 hS => ?_)
  obtain ⟨-, hr1⟩ := hw1
  refine lv_aload_n hx hb dL_law_1343 rfl (lv_at hl 1 rfl) ?_
  refine lv_aload_n hx hb dL_law_1344 rfl (lv_at hl 3 rfl) ?_
  refine lv_iload_n hx hb dL_law_1345 rfl (lv_at hl 0 rfl) ?_
  refine lv_iconst (v := 1) hx hb dL_law_1346 (by decide) ?_
  refine lv_iadd hx hb dL_law_1347 ?_
  refine lv_tov 1 (by decide) ?_
  refine va_sld hx hb hX hbl (Nat.not_le.mpr hbl) hS (vp_in_iff.mpr (by decide)) dL_law_1348 ?_
  refine lv_tov (xs 1) rfl ?_
  refine lv_aload_n hx hb dL_law_1349 rfl (lv_at hl 3 rfl) ?_
  refine lv_iload_n hx hb dL_law_1350 rfl (lv_at hl 0 rfl) ?_
  refine lv_iconst (v := 2) hx hb dL_law_1351 (by decide) ?_
  refine lv_iadd hx hb dL_law_1352 ?_
  refine lv_tov 2 (by decide) ?_
  refine va_sld hx hb hX hbl (Nat.not_le.mpr hbl) hS (vp_in_iff.mpr (by decide)) dL_law_1353 ?_
  refine lv_tov (xs 2) rfl ?_
  refine pk_i (va_runV (As := [.int (xs 1), .int (xs 2)]) (rest := [.int r1]) ⟨hx, hb, hml, hown, hts⟩ (c_X12_choose l D t τ I2 J2 si sj sq H.size that (xs 1) (xs 2) hL_that hK_that that_a hR_that_a hL_that_a hK_that_a hN_that_a (okF_at hF_384 hR_that_a)) (cwV 2 hts (tw_V tw_1326 tw_1327 tw_1328 tw_5 tw_1329) rfl rfl rfl (by decide +kernel) ⟨Nat.le_of_ble_eq_true rfl, Nat.le_of_ble_eq_true rfl⟩) ⟨pq_blind, pq_recv hK hP2 hL_that hK_that (by decide) rfl, pq_pre hK hN hP2 hD2⟩ rfl rfl hl.1 rfl (lv_room (Nat.le_of_ble_eq_true rfl)) dL_law_1354 ⟨Nat.le_of_ble_eq_true rfl, Nat.le_of_ble_eq_true rfl⟩) hD2 hS hA (fun r2 σ3 μ3 H locs hw2 hP3 hD3 hS => ?_)
  obtain ⟨-, hr2⟩ := hw2
  have he : r1 = r2 := by exact hr1.trans hr2.symm
  refine lv_icmp_eq (tgt := 1725) hx hb dL_law_1357 (by decide) (fun _ => ?_) (fun q => absurd he q)
  exact lw_tail l hx hb hr hlocks hX hbl (by decide) (by decide) hS (lv_sub hl [3, 0] rfl)
set_option maxHeartbeats 8000000 in
set_option maxRecDepth 100000 in
theorem lw_op_30 {p : Program} {e : Env} {s : State} {m : MethodId} {below : List Frame} {meth : Method} {c : Code} {b : Nat} (l : Launch) (hx : p.tables.exec = Jvm.exec) (hb : c.code = cL_law) (hr : meth.sig.returnType = ret) (hml : c.maxLocals = 4) (hown : s.vm.findClass RL = some m.cls) (hlocks : meth.locks = false) (hts : ∀ w ∈ (Cond.initialized RX11 :: wsL_law), w.before #[Value.ref b] s = true) (xs : Nat → Int32) (hX : va_X b 7 xs s s.heap) (hbl : b < s.heap.size) {D : va_G} {t : pq_T} (hK : va_K D vwCl (pq_ty t) s) (hN : pq_N s) {σ τ : pq_S} {I : Nat → Nat → Int32} {J : Nat → Nat → Int64} {ri : Nat → Nat → Int32} {rj : Nat → Nat → Int64} {rq : Nat → Nat → Option Nat} {I2 : Nat → Nat → Int32} {J2 : Nat → Nat → Int64} {si : Nat → Nat → Int32} {sj : Nat → Nat → Int64} {sq : Nat → Nat → Option Nat} {this that : Nat} (hokx : okRingsUnder σ I this) (hL_this : this ∈ σ.1) (hK_this : σ.2.1 this = 11) (hZ : pq_Z I) (hq0 : rq = fun _ _ => none) (hokm : okModel τ I2 si that) (hL_that : that ∈ τ.1) (hK_that : τ.2.1 that = 12) (hdis : ∀ a, a ∈ τ.1 → a ∉ σ.1) {H : Heap} {locs : List Loc} (hP : va_P D vwCl (pq_P t σ (I, J, ri, rj, rq)) H) (hD : va_D (fun q => s.heap.size ≤ q) (pq_P t σ (I, J, ri, rj, rq))) (hP2 : va_P D vwCl (pq_P t τ (I2, J2, si, sj, sq)) H) (hD2 : va_D (fun q => s.heap.size ≤ q) (pq_P t τ (I2, J2, si, sj, sq))) (hS : va_S (fun q => s.heap.size ≤ q) s.heap H locs) {ls : Array Slot} (hl : lv_has ls 4 [(3, .int 0), (2, .ref that), (1, .ref this), (0, .ref b)]) : W p l e room_1 s m #[Value.ref b] below meth c H locs 207 49062 (lw_Z below #[Value.ref b] s) (F0 m 1362 ls []) := by
  have hA : ∀ q : Nat, s.heap.size ≤ q → s.heap.size ≤ q := fun _ h => h
  obtain ⟨y_this_352, y_this_353, y_this_354, y_this_355, y_this_356, hd_this_352_353, hd_this_352_354, hd_this_353_354⟩ := id hokx
  obtain ⟨-, this_now, hR_this_now, hL_this_now, hK_this_now, ho_this_now⟩ := y_this_352
  obtain ⟨y_this_now_325, y_this_now_326, y_this_now_327, y_this_now_328, y_this_now_329, y_this_now_330, y_this_now_331, y_this_now_332, hi_this_now_320, hi_this_now_323, hi_this_now_324⟩ := id ho_this_now
  obtain ⟨-, this_now_folk, hR_this_now_folk, hL_this_now_folk, hK_this_now_folk, ho_this_now_folk⟩ := y_this_now_328
  obtain ⟨-, this_now_law, hR_this_now_law, hL_this_now_law, hK_this_now_law, ho_this_now_law⟩ := y_this_now_329
  obtain ⟨y_that_384, y_that_385, y_that_386, y_that_387, y_that_400, y_that_404, y_that_405, y_that_408, y_that_409, y_that_411, y_that_412, y_that_413, y_that_414, hi_that_388, hi_that_389, hi_that_390, hi_that_391, hd_that_384_385, hd_that_384_386, hd_that_384_414, hd_that_386_414, hF_384, hF_385⟩ := id hokm
  obtain ⟨-, that_a, hR_that_a, hL_that_a, hK_that_a, hN_that_a⟩ := y_that_384
  refine lv_aload_n hx hb dL_law_1362 rfl (lv_at hl 2 rfl) ?_
  refine lv_aload_n hx hb dL_law_1363 rfl (lv_at hl 3 rfl) ?_
  refine lv_iload_n hx hb dL_law_1364 rfl (lv_at hl 0 rfl) ?_
  refine lv_iconst (v := 1) hx hb dL_law_1365 (by decide) ?_
  refine lv_iadd hx hb dL_law_1366 ?_
  refine lv_tov 1 (by decide) ?_
  refine va_sld hx hb hX hbl (Nat.not_le.mpr hbl) hS (vp_in_iff.mpr (by decide)) dL_law_1367 ?_
  refine lv_tov (xs 1) rfl ?_
  refine lv_i2l hx hb dL_law_1368 rfl ?_
  refine lv_topl (fun x_1 ex_1 => ?_)
  refine lv_bipush (v := 32) hx hb dL_law_1369 (by decide) ?_
  refine lv_lshl hx hb dL_law_1371 rfl ?_
  refine lv_topl (fun x_2 ex_2 => ?_)
  refine lv_aload_n hx hb dL_law_1372 rfl (lv_at hl 3 rfl) ?_
  refine lv_iload_n hx hb dL_law_1373 rfl (lv_at hl 0 rfl) ?_
  refine lv_iconst (v := 2) hx hb dL_law_1374 (by decide) ?_
  refine lv_iadd hx hb dL_law_1375 ?_
  refine lv_tov 2 (by decide) ?_
  refine va_sld hx hb hX hbl (Nat.not_le.mpr hbl) hS (vp_in_iff.mpr (by decide)) dL_law_1376 ?_
  refine lv_tov (xs 2) rfl ?_
  refine lv_i2l hx hb dL_law_1377 rfl ?_
  refine lv_topl (fun x_3 ex_3 => ?_)
  refine lv_ldc2 hx hb hown (hts _ (tw_c tw_6)) dL_law_1378 ?_
  refine lv_land hx hb dL_law_1381 ?_
  refine lv_topl (fun x_4 ex_4 => ?_)
  refine lv_lor hx hb dL_law_1382 ?_
  refine lv_topl (fun x_5 ex_5 => ?_)
  refine lk_i (va_runV (As := [.long x_5]) (rest := []) ⟨hx, hb, hml, hown, hts⟩ (c_X11_council l D t σ I J ri rj rq H.size this x_5 hL_this hK_this this_now hR_this_now hL_this_now hK_this_now this_now_folk hR_this_now_folk hL_this_now_folk hK_this_now_folk this_now_law hR_this_now_law hL_this_now_law hK_this_now_law hZ) (cwV 1 hts (tw_V tw_1330 tw_1331 tw_1332 tw_2 tw_1333) rfl rfl rfl (by decide +kernel) ⟨Nat.le_of_ble_eq_true rfl, Nat.le_of_ble_eq_true rfl⟩) ⟨pq_blind, pq_recv hK hP hL_this hK_this (by decide) rfl, pq_pre hK hN hP hD⟩ rfl rfl hl.1 rfl (lv_room (Nat.le_of_ble_eq_true rfl)) dL_law_1383 ⟨Nat.le_of_ble_eq_true rfl, Nat.le_of_ble_eq_true rfl⟩) hD hS hA hP2 hdis (fun r1 u1 H locs hw1 hP2 hS => ?_)
  obtain ⟨-, hr1⟩ := hw1
  refine lv_aload_n hx hb dL_law_1386 rfl (lv_at hl 1 rfl) ?_
  refine lv_aload_n hx hb dL_law_1387 rfl (lv_at hl 3 rfl) ?_
  refine lv_iload_n hx hb dL_law_1388 rfl (lv_at hl 0 rfl) ?_
  refine lv_iconst (v := 1) hx hb dL_law_1389 (by decide) ?_
  refine lv_iadd hx hb dL_law_1390 ?_
  refine lv_tov 1 (by decide) ?_
  refine va_sld hx hb hX hbl (Nat.not_le.mpr hbl) hS (vp_in_iff.mpr (by decide)) dL_law_1391 ?_
  refine lv_tov (xs 1) rfl ?_
  refine lv_i2l hx hb dL_law_1392 rfl ?_
  refine lv_topl (fun x_6 ex_6 => ?_)
  refine lv_bipush (v := 32) hx hb dL_law_1393 (by decide) ?_
  refine lv_lshl hx hb dL_law_1395 rfl ?_
  refine lv_topl (fun x_7 ex_7 => ?_)
  refine lv_aload_n hx hb dL_law_1396 rfl (lv_at hl 3 rfl) ?_
  refine lv_iload_n hx hb dL_law_1397 rfl (lv_at hl 0 rfl) ?_
  refine lv_iconst (v := 2) hx hb dL_law_1398 (by decide) ?_
  refine lv_iadd hx hb dL_law_1399 ?_
  refine lv_tov 2 (by decide) ?_
  refine va_sld hx hb hX hbl (Nat.not_le.mpr hbl) hS (vp_in_iff.mpr (by decide)) dL_law_1400 ?_
  refine lv_tov (xs 2) rfl ?_
  refine lv_i2l hx hb dL_law_1401 rfl ?_
  refine lv_topl (fun x_8 ex_8 => ?_)
  refine lv_ldc2 hx hb hown (hts _ (tw_c tw_6)) dL_law_1402 ?_
  refine lv_land hx hb dL_law_1405 ?_
  refine lv_topl (fun x_9 ex_9 => ?_)
  refine lv_lor hx hb dL_law_1406 ?_
  refine lv_topl (fun x_10 ex_10 => ?_)
  refine pk_i (va_runV (As := [.long x_10]) (rest := [.int r1]) ⟨hx, hb, hml, hown, hts⟩ (c_X12_council l D t τ I2 J2 si sj sq H.size that x_10 hL_that hK_that that_a hR_that_a hL_that_a hK_that_a hN_that_a (okF_at hF_384 hR_that_a)) (cwV 1 hts (tw_V tw_1354 tw_1355 tw_1356 tw_5 tw_1357) rfl rfl rfl (by decide +kernel) ⟨Nat.le_of_ble_eq_true rfl, Nat.le_of_ble_eq_true rfl⟩) ⟨pq_blind, pq_recv hK hP2 hL_that hK_that (by decide) rfl, pq_pre hK hN hP2 hD2⟩ rfl rfl hl.1 rfl (lv_room (Nat.le_of_ble_eq_true rfl)) dL_law_1407 ⟨Nat.le_of_ble_eq_true rfl, Nat.le_of_ble_eq_true rfl⟩) hD2 hS hA (fun r2 σ3 μ3 H locs hw2 hP3 hD3 hS => ?_)
  obtain ⟨-, hr2⟩ := hw2
  have he : r1 = r2 := by simp only [hr1, hr2, ex_1, ex_2, ex_3, ex_4, ex_5, ex_6, ex_7, ex_8, ex_9, ex_10]
  refine lv_icmp_eq (tgt := 1725) hx hb dL_law_1410 (by decide) (fun _ => ?_) (fun q => absurd he q)
  exact lw_tail l hx hb hr hlocks hX hbl (by decide) (by decide) hS (lv_sub hl [3, 0] rfl)
set_option maxHeartbeats 8000000 in
set_option maxRecDepth 100000 in
theorem lw_op_31 {p : Program} {e : Env} {s : State} {m : MethodId} {below : List Frame} {meth : Method} {c : Code} {b : Nat} (l : Launch) (hx : p.tables.exec = Jvm.exec) (hb : c.code = cL_law) (hr : meth.sig.returnType = ret) (hml : c.maxLocals = 4) (hown : s.vm.findClass RL = some m.cls) (hlocks : meth.locks = false) (hts : ∀ w ∈ (Cond.initialized RX11 :: wsL_law), w.before #[Value.ref b] s = true) (xs : Nat → Int32) (hX : va_X b 7 xs s s.heap) (hbl : b < s.heap.size) {D : va_G} {t : pq_T} (hK : va_K D vwCl (pq_ty t) s) (hN : pq_N s) {σ τ : pq_S} {I : Nat → Nat → Int32} {J : Nat → Nat → Int64} {ri : Nat → Nat → Int32} {rj : Nat → Nat → Int64} {rq : Nat → Nat → Option Nat} {I2 : Nat → Nat → Int32} {J2 : Nat → Nat → Int64} {si : Nat → Nat → Int32} {sj : Nat → Nat → Int64} {sq : Nat → Nat → Option Nat} {this that : Nat} (hokx : okRingsUnder σ I this) (hL_this : this ∈ σ.1) (hK_this : σ.2.1 this = 11) (hZ : pq_Z I) (hq0 : rq = fun _ _ => none) (hokm : okModel τ I2 si that) (hL_that : that ∈ τ.1) (hK_that : τ.2.1 that = 12) (hdis : ∀ a, a ∈ τ.1 → a ∉ σ.1) {H : Heap} {locs : List Loc} (hP : va_P D vwCl (pq_P t σ (I, J, ri, rj, rq)) H) (hD : va_D (fun q => s.heap.size ≤ q) (pq_P t σ (I, J, ri, rj, rq))) (hP2 : va_P D vwCl (pq_P t τ (I2, J2, si, sj, sq)) H) (hD2 : va_D (fun q => s.heap.size ≤ q) (pq_P t τ (I2, J2, si, sj, sq))) (hS : va_S (fun q => s.heap.size ≤ q) s.heap H locs) {ls : Array Slot} (hl : lv_has ls 4 [(3, .int 0), (2, .ref that), (1, .ref this), (0, .ref b)]) : W p l e room_1 s m #[Value.ref b] below meth c H locs 207 49062 (lw_Z below #[Value.ref b] s) (F0 m 1415 ls []) := by
  have hA : ∀ q : Nat, s.heap.size ≤ q → s.heap.size ≤ q := fun _ h => h
  obtain ⟨y_this_352, y_this_353, y_this_354, y_this_355, y_this_356, hd_this_352_353, hd_this_352_354, hd_this_353_354⟩ := id hokx
  obtain ⟨-, this_now, hR_this_now, hL_this_now, hK_this_now, ho_this_now⟩ := y_this_352
  obtain ⟨y_this_now_325, y_this_now_326, y_this_now_327, y_this_now_328, y_this_now_329, y_this_now_330, y_this_now_331, y_this_now_332, hi_this_now_320, hi_this_now_323, hi_this_now_324⟩ := id ho_this_now
  obtain ⟨-, this_now_land, hR_this_now_land, hL_this_now_land, hK_this_now_land, ho_this_now_land⟩ := y_this_now_327
  obtain ⟨y_this_now_land_68, y_this_now_land_69, y_this_now_land_70, y_this_now_land_71, y_this_now_land_72, y_this_now_land_73, y_this_now_land_74, y_this_now_land_75, y_this_now_land_76, y_this_now_land_77, y_this_now_land_78, y_this_now_land_79, y_this_now_land_80, y_this_now_land_81, y_this_now_land_82, y_this_now_land_83, hd_this_now_land_82_83⟩ := id ho_this_now_land
  obtain ⟨y_that_384, y_that_385, y_that_386, y_that_387, y_that_400, y_that_404, y_that_405, y_that_408, y_that_409, y_that_411, y_that_412, y_that_413, y_that_414, hi_that_388, hi_that_389, hi_that_390, hi_that_391, hd_that_384_385, hd_that_384_386, hd_that_384_414, hd_that_386_414, hF_384, hF_385⟩ := id hokm
  obtain ⟨-, that_a, hR_that_a, hL_that_a, hK_that_a, hN_that_a⟩ := y_that_384
  refine lv_aload_n hx hb dL_law_1415 rfl (lv_at hl 2 rfl) ?_
  refine lv_aload_n hx hb dL_law_1416 rfl (lv_at hl 3 rfl) ?_
  refine lv_iload_n hx hb dL_law_1417 rfl (lv_at hl 0 rfl) ?_
  refine lv_iconst (v := 1) hx hb dL_law_1418 (by decide) ?_
  refine lv_iadd hx hb dL_law_1419 ?_
  refine lv_tov 1 (by decide) ?_
  refine va_sld hx hb hX hbl (Nat.not_le.mpr hbl) hS (vp_in_iff.mpr (by decide)) dL_law_1420 ?_
  refine lv_tov (xs 1) rfl ?_
  refine lv_aload_n hx hb dL_law_1421 rfl (lv_at hl 3 rfl) ?_
  refine lv_iload_n hx hb dL_law_1422 rfl (lv_at hl 0 rfl) ?_
  refine lv_iconst (v := 2) hx hb dL_law_1423 (by decide) ?_
  refine lv_iadd hx hb dL_law_1424 ?_
  refine lv_tov 2 (by decide) ?_
  refine va_sld hx hb hX hbl (Nat.not_le.mpr hbl) hS (vp_in_iff.mpr (by decide)) dL_law_1425 ?_
  refine lv_tov (xs 2) rfl ?_
  refine lv_aload_n hx hb dL_law_1426 rfl (lv_at hl 3 rfl) ?_
  refine lv_iload_n hx hb dL_law_1427 rfl (lv_at hl 0 rfl) ?_
  refine lv_iconst (v := 3) hx hb dL_law_1428 (by decide) ?_
  refine lv_iadd hx hb dL_law_1429 ?_
  refine lv_tov 3 (by decide) ?_
  refine va_sld hx hb hX hbl (Nat.not_le.mpr hbl) hS (vp_in_iff.mpr (by decide)) dL_law_1430 ?_
  refine lv_tov (xs 3) rfl ?_
  refine lk_i (va_runV (As := [.int (xs 1), .int (xs 2), .int (xs 3)]) (rest := []) ⟨hx, hb, hml, hown, hts⟩ (c_X11_sinks l D t σ I J ri rj rq H.size this (xs 1) (xs 2) (xs 3) hL_this hK_this this_now hR_this_now hL_this_now hK_this_now this_now_land hR_this_now_land hL_this_now_land hK_this_now_land hZ hi_this_now_320) (cwV 3 hts (tw_V tw_1358 tw_1359 tw_1360 tw_2 tw_1361) rfl rfl rfl (by decide +kernel) ⟨Nat.le_of_ble_eq_true rfl, Nat.le_of_ble_eq_true rfl⟩) ⟨pq_blind, pq_recv hK hP hL_this hK_this (by decide) rfl, pq_pre hK hN hP hD⟩ rfl rfl hl.1 rfl (lv_room (Nat.le_of_ble_eq_true rfl)) dL_law_1431 ⟨Nat.le_of_ble_eq_true rfl, Nat.le_of_ble_eq_true rfl⟩) hD hS hA hP2 hdis (fun r1 u1 H locs hw1 hP2 hS => ?_)
  obtain ⟨-, hr1⟩ := hw1
  refine lv_aload_n hx hb dL_law_1434 rfl (lv_at hl 1 rfl) ?_
  refine lv_aload_n hx hb dL_law_1435 rfl (lv_at hl 3 rfl) ?_
  refine lv_iload_n hx hb dL_law_1436 rfl (lv_at hl 0 rfl) ?_
  refine lv_iconst (v := 1) hx hb dL_law_1437 (by decide) ?_
  refine lv_iadd hx hb dL_law_1438 ?_
  refine lv_tov 1 (by decide) ?_
  refine va_sld hx hb hX hbl (Nat.not_le.mpr hbl) hS (vp_in_iff.mpr (by decide)) dL_law_1439 ?_
  refine lv_tov (xs 1) rfl ?_
  refine lv_aload_n hx hb dL_law_1440 rfl (lv_at hl 3 rfl) ?_
  refine lv_iload_n hx hb dL_law_1441 rfl (lv_at hl 0 rfl) ?_
  refine lv_iconst (v := 2) hx hb dL_law_1442 (by decide) ?_
  refine lv_iadd hx hb dL_law_1443 ?_
  refine lv_tov 2 (by decide) ?_
  refine va_sld hx hb hX hbl (Nat.not_le.mpr hbl) hS (vp_in_iff.mpr (by decide)) dL_law_1444 ?_
  refine lv_tov (xs 2) rfl ?_
  refine lv_aload_n hx hb dL_law_1445 rfl (lv_at hl 3 rfl) ?_
  refine lv_iload_n hx hb dL_law_1446 rfl (lv_at hl 0 rfl) ?_
  refine lv_iconst (v := 3) hx hb dL_law_1447 (by decide) ?_
  refine lv_iadd hx hb dL_law_1448 ?_
  refine lv_tov 3 (by decide) ?_
  refine va_sld hx hb hX hbl (Nat.not_le.mpr hbl) hS (vp_in_iff.mpr (by decide)) dL_law_1449 ?_
  refine lv_tov (xs 3) rfl ?_
  refine pk_i (va_runV (As := [.int (xs 1), .int (xs 2), .int (xs 3)]) (rest := [.int r1]) ⟨hx, hb, hml, hown, hts⟩ (c_X12_sinks l D t τ I2 J2 si sj sq H.size that (xs 1) (xs 2) (xs 3) hL_that hK_that that_a hR_that_a hL_that_a hK_that_a hN_that_a (okF_at hF_384 hR_that_a)) (cwV 3 hts (tw_V tw_1397 tw_1398 tw_1399 tw_5 tw_1400) rfl rfl rfl (by decide +kernel) ⟨Nat.le_of_ble_eq_true rfl, Nat.le_of_ble_eq_true rfl⟩) ⟨pq_blind, pq_recv hK hP2 hL_that hK_that (by decide) rfl, pq_pre hK hN hP2 hD2⟩ rfl rfl hl.1 rfl (lv_room (Nat.le_of_ble_eq_true rfl)) dL_law_1450 ⟨Nat.le_of_ble_eq_true rfl, Nat.le_of_ble_eq_true rfl⟩) hD2 hS hA (fun r2 σ3 μ3 H locs hw2 hP3 hD3 hS => ?_)
  obtain ⟨-, hr2⟩ := hw2
  have he : r1 = r2 := by exact hr1.trans hr2.symm
  refine lv_icmp_eq (tgt := 1725) hx hb dL_law_1453 (by decide) (fun _ => ?_) (fun q => absurd he q)
  exact lw_tail l hx hb hr hlocks hX hbl (by decide) (by decide) hS (lv_sub hl [3, 0] rfl)
set_option maxHeartbeats 8000000 in
set_option maxRecDepth 100000 in
theorem lw_op_32 {p : Program} {e : Env} {s : State} {m : MethodId} {below : List Frame} {meth : Method} {c : Code} {b : Nat} (l : Launch) (hx : p.tables.exec = Jvm.exec) (hb : c.code = cL_law) (hr : meth.sig.returnType = ret) (hml : c.maxLocals = 4) (hown : s.vm.findClass RL = some m.cls) (hlocks : meth.locks = false) (hts : ∀ w ∈ (Cond.initialized RX11 :: wsL_law), w.before #[Value.ref b] s = true) (xs : Nat → Int32) (hX : va_X b 7 xs s s.heap) (hbl : b < s.heap.size) {D : va_G} {t : pq_T} (hK : va_K D vwCl (pq_ty t) s) (hN : pq_N s) {σ τ : pq_S} {I : Nat → Nat → Int32} {J : Nat → Nat → Int64} {ri : Nat → Nat → Int32} {rj : Nat → Nat → Int64} {rq : Nat → Nat → Option Nat} {I2 : Nat → Nat → Int32} {J2 : Nat → Nat → Int64} {si : Nat → Nat → Int32} {sj : Nat → Nat → Int64} {sq : Nat → Nat → Option Nat} {this that : Nat} (hokx : okRingsUnder σ I this) (hL_this : this ∈ σ.1) (hK_this : σ.2.1 this = 11) (hZ : pq_Z I) (hq0 : rq = fun _ _ => none) (hokm : okModel τ I2 si that) (hL_that : that ∈ τ.1) (hK_that : τ.2.1 that = 12) (hdis : ∀ a, a ∈ τ.1 → a ∉ σ.1) {H : Heap} {locs : List Loc} (hP : va_P D vwCl (pq_P t σ (I, J, ri, rj, rq)) H) (hD : va_D (fun q => s.heap.size ≤ q) (pq_P t σ (I, J, ri, rj, rq))) (hP2 : va_P D vwCl (pq_P t τ (I2, J2, si, sj, sq)) H) (hD2 : va_D (fun q => s.heap.size ≤ q) (pq_P t τ (I2, J2, si, sj, sq))) (hS : va_S (fun q => s.heap.size ≤ q) s.heap H locs) {ls : Array Slot} (hl : lv_has ls 4 [(3, .int 0), (2, .ref that), (1, .ref this), (0, .ref b)]) : W p l e room_1 s m #[Value.ref b] below meth c H locs 207 49062 (lw_Z below #[Value.ref b] s) (F0 m 1458 ls []) := by
  have hA : ∀ q : Nat, s.heap.size ≤ q → s.heap.size ≤ q := fun _ h => h
  obtain ⟨y_this_352, y_this_353, y_this_354, y_this_355, y_this_356, hd_this_352_353, hd_this_352_354, hd_this_353_354⟩ := id hokx
  obtain ⟨-, this_now, hR_this_now, hL_this_now, hK_this_now, ho_this_now⟩ := y_this_352
  obtain ⟨y_this_now_325, y_this_now_326, y_this_now_327, y_this_now_328, y_this_now_329, y_this_now_330, y_this_now_331, y_this_now_332, hi_this_now_320, hi_this_now_323, hi_this_now_324⟩ := id ho_this_now
  obtain ⟨-, this_now_holder, hR_this_now_holder, hL_this_now_holder, hK_this_now_holder, hN_this_now_holder⟩ := y_this_now_325
  obtain ⟨-, this_now_seas, hR_this_now_seas, hL_this_now_seas, hK_this_now_seas, ho_this_now_seas⟩ := y_this_now_326
  obtain ⟨y_this_now_seas_225, y_this_now_seas_226, y_this_now_seas_227, y_this_now_seas_228, y_this_now_seas_229, y_this_now_seas_230, y_this_now_seas_231, y_this_now_seas_232, y_this_now_seas_233, hi_this_now_seas_237⟩ := id ho_this_now_seas
  obtain ⟨-, this_now_seas_rise, hR_this_now_seas_rise, hL_this_now_seas_rise, hK_this_now_seas_rise, hN_this_now_seas_rise⟩ := y_this_now_seas_225
  obtain ⟨-, this_now_seas_month, hR_this_now_seas_month, hL_this_now_seas_month, hK_this_now_seas_month, hN_this_now_seas_month⟩ := y_this_now_seas_226
  obtain ⟨-, this_now_seas_value, hR_this_now_seas_value, hL_this_now_seas_value, hK_this_now_seas_value, hN_this_now_seas_value⟩ := y_this_now_seas_227
  obtain ⟨-, this_now_seas_told, hR_this_now_seas_told, hL_this_now_seas_told, hK_this_now_seas_told, hN_this_now_seas_told⟩ := y_this_now_seas_228
  obtain ⟨-, this_now_seas_low, hR_this_now_seas_low, hL_this_now_seas_low, hK_this_now_seas_low, hN_this_now_seas_low⟩ := y_this_now_seas_229
  obtain ⟨-, this_now_seas_high, hR_this_now_seas_high, hL_this_now_seas_high, hK_this_now_seas_high, hN_this_now_seas_high⟩ := y_this_now_seas_230
  obtain ⟨-, this_now_seas_warm, hR_this_now_seas_warm, hL_this_now_seas_warm, hK_this_now_seas_warm, hN_this_now_seas_warm⟩ := y_this_now_seas_231
  obtain ⟨-, this_now_seas_drift, hR_this_now_seas_drift, hL_this_now_seas_drift, hK_this_now_seas_drift, hN_this_now_seas_drift⟩ := y_this_now_seas_232
  obtain ⟨-, this_now_seas_rain, hR_this_now_seas_rain, hL_this_now_seas_rain, hK_this_now_seas_rain, hN_this_now_seas_rain⟩ := y_this_now_seas_233
  obtain ⟨-, this_now_land, hR_this_now_land, hL_this_now_land, hK_this_now_land, ho_this_now_land⟩ := y_this_now_327
  obtain ⟨y_this_now_land_68, y_this_now_land_69, y_this_now_land_70, y_this_now_land_71, y_this_now_land_72, y_this_now_land_73, y_this_now_land_74, y_this_now_land_75, y_this_now_land_76, y_this_now_land_77, y_this_now_land_78, y_this_now_land_79, y_this_now_land_80, y_this_now_land_81, y_this_now_land_82, y_this_now_land_83, hd_this_now_land_82_83⟩ := id ho_this_now_land
  obtain ⟨-, this_now_land_rocks, hR_this_now_land_rocks, hL_this_now_land_rocks, hK_this_now_land_rocks, hN_this_now_land_rocks⟩ := y_this_now_land_68
  obtain ⟨-, this_now_land_ring, hR_this_now_land_ring, hL_this_now_land_ring, hK_this_now_land_ring, hN_this_now_land_ring⟩ := y_this_now_land_69
  obtain ⟨-, this_now_land_height, hR_this_now_land_height, hL_this_now_land_height, hK_this_now_land_height, hN_this_now_land_height⟩ := y_this_now_land_70
  obtain ⟨-, this_now_land_x, hR_this_now_land_x, hL_this_now_land_x, hK_this_now_land_x, hN_this_now_land_x⟩ := y_this_now_land_71
  obtain ⟨-, this_now_land_y, hR_this_now_land_y, hL_this_now_land_y, hK_this_now_land_y, hN_this_now_land_y⟩ := y_this_now_land_72
  obtain ⟨-, this_now_land_sand, hR_this_now_land_sand, hL_this_now_land_sand, hK_this_now_land_sand, hN_this_now_land_sand⟩ := y_this_now_land_73
  obtain ⟨-, this_now_land_reef, hR_this_now_land_reef, hL_this_now_land_reef, hK_this_now_land_reef, hN_this_now_land_reef⟩ := y_this_now_land_74
  obtain ⟨-, this_now_land_wall, hR_this_now_land_wall, hL_this_now_land_wall, hK_this_now_land_wall, hN_this_now_land_wall⟩ := y_this_now_land_75
  obtain ⟨-, this_now_land_beds, hR_this_now_land_beds, hL_this_now_land_beds, hK_this_now_land_beds, hN_this_now_land_beds⟩ := y_this_now_land_76
  obtain ⟨-, this_now_land_under, hR_this_now_land_under, hL_this_now_land_under, hK_this_now_land_under, hN_this_now_land_under⟩ := y_this_now_land_77
  obtain ⟨-, this_now_land_wells, hR_this_now_land_wells, hL_this_now_land_wells, hK_this_now_land_wells, ho_this_now_land_wells⟩ := y_this_now_land_78
  obtain ⟨y_this_now_land_wells_288, y_this_now_land_wells_289, y_this_now_land_wells_290⟩ := id ho_this_now_land_wells
  obtain ⟨-, this_now_land_wells_gathers, hR_this_now_land_wells_gathers, hL_this_now_land_wells_gathers, hK_this_now_land_wells_gathers, hN_this_now_land_wells_gathers⟩ := y_this_now_land_wells_288
  obtain ⟨-, this_now_land_wells_lens, hR_this_now_land_wells_lens, hL_this_now_land_wells_lens, hK_this_now_land_wells_lens, hN_this_now_land_wells_lens⟩ := y_this_now_land_wells_289
  obtain ⟨-, this_now_land_wells_salt, hR_this_now_land_wells_salt, hL_this_now_land_wells_salt, hK_this_now_land_wells_salt, hN_this_now_land_wells_salt⟩ := y_this_now_land_wells_290
  obtain ⟨-, this_now_land_next, hR_this_now_land_next, hL_this_now_land_next, hK_this_now_land_next, hN_this_now_land_next⟩ := y_this_now_land_79
  obtain ⟨-, this_now_land_first, hR_this_now_land_first, hL_this_now_land_first, hK_this_now_land_first, hN_this_now_land_first⟩ := y_this_now_land_80
  obtain ⟨-, this_now_folk, hR_this_now_folk, hL_this_now_folk, hK_this_now_folk, ho_this_now_folk⟩ := y_this_now_328
  obtain ⟨y_this_now_folk_1, y_this_now_folk_2, y_this_now_folk_3, y_this_now_folk_4, y_this_now_folk_5, y_this_now_folk_6, y_this_now_folk_7, y_this_now_folk_8, y_this_now_folk_9, y_this_now_folk_11, y_this_now_folk_12, y_this_now_folk_13, y_this_now_folk_14, y_this_now_folk_15⟩ := id ho_this_now_folk
  obtain ⟨-, this_now_folk_kin, hR_this_now_folk_kin, hL_this_now_folk_kin, hK_this_now_folk_kin, hN_this_now_folk_kin⟩ := y_this_now_folk_1
  obtain ⟨-, this_now_folk_age, hR_this_now_folk_age, hL_this_now_folk_age, hK_this_now_folk_age, hN_this_now_folk_age⟩ := y_this_now_folk_2
  obtain ⟨-, this_now_folk_craft, hR_this_now_folk_craft, hL_this_now_folk_craft, hK_this_now_folk_craft, hN_this_now_folk_craft⟩ := y_this_now_folk_3
  obtain ⟨-, this_now_folk_send, hR_this_now_folk_send, hL_this_now_folk_send, hK_this_now_folk_send, hN_this_now_folk_send⟩ := y_this_now_folk_4
  obtain ⟨-, this_now_folk_place, hR_this_now_folk_place, hL_this_now_folk_place, hK_this_now_folk_place, hN_this_now_folk_place⟩ := y_this_now_folk_5
  obtain ⟨-, this_now_folk_thirst, hR_this_now_folk_thirst, hL_this_now_folk_thirst, hK_this_now_folk_thirst, hN_this_now_folk_thirst⟩ := y_this_now_folk_6
  obtain ⟨-, this_now_folk_noBed, hR_this_now_folk_noBed, hL_this_now_folk_noBed, hK_this_now_folk_noBed, hN_this_now_folk_noBed⟩ := y_this_now_folk_7
  obtain ⟨-, this_now_folk_went, hR_this_now_folk_went, hL_this_now_folk_went, hK_this_now_folk_went, hN_this_now_folk_went⟩ := y_this_now_folk_8
  obtain ⟨-, this_now_folk_vote, hR_this_now_folk_vote, hL_this_now_folk_vote, hK_this_now_folk_vote, hN_this_now_folk_vote⟩ := y_this_now_folk_9
  obtain ⟨-, this_now_folk_lotBeds, hR_this_now_folk_lotBeds, hL_this_now_folk_lotBeds, hK_this_now_folk_lotBeds, hN_this_now_folk_lotBeds⟩ := y_this_now_folk_11
  obtain ⟨-, this_now_law, hR_this_now_law, hL_this_now_law, hK_this_now_law, ho_this_now_law⟩ := y_this_now_329
  obtain ⟨y_this_now_law_97, y_this_now_law_99, y_this_now_law_100, y_this_now_law_101, y_this_now_law_102, y_this_now_law_103⟩ := id ho_this_now_law
  obtain ⟨-, this_now_law_texts, hR_this_now_law_texts, hL_this_now_law_texts, hK_this_now_law_texts, hN_this_now_law_texts⟩ := y_this_now_law_97
  obtain ⟨-, this_now_law_forceText, hR_this_now_law_forceText, hL_this_now_law_forceText, hK_this_now_law_forceText, hN_this_now_law_forceText⟩ := y_this_now_law_99
  obtain ⟨-, this_now_law_forceFrom, hR_this_now_law_forceFrom, hL_this_now_law_forceFrom, hK_this_now_law_forceFrom, hN_this_now_law_forceFrom⟩ := y_this_now_law_100
  obtain ⟨-, this_now_law_forceTo, hR_this_now_law_forceTo, hL_this_now_law_forceTo, hK_this_now_law_forceTo, hN_this_now_law_forceTo⟩ := y_this_now_law_101
  obtain ⟨-, this_now_graves, hR_this_now_graves, hL_this_now_graves, hK_this_now_graves, ho_this_now_graves⟩ := y_this_now_330
  obtain ⟨y_this_now_graves_33, y_this_now_graves_34⟩ := id ho_this_now_graves
  obtain ⟨-, this_now_graves_cell, hR_this_now_graves_cell, hL_this_now_graves_cell, hK_this_now_graves_cell, hN_this_now_graves_cell⟩ := y_this_now_graves_33
  obtain ⟨-, this_now_graves_lay, hR_this_now_graves_lay, hL_this_now_graves_lay, hK_this_now_graves_lay, hN_this_now_graves_lay⟩ := y_this_now_graves_34
  obtain ⟨-, this_trial, hR_this_trial, hL_this_trial, hK_this_trial, ho_this_trial⟩ := y_this_354
  obtain ⟨y_this_trial_325, y_this_trial_326, y_this_trial_327, y_this_trial_328, y_this_trial_329, y_this_trial_330, y_this_trial_331, y_this_trial_332, hi_this_trial_320, hi_this_trial_323, hi_this_trial_324⟩ := id ho_this_trial
  obtain ⟨-, this_trial_holder, hR_this_trial_holder, hL_this_trial_holder, hK_this_trial_holder, hN_this_trial_holder⟩ := y_this_trial_325
  obtain ⟨-, this_trial_seas, hR_this_trial_seas, hL_this_trial_seas, hK_this_trial_seas, ho_this_trial_seas⟩ := y_this_trial_326
  obtain ⟨y_this_trial_seas_225, y_this_trial_seas_226, y_this_trial_seas_227, y_this_trial_seas_228, y_this_trial_seas_229, y_this_trial_seas_230, y_this_trial_seas_231, y_this_trial_seas_232, y_this_trial_seas_233, hi_this_trial_seas_237⟩ := id ho_this_trial_seas
  obtain ⟨-, this_trial_seas_rise, hR_this_trial_seas_rise, hL_this_trial_seas_rise, hK_this_trial_seas_rise, hN_this_trial_seas_rise⟩ := y_this_trial_seas_225
  obtain ⟨-, this_trial_seas_month, hR_this_trial_seas_month, hL_this_trial_seas_month, hK_this_trial_seas_month, hN_this_trial_seas_month⟩ := y_this_trial_seas_226
  obtain ⟨-, this_trial_seas_value, hR_this_trial_seas_value, hL_this_trial_seas_value, hK_this_trial_seas_value, hN_this_trial_seas_value⟩ := y_this_trial_seas_227
  obtain ⟨-, this_trial_seas_told, hR_this_trial_seas_told, hL_this_trial_seas_told, hK_this_trial_seas_told, hN_this_trial_seas_told⟩ := y_this_trial_seas_228
  obtain ⟨-, this_trial_seas_low, hR_this_trial_seas_low, hL_this_trial_seas_low, hK_this_trial_seas_low, hN_this_trial_seas_low⟩ := y_this_trial_seas_229
  obtain ⟨-, this_trial_seas_high, hR_this_trial_seas_high, hL_this_trial_seas_high, hK_this_trial_seas_high, hN_this_trial_seas_high⟩ := y_this_trial_seas_230
  obtain ⟨-, this_trial_seas_warm, hR_this_trial_seas_warm, hL_this_trial_seas_warm, hK_this_trial_seas_warm, hN_this_trial_seas_warm⟩ := y_this_trial_seas_231
  obtain ⟨-, this_trial_seas_drift, hR_this_trial_seas_drift, hL_this_trial_seas_drift, hK_this_trial_seas_drift, hN_this_trial_seas_drift⟩ := y_this_trial_seas_232
  obtain ⟨-, this_trial_seas_rain, hR_this_trial_seas_rain, hL_this_trial_seas_rain, hK_this_trial_seas_rain, hN_this_trial_seas_rain⟩ := y_this_trial_seas_233
  obtain ⟨-, this_trial_land, hR_this_trial_land, hL_this_trial_land, hK_this_trial_land, ho_this_trial_land⟩ := y_this_trial_327
  obtain ⟨y_this_trial_land_68, y_this_trial_land_69, y_this_trial_land_70, y_this_trial_land_71, y_this_trial_land_72, y_this_trial_land_73, y_this_trial_land_74, y_this_trial_land_75, y_this_trial_land_76, y_this_trial_land_77, y_this_trial_land_78, y_this_trial_land_79, y_this_trial_land_80, y_this_trial_land_81, y_this_trial_land_82, y_this_trial_land_83, hd_this_trial_land_82_83⟩ := id ho_this_trial_land
  obtain ⟨-, this_trial_land_rocks, hR_this_trial_land_rocks, hL_this_trial_land_rocks, hK_this_trial_land_rocks, hN_this_trial_land_rocks⟩ := y_this_trial_land_68
  obtain ⟨-, this_trial_land_ring, hR_this_trial_land_ring, hL_this_trial_land_ring, hK_this_trial_land_ring, hN_this_trial_land_ring⟩ := y_this_trial_land_69
  obtain ⟨-, this_trial_land_height, hR_this_trial_land_height, hL_this_trial_land_height, hK_this_trial_land_height, hN_this_trial_land_height⟩ := y_this_trial_land_70
  obtain ⟨-, this_trial_land_x, hR_this_trial_land_x, hL_this_trial_land_x, hK_this_trial_land_x, hN_this_trial_land_x⟩ := y_this_trial_land_71
  obtain ⟨-, this_trial_land_y, hR_this_trial_land_y, hL_this_trial_land_y, hK_this_trial_land_y, hN_this_trial_land_y⟩ := y_this_trial_land_72
  obtain ⟨-, this_trial_land_sand, hR_this_trial_land_sand, hL_this_trial_land_sand, hK_this_trial_land_sand, hN_this_trial_land_sand⟩ := y_this_trial_land_73
  obtain ⟨-, this_trial_land_reef, hR_this_trial_land_reef, hL_this_trial_land_reef, hK_this_trial_land_reef, hN_this_trial_land_reef⟩ := y_this_trial_land_74
  obtain ⟨-, this_trial_land_wall, hR_this_trial_land_wall, hL_this_trial_land_wall, hK_this_trial_land_wall, hN_this_trial_land_wall⟩ := y_this_trial_land_75
  obtain ⟨-, this_trial_land_beds, hR_this_trial_land_beds, hL_this_trial_land_beds, hK_this_trial_land_beds, hN_this_trial_land_beds⟩ := y_this_trial_land_76
  obtain ⟨-, this_trial_land_under, hR_this_trial_land_under, hL_this_trial_land_under, hK_this_trial_land_under, hN_this_trial_land_under⟩ := y_this_trial_land_77
  obtain ⟨-, this_trial_land_wells, hR_this_trial_land_wells, hL_this_trial_land_wells, hK_this_trial_land_wells, ho_this_trial_land_wells⟩ := y_this_trial_land_78
  obtain ⟨y_this_trial_land_wells_288, y_this_trial_land_wells_289, y_this_trial_land_wells_290⟩ := id ho_this_trial_land_wells
  obtain ⟨-, this_trial_land_wells_gathers, hR_this_trial_land_wells_gathers, hL_this_trial_land_wells_gathers, hK_this_trial_land_wells_gathers, hN_this_trial_land_wells_gathers⟩ := y_this_trial_land_wells_288
  obtain ⟨-, this_trial_land_wells_lens, hR_this_trial_land_wells_lens, hL_this_trial_land_wells_lens, hK_this_trial_land_wells_lens, hN_this_trial_land_wells_lens⟩ := y_this_trial_land_wells_289
  obtain ⟨-, this_trial_land_wells_salt, hR_this_trial_land_wells_salt, hL_this_trial_land_wells_salt, hK_this_trial_land_wells_salt, hN_this_trial_land_wells_salt⟩ := y_this_trial_land_wells_290
  obtain ⟨-, this_trial_land_next, hR_this_trial_land_next, hL_this_trial_land_next, hK_this_trial_land_next, hN_this_trial_land_next⟩ := y_this_trial_land_79
  obtain ⟨-, this_trial_land_first, hR_this_trial_land_first, hL_this_trial_land_first, hK_this_trial_land_first, hN_this_trial_land_first⟩ := y_this_trial_land_80
  obtain ⟨-, this_trial_land_rows, hR_this_trial_land_rows, hL_this_trial_land_rows, hK_this_trial_land_rows, hN_this_trial_land_rows⟩ := y_this_trial_land_82
  obtain ⟨-, this_trial_land_widths, hR_this_trial_land_widths, hL_this_trial_land_widths, hK_this_trial_land_widths, hN_this_trial_land_widths⟩ := y_this_trial_land_83
  obtain ⟨-, this_trial_folk, hR_this_trial_folk, hL_this_trial_folk, hK_this_trial_folk, ho_this_trial_folk⟩ := y_this_trial_328
  obtain ⟨y_this_trial_folk_1, y_this_trial_folk_2, y_this_trial_folk_3, y_this_trial_folk_4, y_this_trial_folk_5, y_this_trial_folk_6, y_this_trial_folk_7, y_this_trial_folk_8, y_this_trial_folk_9, y_this_trial_folk_11, y_this_trial_folk_12, y_this_trial_folk_13, y_this_trial_folk_14, y_this_trial_folk_15⟩ := id ho_this_trial_folk
  obtain ⟨-, this_trial_folk_kin, hR_this_trial_folk_kin, hL_this_trial_folk_kin, hK_this_trial_folk_kin, hN_this_trial_folk_kin⟩ := y_this_trial_folk_1
  obtain ⟨-, this_trial_folk_age, hR_this_trial_folk_age, hL_this_trial_folk_age, hK_this_trial_folk_age, hN_this_trial_folk_age⟩ := y_this_trial_folk_2
  obtain ⟨-, this_trial_folk_craft, hR_this_trial_folk_craft, hL_this_trial_folk_craft, hK_this_trial_folk_craft, hN_this_trial_folk_craft⟩ := y_this_trial_folk_3
  obtain ⟨-, this_trial_folk_send, hR_this_trial_folk_send, hL_this_trial_folk_send, hK_this_trial_folk_send, hN_this_trial_folk_send⟩ := y_this_trial_folk_4
  obtain ⟨-, this_trial_folk_place, hR_this_trial_folk_place, hL_this_trial_folk_place, hK_this_trial_folk_place, hN_this_trial_folk_place⟩ := y_this_trial_folk_5
  obtain ⟨-, this_trial_folk_thirst, hR_this_trial_folk_thirst, hL_this_trial_folk_thirst, hK_this_trial_folk_thirst, hN_this_trial_folk_thirst⟩ := y_this_trial_folk_6
  obtain ⟨-, this_trial_folk_noBed, hR_this_trial_folk_noBed, hL_this_trial_folk_noBed, hK_this_trial_folk_noBed, hN_this_trial_folk_noBed⟩ := y_this_trial_folk_7
  obtain ⟨-, this_trial_folk_went, hR_this_trial_folk_went, hL_this_trial_folk_went, hK_this_trial_folk_went, hN_this_trial_folk_went⟩ := y_this_trial_folk_8
  obtain ⟨-, this_trial_folk_vote, hR_this_trial_folk_vote, hL_this_trial_folk_vote, hK_this_trial_folk_vote, hN_this_trial_folk_vote⟩ := y_this_trial_folk_9
  obtain ⟨-, this_trial_folk_lotBeds, hR_this_trial_folk_lotBeds, hL_this_trial_folk_lotBeds, hK_this_trial_folk_lotBeds, hN_this_trial_folk_lotBeds⟩ := y_this_trial_folk_11
  obtain ⟨-, this_trial_law, hR_this_trial_law, hL_this_trial_law, hK_this_trial_law, ho_this_trial_law⟩ := y_this_trial_329
  obtain ⟨y_this_trial_law_97, y_this_trial_law_99, y_this_trial_law_100, y_this_trial_law_101, y_this_trial_law_102, y_this_trial_law_103⟩ := id ho_this_trial_law
  obtain ⟨-, this_trial_law_texts, hR_this_trial_law_texts, hL_this_trial_law_texts, hK_this_trial_law_texts, hN_this_trial_law_texts⟩ := y_this_trial_law_97
  obtain ⟨-, this_trial_law_forceText, hR_this_trial_law_forceText, hL_this_trial_law_forceText, hK_this_trial_law_forceText, hN_this_trial_law_forceText⟩ := y_this_trial_law_99
  obtain ⟨-, this_trial_law_forceFrom, hR_this_trial_law_forceFrom, hL_this_trial_law_forceFrom, hK_this_trial_law_forceFrom, hN_this_trial_law_forceFrom⟩ := y_this_trial_law_100
  obtain ⟨-, this_trial_law_forceTo, hR_this_trial_law_forceTo, hL_this_trial_law_forceTo, hK_this_trial_law_forceTo, hN_this_trial_law_forceTo⟩ := y_this_trial_law_101
  obtain ⟨-, this_trial_graves, hR_this_trial_graves, hL_this_trial_graves, hK_this_trial_graves, ho_this_trial_graves⟩ := y_this_trial_330
  obtain ⟨y_this_trial_graves_33, y_this_trial_graves_34⟩ := id ho_this_trial_graves
  obtain ⟨-, this_trial_graves_cell, hR_this_trial_graves_cell, hL_this_trial_graves_cell, hK_this_trial_graves_cell, hN_this_trial_graves_cell⟩ := y_this_trial_graves_33
  obtain ⟨-, this_trial_graves_lay, hR_this_trial_graves_lay, hL_this_trial_graves_lay, hK_this_trial_graves_lay, hN_this_trial_graves_lay⟩ := y_this_trial_graves_34
  obtain ⟨y_that_384, y_that_385, y_that_386, y_that_387, y_that_400, y_that_404, y_that_405, y_that_408, y_that_409, y_that_411, y_that_412, y_that_413, y_that_414, hi_that_388, hi_that_389, hi_that_390, hi_that_391, hd_that_384_385, hd_that_384_386, hd_that_384_414, hd_that_386_414, hF_384, hF_385⟩ := id hokm
  obtain ⟨-, that_a, hR_that_a, hL_that_a, hK_that_a, hN_that_a⟩ := y_that_384
  obtain ⟨-, that_kept, hR_that_kept, hL_that_kept, hK_that_kept, hN_that_kept⟩ := y_that_386
  refine lv_aload_n hx hb dL_law_1458 rfl (lv_at hl 2 rfl) ?_
  refine lv_aload_n hx hb dL_law_1459 rfl (lv_at hl 3 rfl) ?_
  refine lv_iload_n hx hb dL_law_1460 rfl (lv_at hl 0 rfl) ?_
  refine lv_iconst (v := 1) hx hb dL_law_1461 (by decide) ?_
  refine lv_iadd hx hb dL_law_1462 ?_
  refine lv_tov 1 (by decide) ?_
  refine va_sld hx hb hX hbl (Nat.not_le.mpr hbl) hS (vp_in_iff.mpr (by decide)) dL_law_1463 ?_
  refine lv_tov (xs 1) rfl ?_
  refine lv_aload_n hx hb dL_law_1464 rfl (lv_at hl 3 rfl) ?_
  refine lv_iload_n hx hb dL_law_1465 rfl (lv_at hl 0 rfl) ?_
  refine lv_iconst (v := 2) hx hb dL_law_1466 (by decide) ?_
  refine lv_iadd hx hb dL_law_1467 ?_
  refine lv_tov 2 (by decide) ?_
  refine va_sld hx hb hX hbl (Nat.not_le.mpr hbl) hS (vp_in_iff.mpr (by decide)) dL_law_1468 ?_
  refine lv_tov (xs 2) rfl ?_
  refine lk_i (va_runV (As := [.int (xs 1), .int (xs 2)]) (rest := []) ⟨hx, hb, hml, hown, hts⟩ (c_X11_cant l D t σ I J ri rj rq H.size this (xs 1) (xs 2) hL_this hK_this this_now hR_this_now hL_this_now hK_this_now this_now_seas hR_this_now_seas hL_this_now_seas hK_this_now_seas this_trial hR_this_trial hL_this_trial hK_this_trial this_trial_seas hR_this_trial_seas hL_this_trial_seas hK_this_trial_seas this_trial_land hR_this_trial_land hL_this_trial_land hK_this_trial_land this_trial_seas_warm hR_this_trial_seas_warm hL_this_trial_seas_warm hK_this_trial_seas_warm hN_this_trial_seas_warm this_trial_seas_drift hR_this_trial_seas_drift hL_this_trial_seas_drift hK_this_trial_seas_drift hN_this_trial_seas_drift this_trial_seas_high hR_this_trial_seas_high hL_this_trial_seas_high hK_this_trial_seas_high hN_this_trial_seas_high this_trial_seas_low hR_this_trial_seas_low hL_this_trial_seas_low hK_this_trial_seas_low hN_this_trial_seas_low this_trial_land_rocks hR_this_trial_land_rocks hL_this_trial_land_rocks hK_this_trial_land_rocks hN_this_trial_land_rocks this_trial_law hR_this_trial_law hL_this_trial_law hK_this_trial_law this_trial_land_rows hR_this_trial_land_rows hL_this_trial_land_rows hK_this_trial_land_rows hN_this_trial_land_rows this_trial_land_widths hR_this_trial_land_widths hL_this_trial_land_widths hK_this_trial_land_widths hN_this_trial_land_widths this_trial_folk hR_this_trial_folk hL_this_trial_folk hK_this_trial_folk this_now_holder hR_this_now_holder hL_this_now_holder hK_this_now_holder hN_this_now_holder this_trial_holder hR_this_trial_holder hL_this_trial_holder hK_this_trial_holder hN_this_trial_holder this_now_seas_rise hR_this_now_seas_rise hL_this_now_seas_rise hK_this_now_seas_rise hN_this_now_seas_rise this_trial_seas_rise hR_this_trial_seas_rise hL_this_trial_seas_rise hK_this_trial_seas_rise hN_this_trial_seas_rise this_now_seas_month hR_this_now_seas_month hL_this_now_seas_month hK_this_now_seas_month hN_this_now_seas_month this_trial_seas_month hR_this_trial_seas_month hL_this_trial_seas_month hK_this_trial_seas_month hN_this_trial_seas_month this_now_seas_value hR_this_now_seas_value hL_this_now_seas_value hK_this_now_seas_value hN_this_now_seas_value this_trial_seas_value hR_this_trial_seas_value hL_this_trial_seas_value hK_this_trial_seas_value hN_this_trial_seas_value this_now_seas_told hR_this_now_seas_told hL_this_now_seas_told hK_this_now_seas_told hN_this_now_seas_told this_trial_seas_told hR_this_trial_seas_told hL_this_trial_seas_told hK_this_trial_seas_told hN_this_trial_seas_told this_now_seas_low hR_this_now_seas_low hL_this_now_seas_low hK_this_now_seas_low hN_this_now_seas_low this_now_seas_high hR_this_now_seas_high hL_this_now_seas_high hK_this_now_seas_high hN_this_now_seas_high this_now_seas_warm hR_this_now_seas_warm hL_this_now_seas_warm hK_this_now_seas_warm hN_this_now_seas_warm this_now_seas_drift hR_this_now_seas_drift hL_this_now_seas_drift hK_this_now_seas_drift hN_this_now_seas_drift this_now_seas_rain hR_this_now_seas_rain hL_this_now_seas_rain hK_this_now_seas_rain hN_this_now_seas_rain this_trial_seas_rain hR_this_trial_seas_rain hL_this_trial_seas_rain hK_this_trial_seas_rain hN_this_trial_seas_rain this_now_land hR_this_now_land hL_this_now_land hK_this_now_land this_now_land_rocks hR_this_now_land_rocks hL_this_now_land_rocks hK_this_now_land_rocks hN_this_now_land_rocks this_now_land_ring hR_this_now_land_ring hL_this_now_land_ring hK_this_now_land_ring hN_this_now_land_ring this_trial_land_ring hR_this_trial_land_ring hL_this_trial_land_ring hK_this_trial_land_ring hN_this_trial_land_ring this_now_land_height hR_this_now_land_height hL_this_now_land_height hK_this_now_land_height hN_this_now_land_height this_trial_land_height hR_this_trial_land_height hL_this_trial_land_height hK_this_trial_land_height hN_this_trial_land_height this_now_land_x hR_this_now_land_x hL_this_now_land_x hK_this_now_land_x hN_this_now_land_x this_trial_land_x hR_this_trial_land_x hL_this_trial_land_x hK_this_trial_land_x hN_this_trial_land_x this_now_land_y hR_this_now_land_y hL_this_now_land_y hK_this_now_land_y hN_this_now_land_y this_trial_land_y hR_this_trial_land_y hL_this_trial_land_y hK_this_trial_land_y hN_this_trial_land_y this_now_land_sand hR_this_now_land_sand hL_this_now_land_sand hK_this_now_land_sand hN_this_now_land_sand this_trial_land_sand hR_this_trial_land_sand hL_this_trial_land_sand hK_this_trial_land_sand hN_this_trial_land_sand this_now_land_reef hR_this_now_land_reef hL_this_now_land_reef hK_this_now_land_reef hN_this_now_land_reef this_trial_land_reef hR_this_trial_land_reef hL_this_trial_land_reef hK_this_trial_land_reef hN_this_trial_land_reef this_now_land_wall hR_this_now_land_wall hL_this_now_land_wall hK_this_now_land_wall hN_this_now_land_wall this_trial_land_wall hR_this_trial_land_wall hL_this_trial_land_wall hK_this_trial_land_wall hN_this_trial_land_wall this_now_land_beds hR_this_now_land_beds hL_this_now_land_beds hK_this_now_land_beds hN_this_now_land_beds this_trial_land_beds hR_this_trial_land_beds hL_this_trial_land_beds hK_this_trial_land_beds hN_this_trial_land_beds this_now_land_under hR_this_now_land_under hL_this_now_land_under hK_this_now_land_under hN_this_now_land_under this_trial_land_under hR_this_trial_land_under hL_this_trial_land_under hK_this_trial_land_under hN_this_trial_land_under this_trial_land_wells hR_this_trial_land_wells hL_this_trial_land_wells hK_this_trial_land_wells this_now_land_wells hR_this_now_land_wells hL_this_now_land_wells hK_this_now_land_wells this_now_land_wells_gathers hR_this_now_land_wells_gathers hL_this_now_land_wells_gathers hK_this_now_land_wells_gathers hN_this_now_land_wells_gathers this_trial_land_wells_gathers hR_this_trial_land_wells_gathers hL_this_trial_land_wells_gathers hK_this_trial_land_wells_gathers hN_this_trial_land_wells_gathers this_now_land_wells_lens hR_this_now_land_wells_lens hL_this_now_land_wells_lens hK_this_now_land_wells_lens hN_this_now_land_wells_lens this_trial_land_wells_lens hR_this_trial_land_wells_lens hL_this_trial_land_wells_lens hK_this_trial_land_wells_lens hN_this_trial_land_wells_lens this_now_land_wells_salt hR_this_now_land_wells_salt hL_this_now_land_wells_salt hK_this_now_land_wells_salt hN_this_now_land_wells_salt this_trial_land_wells_salt hR_this_trial_land_wells_salt hL_this_trial_land_wells_salt hK_this_trial_land_wells_salt hN_this_trial_land_wells_salt this_now_land_next hR_this_now_land_next hL_this_now_land_next hK_this_now_land_next hN_this_now_land_next this_trial_land_next hR_this_trial_land_next hL_this_trial_land_next hK_this_trial_land_next hN_this_trial_land_next this_now_land_first hR_this_now_land_first hL_this_now_land_first hK_this_now_land_first hN_this_now_land_first this_trial_land_first hR_this_trial_land_first hL_this_trial_land_first hK_this_trial_land_first hN_this_trial_land_first this_now_folk hR_this_now_folk hL_this_now_folk hK_this_now_folk this_now_folk_kin hR_this_now_folk_kin hL_this_now_folk_kin hK_this_now_folk_kin hN_this_now_folk_kin this_trial_folk_kin hR_this_trial_folk_kin hL_this_trial_folk_kin hK_this_trial_folk_kin hN_this_trial_folk_kin this_now_folk_age hR_this_now_folk_age hL_this_now_folk_age hK_this_now_folk_age hN_this_now_folk_age this_trial_folk_age hR_this_trial_folk_age hL_this_trial_folk_age hK_this_trial_folk_age hN_this_trial_folk_age this_now_folk_craft hR_this_now_folk_craft hL_this_now_folk_craft hK_this_now_folk_craft hN_this_now_folk_craft this_trial_folk_craft hR_this_trial_folk_craft hL_this_trial_folk_craft hK_this_trial_folk_craft hN_this_trial_folk_craft this_now_folk_send hR_this_now_folk_send hL_this_now_folk_send hK_this_now_folk_send hN_this_now_folk_send this_trial_folk_send hR_this_trial_folk_send hL_this_trial_folk_send hK_this_trial_folk_send hN_this_trial_folk_send this_now_folk_place hR_this_now_folk_place hL_this_now_folk_place hK_this_now_folk_place hN_this_now_folk_place this_trial_folk_place hR_this_trial_folk_place hL_this_trial_folk_place hK_this_trial_folk_place hN_this_trial_folk_place this_now_folk_thirst hR_this_now_folk_thirst hL_this_now_folk_thirst hK_this_now_folk_thirst hN_this_now_folk_thirst this_trial_folk_thirst hR_this_trial_folk_thirst hL_this_trial_folk_thirst hK_this_trial_folk_thirst hN_this_trial_folk_thirst this_now_folk_noBed hR_this_now_folk_noBed hL_this_now_folk_noBed hK_this_now_folk_noBed hN_this_now_folk_noBed this_trial_folk_noBed hR_this_trial_folk_noBed hL_this_trial_folk_noBed hK_this_trial_folk_noBed hN_this_trial_folk_noBed this_now_folk_went hR_this_now_folk_went hL_this_now_folk_went hK_this_now_folk_went hN_this_now_folk_went this_trial_folk_went hR_this_trial_folk_went hL_this_trial_folk_went hK_this_trial_folk_went hN_this_trial_folk_went this_now_folk_vote hR_this_now_folk_vote hL_this_now_folk_vote hK_this_now_folk_vote hN_this_now_folk_vote this_trial_folk_vote hR_this_trial_folk_vote hL_this_trial_folk_vote hK_this_trial_folk_vote hN_this_trial_folk_vote this_now_folk_lotBeds hR_this_now_folk_lotBeds hL_this_now_folk_lotBeds hK_this_now_folk_lotBeds hN_this_now_folk_lotBeds this_trial_folk_lotBeds hR_this_trial_folk_lotBeds hL_this_trial_folk_lotBeds hK_this_trial_folk_lotBeds hN_this_trial_folk_lotBeds this_now_law hR_this_now_law hL_this_now_law hK_this_now_law this_trial_law_texts hR_this_trial_law_texts hL_this_trial_law_texts hK_this_trial_law_texts hN_this_trial_law_texts this_now_law_texts hR_this_now_law_texts hL_this_now_law_texts hK_this_now_law_texts hN_this_now_law_texts this_now_law_forceText hR_this_now_law_forceText hL_this_now_law_forceText hK_this_now_law_forceText hN_this_now_law_forceText this_trial_law_forceText hR_this_trial_law_forceText hL_this_trial_law_forceText hK_this_trial_law_forceText hN_this_trial_law_forceText this_now_law_forceFrom hR_this_now_law_forceFrom hL_this_now_law_forceFrom hK_this_now_law_forceFrom hN_this_now_law_forceFrom this_trial_law_forceFrom hR_this_trial_law_forceFrom hL_this_trial_law_forceFrom hK_this_trial_law_forceFrom hN_this_trial_law_forceFrom this_now_law_forceTo hR_this_now_law_forceTo hL_this_now_law_forceTo hK_this_now_law_forceTo hN_this_now_law_forceTo this_trial_law_forceTo hR_this_trial_law_forceTo hL_this_trial_law_forceTo hK_this_trial_law_forceTo hN_this_trial_law_forceTo this_trial_graves hR_this_trial_graves hL_this_trial_graves hK_this_trial_graves this_now_graves hR_this_now_graves hL_this_now_graves hK_this_now_graves this_now_graves_cell hR_this_now_graves_cell hL_this_now_graves_cell hK_this_now_graves_cell hN_this_now_graves_cell this_trial_graves_cell hR_this_trial_graves_cell hL_this_trial_graves_cell hK_this_trial_graves_cell hN_this_trial_graves_cell this_now_graves_lay hR_this_now_graves_lay hL_this_now_graves_lay hK_this_now_graves_lay hN_this_now_graves_lay this_trial_graves_lay hR_this_trial_graves_lay hL_this_trial_graves_lay hK_this_trial_graves_lay hN_this_trial_graves_lay hZ hi_this_now_320 hq0 hi_this_now_seas_237 (okD_at hd_this_trial_land_82_83 hR_this_trial_land_rows hR_this_trial_land_widths)) (cwV 2 hts (tw_V tw_1401 tw_1402 tw_1403 tw_2 tw_1404) rfl rfl rfl (by decide +kernel) ⟨Nat.le_of_ble_eq_true rfl, Nat.le_of_ble_eq_true rfl⟩) ⟨pq_blind, pq_recv hK hP hL_this hK_this (by decide) rfl, pq_pre hK hN hP hD⟩ rfl rfl hl.1 rfl (lv_room (Nat.le_of_ble_eq_true rfl)) dL_law_1469 ⟨Nat.le_of_ble_eq_true rfl, Nat.le_of_ble_eq_true rfl⟩) hD hS hA hP2 hdis (fun r1 u1 H locs hw1 hP2 hS => ?_)
  obtain ⟨_, _, _, _, -, -, hr1⟩ := hw1
  refine lv_aload_n hx hb dL_law_1472 rfl (lv_at hl 1 rfl) ?_
  refine lv_aload_n hx hb dL_law_1473 rfl (lv_at hl 3 rfl) ?_
  refine lv_iload_n hx hb dL_law_1474 rfl (lv_at hl 0 rfl) ?_
  refine lv_iconst (v := 1) hx hb dL_law_1475 (by decide) ?_
  refine lv_iadd hx hb dL_law_1476 ?_
  refine lv_tov 1 (by decide) ?_
  refine va_sld hx hb hX hbl (Nat.not_le.mpr hbl) hS (vp_in_iff.mpr (by decide)) dL_law_1477 ?_
  refine lv_tov (xs 1) rfl ?_
  refine lv_aload_n hx hb dL_law_1478 rfl (lv_at hl 3 rfl) ?_
  refine lv_iload_n hx hb dL_law_1479 rfl (lv_at hl 0 rfl) ?_
  refine lv_iconst (v := 2) hx hb dL_law_1480 (by decide) ?_
  refine lv_iadd hx hb dL_law_1481 ?_
  refine lv_tov 2 (by decide) ?_
  refine va_sld hx hb hX hbl (Nat.not_le.mpr hbl) hS (vp_in_iff.mpr (by decide)) dL_law_1482 ?_
  refine lv_tov (xs 2) rfl ?_
  refine pk_i (va_runV (As := [.int (xs 1), .int (xs 2)]) (rest := [.int r1]) ⟨hx, hb, hml, hown, hts⟩ (c_X12_cant l D t τ I2 J2 si sj sq H.size that (xs 1) (xs 2) hL_that hK_that that_a hR_that_a hL_that_a hK_that_a hN_that_a that_kept hR_that_kept hL_that_kept hK_that_kept hN_that_kept (okF_at hF_384 hR_that_a) (okD_at hd_that_384_386 hR_that_a hR_that_kept)) (cwV 2 hts (tw_V tw_1407 tw_1408 tw_1409 tw_5 tw_1410) rfl rfl rfl (by decide +kernel) ⟨Nat.le_of_ble_eq_true rfl, Nat.le_of_ble_eq_true rfl⟩) ⟨pq_blind, pq_recv hK hP2 hL_that hK_that (by decide) rfl, pq_pre hK hN hP2 hD2⟩ rfl rfl hl.1 rfl (lv_room (Nat.le_of_ble_eq_true rfl)) dL_law_1483 ⟨Nat.le_of_ble_eq_true rfl, Nat.le_of_ble_eq_true rfl⟩) hD2 hS hA (fun r2 σ3 μ3 H locs hw2 hP3 hD3 hS => ?_)
  obtain ⟨_, _, -, hr2⟩ := hw2
  have he : r1 = r2 := by exact hr1.trans hr2.symm
  refine lv_icmp_eq (tgt := 1725) hx hb dL_law_1486 (by decide) (fun _ => ?_) (fun q => absurd he q)
  exact lw_tail l hx hb hr hlocks hX hbl (by decide) (by decide) hS (lv_sub hl [3, 0] rfl)
set_option maxHeartbeats 8000000 in
set_option maxRecDepth 100000 in
theorem lw_op_33 {p : Program} {e : Env} {s : State} {m : MethodId} {below : List Frame} {meth : Method} {c : Code} {b : Nat} (l : Launch) (hx : p.tables.exec = Jvm.exec) (hb : c.code = cL_law) (hr : meth.sig.returnType = ret) (hml : c.maxLocals = 4) (hown : s.vm.findClass RL = some m.cls) (hlocks : meth.locks = false) (hts : ∀ w ∈ (Cond.initialized RX11 :: wsL_law), w.before #[Value.ref b] s = true) (xs : Nat → Int32) (hX : va_X b 7 xs s s.heap) (hbl : b < s.heap.size) {D : va_G} {t : pq_T} (hK : va_K D vwCl (pq_ty t) s) (hN : pq_N s) {σ τ : pq_S} {I : Nat → Nat → Int32} {J : Nat → Nat → Int64} {ri : Nat → Nat → Int32} {rj : Nat → Nat → Int64} {rq : Nat → Nat → Option Nat} {I2 : Nat → Nat → Int32} {J2 : Nat → Nat → Int64} {si : Nat → Nat → Int32} {sj : Nat → Nat → Int64} {sq : Nat → Nat → Option Nat} {this that : Nat} (hokx : okRingsUnder σ I this) (hL_this : this ∈ σ.1) (hK_this : σ.2.1 this = 11) (hZ : pq_Z I) (hq0 : rq = fun _ _ => none) (hokm : okModel τ I2 si that) (hL_that : that ∈ τ.1) (hK_that : τ.2.1 that = 12) (hdis : ∀ a, a ∈ τ.1 → a ∉ σ.1) {H : Heap} {locs : List Loc} (hP : va_P D vwCl (pq_P t σ (I, J, ri, rj, rq)) H) (hD : va_D (fun q => s.heap.size ≤ q) (pq_P t σ (I, J, ri, rj, rq))) (hP2 : va_P D vwCl (pq_P t τ (I2, J2, si, sj, sq)) H) (hD2 : va_D (fun q => s.heap.size ≤ q) (pq_P t τ (I2, J2, si, sj, sq))) (hS : va_S (fun q => s.heap.size ≤ q) s.heap H locs) {ls : Array Slot} (hl : lv_has ls 4 [(3, .int 0), (2, .ref that), (1, .ref this), (0, .ref b)]) : W p l e room_1 s m #[Value.ref b] below meth c H locs 207 49062 (lw_Z below #[Value.ref b] s) (F0 m 1491 ls []) := by
  have hA : ∀ q : Nat, s.heap.size ≤ q → s.heap.size ≤ q := fun _ h => h
  obtain ⟨y_this_352, y_this_353, y_this_354, y_this_355, y_this_356, hd_this_352_353, hd_this_352_354, hd_this_353_354⟩ := id hokx
  obtain ⟨-, this_now, hR_this_now, hL_this_now, hK_this_now, ho_this_now⟩ := y_this_352
  obtain ⟨y_this_now_325, y_this_now_326, y_this_now_327, y_this_now_328, y_this_now_329, y_this_now_330, y_this_now_331, y_this_now_332, hi_this_now_320, hi_this_now_323, hi_this_now_324⟩ := id ho_this_now
  obtain ⟨-, this_now_land, hR_this_now_land, hL_this_now_land, hK_this_now_land, ho_this_now_land⟩ := y_this_now_327
  obtain ⟨y_this_now_land_68, y_this_now_land_69, y_this_now_land_70, y_this_now_land_71, y_this_now_land_72, y_this_now_land_73, y_this_now_land_74, y_this_now_land_75, y_this_now_land_76, y_this_now_land_77, y_this_now_land_78, y_this_now_land_79, y_this_now_land_80, y_this_now_land_81, y_this_now_land_82, y_this_now_land_83, hd_this_now_land_82_83⟩ := id ho_this_now_land
  obtain ⟨y_that_384, y_that_385, y_that_386, y_that_387, y_that_400, y_that_404, y_that_405, y_that_408, y_that_409, y_that_411, y_that_412, y_that_413, y_that_414, hi_that_388, hi_that_389, hi_that_390, hi_that_391, hd_that_384_385, hd_that_384_386, hd_that_384_414, hd_that_386_414, hF_384, hF_385⟩ := id hokm
  obtain ⟨-, that_a, hR_that_a, hL_that_a, hK_that_a, hN_that_a⟩ := y_that_384
  refine lv_aload_n hx hb dL_law_1491 rfl (lv_at hl 2 rfl) ?_
  refine lv_aload_n hx hb dL_law_1492 rfl (lv_at hl 3 rfl) ?_
  refine lv_iload_n hx hb dL_law_1493 rfl (lv_at hl 0 rfl) ?_
  refine lv_iconst (v := 1) hx hb dL_law_1494 (by decide) ?_
  refine lv_iadd hx hb dL_law_1495 ?_
  refine lv_tov 1 (by decide) ?_
  refine va_sld hx hb hX hbl (Nat.not_le.mpr hbl) hS (vp_in_iff.mpr (by decide)) dL_law_1496 ?_
  refine lv_tov (xs 1) rfl ?_
  refine lv_aload_n hx hb dL_law_1497 rfl (lv_at hl 3 rfl) ?_
  refine lv_iload_n hx hb dL_law_1498 rfl (lv_at hl 0 rfl) ?_
  refine lv_iconst (v := 2) hx hb dL_law_1499 (by decide) ?_
  refine lv_iadd hx hb dL_law_1500 ?_
  refine lv_tov 2 (by decide) ?_
  refine va_sld hx hb hX hbl (Nat.not_le.mpr hbl) hS (vp_in_iff.mpr (by decide)) dL_law_1501 ?_
  refine lv_tov (xs 2) rfl ?_
  refine lv_aload_n hx hb dL_law_1502 rfl (lv_at hl 3 rfl) ?_
  refine lv_iload_n hx hb dL_law_1503 rfl (lv_at hl 0 rfl) ?_
  refine lv_iconst (v := 3) hx hb dL_law_1504 (by decide) ?_
  refine lv_iadd hx hb dL_law_1505 ?_
  refine lv_tov 3 (by decide) ?_
  refine va_sld hx hb hX hbl (Nat.not_le.mpr hbl) hS (vp_in_iff.mpr (by decide)) dL_law_1506 ?_
  refine lv_tov (xs 3) rfl ?_
  refine lv_aload_n hx hb dL_law_1507 rfl (lv_at hl 3 rfl) ?_
  refine lv_iload_n hx hb dL_law_1508 rfl (lv_at hl 0 rfl) ?_
  refine lv_iconst (v := 4) hx hb dL_law_1509 (by decide) ?_
  refine lv_iadd hx hb dL_law_1510 ?_
  refine lv_tov 4 (by decide) ?_
  refine va_sld hx hb hX hbl (Nat.not_le.mpr hbl) hS (vp_in_iff.mpr (by decide)) dL_law_1511 ?_
  refine lv_tov (xs 4) rfl ?_
  refine lk_i (va_runV (As := [.int (xs 1), .int (xs 2), .int (xs 3), .int (xs 4)]) (rest := []) ⟨hx, hb, hml, hown, hts⟩ (c_X11_keeps l D t σ I J ri rj rq H.size this (xs 1) (xs 2) (xs 3) (xs 4) hL_this hK_this this_now hR_this_now hL_this_now hK_this_now this_now_land hR_this_now_land hL_this_now_land hK_this_now_land hZ hi_this_now_320) (cwV 4 hts (tw_V tw_1411 tw_1412 tw_1413 tw_2 tw_1414) rfl rfl rfl (by decide +kernel) ⟨Nat.le_of_ble_eq_true rfl, Nat.le_of_ble_eq_true rfl⟩) ⟨pq_blind, pq_recv hK hP hL_this hK_this (by decide) rfl, pq_pre hK hN hP hD⟩ rfl rfl hl.1 rfl (lv_room (Nat.le_of_ble_eq_true rfl)) dL_law_1512 ⟨Nat.le_of_ble_eq_true rfl, Nat.le_of_ble_eq_true rfl⟩) hD hS hA hP2 hdis (fun r1 u1 H locs hw1 hP2 hS => ?_)
  obtain ⟨-, hr1⟩ := hw1
  refine lv_aload_n hx hb dL_law_1515 rfl (lv_at hl 1 rfl) ?_
  refine lv_aload_n hx hb dL_law_1516 rfl (lv_at hl 3 rfl) ?_
  refine lv_iload_n hx hb dL_law_1517 rfl (lv_at hl 0 rfl) ?_
  refine lv_iconst (v := 1) hx hb dL_law_1518 (by decide) ?_
  refine lv_iadd hx hb dL_law_1519 ?_
  refine lv_tov 1 (by decide) ?_
  refine va_sld hx hb hX hbl (Nat.not_le.mpr hbl) hS (vp_in_iff.mpr (by decide)) dL_law_1520 ?_
  refine lv_tov (xs 1) rfl ?_
  refine lv_aload_n hx hb dL_law_1521 rfl (lv_at hl 3 rfl) ?_
  refine lv_iload_n hx hb dL_law_1522 rfl (lv_at hl 0 rfl) ?_
  refine lv_iconst (v := 2) hx hb dL_law_1523 (by decide) ?_
  refine lv_iadd hx hb dL_law_1524 ?_
  refine lv_tov 2 (by decide) ?_
  refine va_sld hx hb hX hbl (Nat.not_le.mpr hbl) hS (vp_in_iff.mpr (by decide)) dL_law_1525 ?_
  refine lv_tov (xs 2) rfl ?_
  refine lv_aload_n hx hb dL_law_1526 rfl (lv_at hl 3 rfl) ?_
  refine lv_iload_n hx hb dL_law_1527 rfl (lv_at hl 0 rfl) ?_
  refine lv_iconst (v := 3) hx hb dL_law_1528 (by decide) ?_
  refine lv_iadd hx hb dL_law_1529 ?_
  refine lv_tov 3 (by decide) ?_
  refine va_sld hx hb hX hbl (Nat.not_le.mpr hbl) hS (vp_in_iff.mpr (by decide)) dL_law_1530 ?_
  refine lv_tov (xs 3) rfl ?_
  refine lv_aload_n hx hb dL_law_1531 rfl (lv_at hl 3 rfl) ?_
  refine lv_iload_n hx hb dL_law_1532 rfl (lv_at hl 0 rfl) ?_
  refine lv_iconst (v := 4) hx hb dL_law_1533 (by decide) ?_
  refine lv_iadd hx hb dL_law_1534 ?_
  refine lv_tov 4 (by decide) ?_
  refine va_sld hx hb hX hbl (Nat.not_le.mpr hbl) hS (vp_in_iff.mpr (by decide)) dL_law_1535 ?_
  refine lv_tov (xs 4) rfl ?_
  refine pk_i (va_runV (As := [.int (xs 1), .int (xs 2), .int (xs 3), .int (xs 4)]) (rest := [.int r1]) ⟨hx, hb, hml, hown, hts⟩ (c_X12_keeps l D t τ I2 J2 si sj sq H.size that (xs 1) (xs 2) (xs 3) (xs 4) hL_that hK_that that_a hR_that_a hL_that_a hK_that_a hN_that_a (okF_at hF_384 hR_that_a)) (cwV 4 hts (tw_V tw_1420 tw_1421 tw_1422 tw_5 tw_1423) rfl rfl rfl (by decide +kernel) ⟨Nat.le_of_ble_eq_true rfl, Nat.le_of_ble_eq_true rfl⟩) ⟨pq_blind, pq_recv hK hP2 hL_that hK_that (by decide) rfl, pq_pre hK hN hP2 hD2⟩ rfl rfl hl.1 rfl (lv_room (Nat.le_of_ble_eq_true rfl)) dL_law_1536 ⟨Nat.le_of_ble_eq_true rfl, Nat.le_of_ble_eq_true rfl⟩) hD2 hS hA (fun r2 σ3 μ3 H locs hw2 hP3 hD3 hS => ?_)
  obtain ⟨-, hr2⟩ := hw2
  have he : r1 = r2 := by exact hr1.trans hr2.symm
  refine lv_icmp_eq (tgt := 1725) hx hb dL_law_1539 (by decide) (fun _ => ?_) (fun q => absurd he q)
  exact lw_tail l hx hb hr hlocks hX hbl (by decide) (by decide) hS (lv_sub hl [3, 0] rfl)
set_option maxHeartbeats 8000000 in
set_option maxRecDepth 100000 in
theorem lw_op_34 {p : Program} {e : Env} {s : State} {m : MethodId} {below : List Frame} {meth : Method} {c : Code} {b : Nat} (l : Launch) (hx : p.tables.exec = Jvm.exec) (hb : c.code = cL_law) (hr : meth.sig.returnType = ret) (hml : c.maxLocals = 4) (hown : s.vm.findClass RL = some m.cls) (hlocks : meth.locks = false) (hts : ∀ w ∈ (Cond.initialized RX11 :: wsL_law), w.before #[Value.ref b] s = true) (xs : Nat → Int32) (hX : va_X b 7 xs s s.heap) (hbl : b < s.heap.size) {D : va_G} {t : pq_T} (hK : va_K D vwCl (pq_ty t) s) (hN : pq_N s) {σ τ : pq_S} {I : Nat → Nat → Int32} {J : Nat → Nat → Int64} {ri : Nat → Nat → Int32} {rj : Nat → Nat → Int64} {rq : Nat → Nat → Option Nat} {I2 : Nat → Nat → Int32} {J2 : Nat → Nat → Int64} {si : Nat → Nat → Int32} {sj : Nat → Nat → Int64} {sq : Nat → Nat → Option Nat} {this that : Nat} (hokx : okRingsUnder σ I this) (hL_this : this ∈ σ.1) (hK_this : σ.2.1 this = 11) (hZ : pq_Z I) (hq0 : rq = fun _ _ => none) (hokm : okModel τ I2 si that) (hL_that : that ∈ τ.1) (hK_that : τ.2.1 that = 12) (hdis : ∀ a, a ∈ τ.1 → a ∉ σ.1) {H : Heap} {locs : List Loc} (hP : va_P D vwCl (pq_P t σ (I, J, ri, rj, rq)) H) (hD : va_D (fun q => s.heap.size ≤ q) (pq_P t σ (I, J, ri, rj, rq))) (hP2 : va_P D vwCl (pq_P t τ (I2, J2, si, sj, sq)) H) (hD2 : va_D (fun q => s.heap.size ≤ q) (pq_P t τ (I2, J2, si, sj, sq))) (hS : va_S (fun q => s.heap.size ≤ q) s.heap H locs) {ls : Array Slot} (hl : lv_has ls 4 [(3, .int 0), (2, .ref that), (1, .ref this), (0, .ref b)]) : W p l e room_1 s m #[Value.ref b] below meth c H locs 207 49062 (lw_Z below #[Value.ref b] s) (F0 m 1544 ls []) := by
  have hA : ∀ q : Nat, s.heap.size ≤ q → s.heap.size ≤ q := fun _ h => h
  obtain ⟨y_this_352, y_this_353, y_this_354, y_this_355, y_this_356, hd_this_352_353, hd_this_352_354, hd_this_353_354⟩ := id hokx
  obtain ⟨-, this_now, hR_this_now, hL_this_now, hK_this_now, ho_this_now⟩ := y_this_352
  obtain ⟨y_this_now_325, y_this_now_326, y_this_now_327, y_this_now_328, y_this_now_329, y_this_now_330, y_this_now_331, y_this_now_332, hi_this_now_320, hi_this_now_323, hi_this_now_324⟩ := id ho_this_now
  obtain ⟨-, this_now_holder, hR_this_now_holder, hL_this_now_holder, hK_this_now_holder, hN_this_now_holder⟩ := y_this_now_325
  obtain ⟨-, this_now_seas, hR_this_now_seas, hL_this_now_seas, hK_this_now_seas, ho_this_now_seas⟩ := y_this_now_326
  obtain ⟨y_this_now_seas_225, y_this_now_seas_226, y_this_now_seas_227, y_this_now_seas_228, y_this_now_seas_229, y_this_now_seas_230, y_this_now_seas_231, y_this_now_seas_232, y_this_now_seas_233, hi_this_now_seas_237⟩ := id ho_this_now_seas
  obtain ⟨-, this_now_seas_rise, hR_this_now_seas_rise, hL_this_now_seas_rise, hK_this_now_seas_rise, hN_this_now_seas_rise⟩ := y_this_now_seas_225
  obtain ⟨-, this_now_seas_month, hR_this_now_seas_month, hL_this_now_seas_month, hK_this_now_seas_month, hN_this_now_seas_month⟩ := y_this_now_seas_226
  obtain ⟨-, this_now_seas_value, hR_this_now_seas_value, hL_this_now_seas_value, hK_this_now_seas_value, hN_this_now_seas_value⟩ := y_this_now_seas_227
  obtain ⟨-, this_now_seas_told, hR_this_now_seas_told, hL_this_now_seas_told, hK_this_now_seas_told, hN_this_now_seas_told⟩ := y_this_now_seas_228
  obtain ⟨-, this_now_seas_low, hR_this_now_seas_low, hL_this_now_seas_low, hK_this_now_seas_low, hN_this_now_seas_low⟩ := y_this_now_seas_229
  obtain ⟨-, this_now_seas_high, hR_this_now_seas_high, hL_this_now_seas_high, hK_this_now_seas_high, hN_this_now_seas_high⟩ := y_this_now_seas_230
  obtain ⟨-, this_now_seas_warm, hR_this_now_seas_warm, hL_this_now_seas_warm, hK_this_now_seas_warm, hN_this_now_seas_warm⟩ := y_this_now_seas_231
  obtain ⟨-, this_now_seas_drift, hR_this_now_seas_drift, hL_this_now_seas_drift, hK_this_now_seas_drift, hN_this_now_seas_drift⟩ := y_this_now_seas_232
  obtain ⟨-, this_now_seas_rain, hR_this_now_seas_rain, hL_this_now_seas_rain, hK_this_now_seas_rain, hN_this_now_seas_rain⟩ := y_this_now_seas_233
  obtain ⟨-, this_now_land, hR_this_now_land, hL_this_now_land, hK_this_now_land, ho_this_now_land⟩ := y_this_now_327
  obtain ⟨y_this_now_land_68, y_this_now_land_69, y_this_now_land_70, y_this_now_land_71, y_this_now_land_72, y_this_now_land_73, y_this_now_land_74, y_this_now_land_75, y_this_now_land_76, y_this_now_land_77, y_this_now_land_78, y_this_now_land_79, y_this_now_land_80, y_this_now_land_81, y_this_now_land_82, y_this_now_land_83, hd_this_now_land_82_83⟩ := id ho_this_now_land
  obtain ⟨-, this_now_land_rocks, hR_this_now_land_rocks, hL_this_now_land_rocks, hK_this_now_land_rocks, hN_this_now_land_rocks⟩ := y_this_now_land_68
  obtain ⟨-, this_now_land_ring, hR_this_now_land_ring, hL_this_now_land_ring, hK_this_now_land_ring, hN_this_now_land_ring⟩ := y_this_now_land_69
  obtain ⟨-, this_now_land_height, hR_this_now_land_height, hL_this_now_land_height, hK_this_now_land_height, hN_this_now_land_height⟩ := y_this_now_land_70
  obtain ⟨-, this_now_land_x, hR_this_now_land_x, hL_this_now_land_x, hK_this_now_land_x, hN_this_now_land_x⟩ := y_this_now_land_71
  obtain ⟨-, this_now_land_y, hR_this_now_land_y, hL_this_now_land_y, hK_this_now_land_y, hN_this_now_land_y⟩ := y_this_now_land_72
  obtain ⟨-, this_now_land_sand, hR_this_now_land_sand, hL_this_now_land_sand, hK_this_now_land_sand, hN_this_now_land_sand⟩ := y_this_now_land_73
  obtain ⟨-, this_now_land_reef, hR_this_now_land_reef, hL_this_now_land_reef, hK_this_now_land_reef, hN_this_now_land_reef⟩ := y_this_now_land_74
  obtain ⟨-, this_now_land_wall, hR_this_now_land_wall, hL_this_now_land_wall, hK_this_now_land_wall, hN_this_now_land_wall⟩ := y_this_now_land_75
  obtain ⟨-, this_now_land_beds, hR_this_now_land_beds, hL_this_now_land_beds, hK_this_now_land_beds, hN_this_now_land_beds⟩ := y_this_now_land_76
  obtain ⟨-, this_now_land_under, hR_this_now_land_under, hL_this_now_land_under, hK_this_now_land_under, hN_this_now_land_under⟩ := y_this_now_land_77
  obtain ⟨-, this_now_land_wells, hR_this_now_land_wells, hL_this_now_land_wells, hK_this_now_land_wells, ho_this_now_land_wells⟩ := y_this_now_land_78
  obtain ⟨y_this_now_land_wells_288, y_this_now_land_wells_289, y_this_now_land_wells_290⟩ := id ho_this_now_land_wells
  obtain ⟨-, this_now_land_wells_gathers, hR_this_now_land_wells_gathers, hL_this_now_land_wells_gathers, hK_this_now_land_wells_gathers, hN_this_now_land_wells_gathers⟩ := y_this_now_land_wells_288
  obtain ⟨-, this_now_land_wells_lens, hR_this_now_land_wells_lens, hL_this_now_land_wells_lens, hK_this_now_land_wells_lens, hN_this_now_land_wells_lens⟩ := y_this_now_land_wells_289
  obtain ⟨-, this_now_land_wells_salt, hR_this_now_land_wells_salt, hL_this_now_land_wells_salt, hK_this_now_land_wells_salt, hN_this_now_land_wells_salt⟩ := y_this_now_land_wells_290
  obtain ⟨-, this_now_land_next, hR_this_now_land_next, hL_this_now_land_next, hK_this_now_land_next, hN_this_now_land_next⟩ := y_this_now_land_79
  obtain ⟨-, this_now_land_first, hR_this_now_land_first, hL_this_now_land_first, hK_this_now_land_first, hN_this_now_land_first⟩ := y_this_now_land_80
  obtain ⟨-, this_now_folk, hR_this_now_folk, hL_this_now_folk, hK_this_now_folk, ho_this_now_folk⟩ := y_this_now_328
  obtain ⟨y_this_now_folk_1, y_this_now_folk_2, y_this_now_folk_3, y_this_now_folk_4, y_this_now_folk_5, y_this_now_folk_6, y_this_now_folk_7, y_this_now_folk_8, y_this_now_folk_9, y_this_now_folk_11, y_this_now_folk_12, y_this_now_folk_13, y_this_now_folk_14, y_this_now_folk_15⟩ := id ho_this_now_folk
  obtain ⟨-, this_now_folk_kin, hR_this_now_folk_kin, hL_this_now_folk_kin, hK_this_now_folk_kin, hN_this_now_folk_kin⟩ := y_this_now_folk_1
  obtain ⟨-, this_now_folk_age, hR_this_now_folk_age, hL_this_now_folk_age, hK_this_now_folk_age, hN_this_now_folk_age⟩ := y_this_now_folk_2
  obtain ⟨-, this_now_folk_craft, hR_this_now_folk_craft, hL_this_now_folk_craft, hK_this_now_folk_craft, hN_this_now_folk_craft⟩ := y_this_now_folk_3
  obtain ⟨-, this_now_folk_send, hR_this_now_folk_send, hL_this_now_folk_send, hK_this_now_folk_send, hN_this_now_folk_send⟩ := y_this_now_folk_4
  obtain ⟨-, this_now_folk_place, hR_this_now_folk_place, hL_this_now_folk_place, hK_this_now_folk_place, hN_this_now_folk_place⟩ := y_this_now_folk_5
  obtain ⟨-, this_now_folk_thirst, hR_this_now_folk_thirst, hL_this_now_folk_thirst, hK_this_now_folk_thirst, hN_this_now_folk_thirst⟩ := y_this_now_folk_6
  obtain ⟨-, this_now_folk_noBed, hR_this_now_folk_noBed, hL_this_now_folk_noBed, hK_this_now_folk_noBed, hN_this_now_folk_noBed⟩ := y_this_now_folk_7
  obtain ⟨-, this_now_folk_went, hR_this_now_folk_went, hL_this_now_folk_went, hK_this_now_folk_went, hN_this_now_folk_went⟩ := y_this_now_folk_8
  obtain ⟨-, this_now_folk_vote, hR_this_now_folk_vote, hL_this_now_folk_vote, hK_this_now_folk_vote, hN_this_now_folk_vote⟩ := y_this_now_folk_9
  obtain ⟨-, this_now_folk_lotBeds, hR_this_now_folk_lotBeds, hL_this_now_folk_lotBeds, hK_this_now_folk_lotBeds, hN_this_now_folk_lotBeds⟩ := y_this_now_folk_11
  obtain ⟨-, this_now_law, hR_this_now_law, hL_this_now_law, hK_this_now_law, ho_this_now_law⟩ := y_this_now_329
  obtain ⟨y_this_now_law_97, y_this_now_law_99, y_this_now_law_100, y_this_now_law_101, y_this_now_law_102, y_this_now_law_103⟩ := id ho_this_now_law
  obtain ⟨-, this_now_law_texts, hR_this_now_law_texts, hL_this_now_law_texts, hK_this_now_law_texts, hN_this_now_law_texts⟩ := y_this_now_law_97
  obtain ⟨-, this_now_law_forceText, hR_this_now_law_forceText, hL_this_now_law_forceText, hK_this_now_law_forceText, hN_this_now_law_forceText⟩ := y_this_now_law_99
  obtain ⟨-, this_now_law_forceFrom, hR_this_now_law_forceFrom, hL_this_now_law_forceFrom, hK_this_now_law_forceFrom, hN_this_now_law_forceFrom⟩ := y_this_now_law_100
  obtain ⟨-, this_now_law_forceTo, hR_this_now_law_forceTo, hL_this_now_law_forceTo, hK_this_now_law_forceTo, hN_this_now_law_forceTo⟩ := y_this_now_law_101
  obtain ⟨-, this_now_graves, hR_this_now_graves, hL_this_now_graves, hK_this_now_graves, ho_this_now_graves⟩ := y_this_now_330
  obtain ⟨y_this_now_graves_33, y_this_now_graves_34⟩ := id ho_this_now_graves
  obtain ⟨-, this_now_graves_cell, hR_this_now_graves_cell, hL_this_now_graves_cell, hK_this_now_graves_cell, hN_this_now_graves_cell⟩ := y_this_now_graves_33
  obtain ⟨-, this_now_graves_lay, hR_this_now_graves_lay, hL_this_now_graves_lay, hK_this_now_graves_lay, hN_this_now_graves_lay⟩ := y_this_now_graves_34
  obtain ⟨-, this_trial, hR_this_trial, hL_this_trial, hK_this_trial, ho_this_trial⟩ := y_this_354
  obtain ⟨y_this_trial_325, y_this_trial_326, y_this_trial_327, y_this_trial_328, y_this_trial_329, y_this_trial_330, y_this_trial_331, y_this_trial_332, hi_this_trial_320, hi_this_trial_323, hi_this_trial_324⟩ := id ho_this_trial
  obtain ⟨-, this_trial_holder, hR_this_trial_holder, hL_this_trial_holder, hK_this_trial_holder, hN_this_trial_holder⟩ := y_this_trial_325
  obtain ⟨-, this_trial_seas, hR_this_trial_seas, hL_this_trial_seas, hK_this_trial_seas, ho_this_trial_seas⟩ := y_this_trial_326
  obtain ⟨y_this_trial_seas_225, y_this_trial_seas_226, y_this_trial_seas_227, y_this_trial_seas_228, y_this_trial_seas_229, y_this_trial_seas_230, y_this_trial_seas_231, y_this_trial_seas_232, y_this_trial_seas_233, hi_this_trial_seas_237⟩ := id ho_this_trial_seas
  obtain ⟨-, this_trial_seas_rise, hR_this_trial_seas_rise, hL_this_trial_seas_rise, hK_this_trial_seas_rise, hN_this_trial_seas_rise⟩ := y_this_trial_seas_225
  obtain ⟨-, this_trial_seas_month, hR_this_trial_seas_month, hL_this_trial_seas_month, hK_this_trial_seas_month, hN_this_trial_seas_month⟩ := y_this_trial_seas_226
  obtain ⟨-, this_trial_seas_value, hR_this_trial_seas_value, hL_this_trial_seas_value, hK_this_trial_seas_value, hN_this_trial_seas_value⟩ := y_this_trial_seas_227
  obtain ⟨-, this_trial_seas_told, hR_this_trial_seas_told, hL_this_trial_seas_told, hK_this_trial_seas_told, hN_this_trial_seas_told⟩ := y_this_trial_seas_228
  obtain ⟨-, this_trial_seas_low, hR_this_trial_seas_low, hL_this_trial_seas_low, hK_this_trial_seas_low, hN_this_trial_seas_low⟩ := y_this_trial_seas_229
  obtain ⟨-, this_trial_seas_high, hR_this_trial_seas_high, hL_this_trial_seas_high, hK_this_trial_seas_high, hN_this_trial_seas_high⟩ := y_this_trial_seas_230
  obtain ⟨-, this_trial_seas_warm, hR_this_trial_seas_warm, hL_this_trial_seas_warm, hK_this_trial_seas_warm, hN_this_trial_seas_warm⟩ := y_this_trial_seas_231
  obtain ⟨-, this_trial_seas_drift, hR_this_trial_seas_drift, hL_this_trial_seas_drift, hK_this_trial_seas_drift, hN_this_trial_seas_drift⟩ := y_this_trial_seas_232
  obtain ⟨-, this_trial_seas_rain, hR_this_trial_seas_rain, hL_this_trial_seas_rain, hK_this_trial_seas_rain, hN_this_trial_seas_rain⟩ := y_this_trial_seas_233
  obtain ⟨-, this_trial_land, hR_this_trial_land, hL_this_trial_land, hK_this_trial_land, ho_this_trial_land⟩ := y_this_trial_327
  obtain ⟨y_this_trial_land_68, y_this_trial_land_69, y_this_trial_land_70, y_this_trial_land_71, y_this_trial_land_72, y_this_trial_land_73, y_this_trial_land_74, y_this_trial_land_75, y_this_trial_land_76, y_this_trial_land_77, y_this_trial_land_78, y_this_trial_land_79, y_this_trial_land_80, y_this_trial_land_81, y_this_trial_land_82, y_this_trial_land_83, hd_this_trial_land_82_83⟩ := id ho_this_trial_land
  obtain ⟨-, this_trial_land_rocks, hR_this_trial_land_rocks, hL_this_trial_land_rocks, hK_this_trial_land_rocks, hN_this_trial_land_rocks⟩ := y_this_trial_land_68
  obtain ⟨-, this_trial_land_ring, hR_this_trial_land_ring, hL_this_trial_land_ring, hK_this_trial_land_ring, hN_this_trial_land_ring⟩ := y_this_trial_land_69
  obtain ⟨-, this_trial_land_height, hR_this_trial_land_height, hL_this_trial_land_height, hK_this_trial_land_height, hN_this_trial_land_height⟩ := y_this_trial_land_70
  obtain ⟨-, this_trial_land_x, hR_this_trial_land_x, hL_this_trial_land_x, hK_this_trial_land_x, hN_this_trial_land_x⟩ := y_this_trial_land_71
  obtain ⟨-, this_trial_land_y, hR_this_trial_land_y, hL_this_trial_land_y, hK_this_trial_land_y, hN_this_trial_land_y⟩ := y_this_trial_land_72
  obtain ⟨-, this_trial_land_sand, hR_this_trial_land_sand, hL_this_trial_land_sand, hK_this_trial_land_sand, hN_this_trial_land_sand⟩ := y_this_trial_land_73
  obtain ⟨-, this_trial_land_reef, hR_this_trial_land_reef, hL_this_trial_land_reef, hK_this_trial_land_reef, hN_this_trial_land_reef⟩ := y_this_trial_land_74
  obtain ⟨-, this_trial_land_wall, hR_this_trial_land_wall, hL_this_trial_land_wall, hK_this_trial_land_wall, hN_this_trial_land_wall⟩ := y_this_trial_land_75
  obtain ⟨-, this_trial_land_beds, hR_this_trial_land_beds, hL_this_trial_land_beds, hK_this_trial_land_beds, hN_this_trial_land_beds⟩ := y_this_trial_land_76
  obtain ⟨-, this_trial_land_under, hR_this_trial_land_under, hL_this_trial_land_under, hK_this_trial_land_under, hN_this_trial_land_under⟩ := y_this_trial_land_77
  obtain ⟨-, this_trial_land_wells, hR_this_trial_land_wells, hL_this_trial_land_wells, hK_this_trial_land_wells, ho_this_trial_land_wells⟩ := y_this_trial_land_78
  obtain ⟨y_this_trial_land_wells_288, y_this_trial_land_wells_289, y_this_trial_land_wells_290⟩ := id ho_this_trial_land_wells
  obtain ⟨-, this_trial_land_wells_gathers, hR_this_trial_land_wells_gathers, hL_this_trial_land_wells_gathers, hK_this_trial_land_wells_gathers, hN_this_trial_land_wells_gathers⟩ := y_this_trial_land_wells_288
  obtain ⟨-, this_trial_land_wells_lens, hR_this_trial_land_wells_lens, hL_this_trial_land_wells_lens, hK_this_trial_land_wells_lens, hN_this_trial_land_wells_lens⟩ := y_this_trial_land_wells_289
  obtain ⟨-, this_trial_land_wells_salt, hR_this_trial_land_wells_salt, hL_this_trial_land_wells_salt, hK_this_trial_land_wells_salt, hN_this_trial_land_wells_salt⟩ := y_this_trial_land_wells_290
  obtain ⟨-, this_trial_land_next, hR_this_trial_land_next, hL_this_trial_land_next, hK_this_trial_land_next, hN_this_trial_land_next⟩ := y_this_trial_land_79
  obtain ⟨-, this_trial_land_first, hR_this_trial_land_first, hL_this_trial_land_first, hK_this_trial_land_first, hN_this_trial_land_first⟩ := y_this_trial_land_80
  obtain ⟨-, this_trial_folk, hR_this_trial_folk, hL_this_trial_folk, hK_this_trial_folk, ho_this_trial_folk⟩ := y_this_trial_328
  obtain ⟨y_this_trial_folk_1, y_this_trial_folk_2, y_this_trial_folk_3, y_this_trial_folk_4, y_this_trial_folk_5, y_this_trial_folk_6, y_this_trial_folk_7, y_this_trial_folk_8, y_this_trial_folk_9, y_this_trial_folk_11, y_this_trial_folk_12, y_this_trial_folk_13, y_this_trial_folk_14, y_this_trial_folk_15⟩ := id ho_this_trial_folk
  obtain ⟨-, this_trial_folk_kin, hR_this_trial_folk_kin, hL_this_trial_folk_kin, hK_this_trial_folk_kin, hN_this_trial_folk_kin⟩ := y_this_trial_folk_1
  obtain ⟨-, this_trial_folk_age, hR_this_trial_folk_age, hL_this_trial_folk_age, hK_this_trial_folk_age, hN_this_trial_folk_age⟩ := y_this_trial_folk_2
  obtain ⟨-, this_trial_folk_craft, hR_this_trial_folk_craft, hL_this_trial_folk_craft, hK_this_trial_folk_craft, hN_this_trial_folk_craft⟩ := y_this_trial_folk_3
  obtain ⟨-, this_trial_folk_send, hR_this_trial_folk_send, hL_this_trial_folk_send, hK_this_trial_folk_send, hN_this_trial_folk_send⟩ := y_this_trial_folk_4
  obtain ⟨-, this_trial_folk_place, hR_this_trial_folk_place, hL_this_trial_folk_place, hK_this_trial_folk_place, hN_this_trial_folk_place⟩ := y_this_trial_folk_5
  obtain ⟨-, this_trial_folk_thirst, hR_this_trial_folk_thirst, hL_this_trial_folk_thirst, hK_this_trial_folk_thirst, hN_this_trial_folk_thirst⟩ := y_this_trial_folk_6
  obtain ⟨-, this_trial_folk_noBed, hR_this_trial_folk_noBed, hL_this_trial_folk_noBed, hK_this_trial_folk_noBed, hN_this_trial_folk_noBed⟩ := y_this_trial_folk_7
  obtain ⟨-, this_trial_folk_went, hR_this_trial_folk_went, hL_this_trial_folk_went, hK_this_trial_folk_went, hN_this_trial_folk_went⟩ := y_this_trial_folk_8
  obtain ⟨-, this_trial_folk_vote, hR_this_trial_folk_vote, hL_this_trial_folk_vote, hK_this_trial_folk_vote, hN_this_trial_folk_vote⟩ := y_this_trial_folk_9
  obtain ⟨-, this_trial_folk_lotBeds, hR_this_trial_folk_lotBeds, hL_this_trial_folk_lotBeds, hK_this_trial_folk_lotBeds, hN_this_trial_folk_lotBeds⟩ := y_this_trial_folk_11
  obtain ⟨-, this_trial_folk_ofRing, hR_this_trial_folk_ofRing, hL_this_trial_folk_ofRing, hK_this_trial_folk_ofRing, hN_this_trial_folk_ofRing⟩ := y_this_trial_folk_12
  obtain ⟨-, this_trial_law, hR_this_trial_law, hL_this_trial_law, hK_this_trial_law, ho_this_trial_law⟩ := y_this_trial_329
  obtain ⟨y_this_trial_law_97, y_this_trial_law_99, y_this_trial_law_100, y_this_trial_law_101, y_this_trial_law_102, y_this_trial_law_103⟩ := id ho_this_trial_law
  obtain ⟨-, this_trial_law_texts, hR_this_trial_law_texts, hL_this_trial_law_texts, hK_this_trial_law_texts, hN_this_trial_law_texts⟩ := y_this_trial_law_97
  obtain ⟨-, this_trial_law_forceText, hR_this_trial_law_forceText, hL_this_trial_law_forceText, hK_this_trial_law_forceText, hN_this_trial_law_forceText⟩ := y_this_trial_law_99
  obtain ⟨-, this_trial_law_forceFrom, hR_this_trial_law_forceFrom, hL_this_trial_law_forceFrom, hK_this_trial_law_forceFrom, hN_this_trial_law_forceFrom⟩ := y_this_trial_law_100
  obtain ⟨-, this_trial_law_forceTo, hR_this_trial_law_forceTo, hL_this_trial_law_forceTo, hK_this_trial_law_forceTo, hN_this_trial_law_forceTo⟩ := y_this_trial_law_101
  obtain ⟨-, this_trial_graves, hR_this_trial_graves, hL_this_trial_graves, hK_this_trial_graves, ho_this_trial_graves⟩ := y_this_trial_330
  obtain ⟨y_this_trial_graves_33, y_this_trial_graves_34⟩ := id ho_this_trial_graves
  obtain ⟨-, this_trial_graves_cell, hR_this_trial_graves_cell, hL_this_trial_graves_cell, hK_this_trial_graves_cell, hN_this_trial_graves_cell⟩ := y_this_trial_graves_33
  obtain ⟨-, this_trial_graves_lay, hR_this_trial_graves_lay, hL_this_trial_graves_lay, hK_this_trial_graves_lay, hN_this_trial_graves_lay⟩ := y_this_trial_graves_34
  obtain ⟨-, this_ringOrders, hR_this_ringOrders, hL_this_ringOrders, hK_this_ringOrders, ho_this_ringOrders⟩ := y_this_355
  obtain ⟨y_this_ringOrders_161, y_this_ringOrders_162, y_this_ringOrders_163, y_this_ringOrders_165, y_this_ringOrders_166, y_this_ringOrders_167⟩ := id ho_this_ringOrders
  obtain ⟨-, this_ringOrders_best, hR_this_ringOrders_best, hL_this_ringOrders_best, hK_this_ringOrders_best, hN_this_ringOrders_best⟩ := y_this_ringOrders_161
  obtain ⟨-, this_ringOrders_order, hR_this_ringOrders_order, hL_this_ringOrders_order, hK_this_ringOrders_order, hN_this_ringOrders_order⟩ := y_this_ringOrders_162
  obtain ⟨-, this_ringOrders_dry, hR_this_ringOrders_dry, hL_this_ringOrders_dry, hK_this_ringOrders_dry, hN_this_ringOrders_dry⟩ := y_this_ringOrders_165
  obtain ⟨-, this_ringOrders_beds, hR_this_ringOrders_beds, hL_this_ringOrders_beds, hK_this_ringOrders_beds, hN_this_ringOrders_beds⟩ := y_this_ringOrders_166
  obtain ⟨-, this_ringOrders_may, hR_this_ringOrders_may, hL_this_ringOrders_may, hK_this_ringOrders_may, hN_this_ringOrders_may⟩ := y_this_ringOrders_167
  obtain ⟨y_that_384, y_that_385, y_that_386, y_that_387, y_that_400, y_that_404, y_that_405, y_that_408, y_that_409, y_that_411, y_that_412, y_that_413, y_that_414, hi_that_388, hi_that_389, hi_that_390, hi_that_391, hd_that_384_385, hd_that_384_386, hd_that_384_414, hd_that_386_414, hF_384, hF_385⟩ := id hokm
  obtain ⟨-, that_a, hR_that_a, hL_that_a, hK_that_a, hN_that_a⟩ := y_that_384
  obtain ⟨-, that_kept, hR_that_kept, hL_that_kept, hK_that_kept, hN_that_kept⟩ := y_that_386
  obtain ⟨-, that_rings, hR_that_rings, hL_that_rings, hK_that_rings, hN_that_rings⟩ := y_that_414
  refine lv_aload_n hx hb dL_law_1544 rfl (lv_at hl 2 rfl) ?_
  refine lv_aload_n hx hb dL_law_1545 rfl (lv_at hl 3 rfl) ?_
  refine lv_iload_n hx hb dL_law_1546 rfl (lv_at hl 0 rfl) ?_
  refine lv_iconst (v := 1) hx hb dL_law_1547 (by decide) ?_
  refine lv_iadd hx hb dL_law_1548 ?_
  refine lv_tov 1 (by decide) ?_
  refine va_sld hx hb hX hbl (Nat.not_le.mpr hbl) hS (vp_in_iff.mpr (by decide)) dL_law_1549 ?_
  refine lv_tov (xs 1) rfl ?_
  refine lv_aload_n hx hb dL_law_1550 rfl (lv_at hl 3 rfl) ?_
  refine lv_iload_n hx hb dL_law_1551 rfl (lv_at hl 0 rfl) ?_
  refine lv_iconst (v := 2) hx hb dL_law_1552 (by decide) ?_
  refine lv_iadd hx hb dL_law_1553 ?_
  refine lv_tov 2 (by decide) ?_
  refine va_sld hx hb hX hbl (Nat.not_le.mpr hbl) hS (vp_in_iff.mpr (by decide)) dL_law_1554 ?_
  refine lv_tov (xs 2) rfl ?_
  refine lv_aload_n hx hb dL_law_1555 rfl (lv_at hl 3 rfl) ?_
  refine lv_iload_n hx hb dL_law_1556 rfl (lv_at hl 0 rfl) ?_
  refine lv_iconst (v := 3) hx hb dL_law_1557 (by decide) ?_
  refine lv_iadd hx hb dL_law_1558 ?_
  refine lv_tov 3 (by decide) ?_
  refine va_sld hx hb hX hbl (Nat.not_le.mpr hbl) hS (vp_in_iff.mpr (by decide)) dL_law_1559 ?_
  refine lv_tov (xs 3) rfl ?_
  refine lk_i (va_runV (As := [.int (xs 1), .int (xs 2), .int (xs 3)]) (rest := []) ⟨hx, hb, hml, hown, hts⟩ (c_X11_order l D t σ I J ri rj rq H.size this (xs 1) (xs 2) (xs 3) hL_this hK_this this_now hR_this_now hL_this_now hK_this_now this_now_seas hR_this_now_seas hL_this_now_seas hK_this_now_seas this_trial hR_this_trial hL_this_trial hK_this_trial this_now_land hR_this_now_land hL_this_now_land hK_this_now_land this_now_holder hR_this_now_holder hL_this_now_holder hK_this_now_holder hN_this_now_holder this_trial_holder hR_this_trial_holder hL_this_trial_holder hK_this_trial_holder hN_this_trial_holder this_trial_seas hR_this_trial_seas hL_this_trial_seas hK_this_trial_seas this_now_seas_rise hR_this_now_seas_rise hL_this_now_seas_rise hK_this_now_seas_rise hN_this_now_seas_rise this_trial_seas_rise hR_this_trial_seas_rise hL_this_trial_seas_rise hK_this_trial_seas_rise hN_this_trial_seas_rise this_now_seas_month hR_this_now_seas_month hL_this_now_seas_month hK_this_now_seas_month hN_this_now_seas_month this_trial_seas_month hR_this_trial_seas_month hL_this_trial_seas_month hK_this_trial_seas_month hN_this_trial_seas_month this_now_seas_value hR_this_now_seas_value hL_this_now_seas_value hK_this_now_seas_value hN_this_now_seas_value this_trial_seas_value hR_this_trial_seas_value hL_this_trial_seas_value hK_this_trial_seas_value hN_this_trial_seas_value this_now_seas_told hR_this_now_seas_told hL_this_now_seas_told hK_this_now_seas_told hN_this_now_seas_told this_trial_seas_told hR_this_trial_seas_told hL_this_trial_seas_told hK_this_trial_seas_told hN_this_trial_seas_told this_now_seas_low hR_this_now_seas_low hL_this_now_seas_low hK_this_now_seas_low hN_this_now_seas_low this_trial_seas_low hR_this_trial_seas_low hL_this_trial_seas_low hK_this_trial_seas_low hN_this_trial_seas_low this_now_seas_high hR_this_now_seas_high hL_this_now_seas_high hK_this_now_seas_high hN_this_now_seas_high this_trial_seas_high hR_this_trial_seas_high hL_this_trial_seas_high hK_this_trial_seas_high hN_this_trial_seas_high this_now_seas_warm hR_this_now_seas_warm hL_this_now_seas_warm hK_this_now_seas_warm hN_this_now_seas_warm this_trial_seas_warm hR_this_trial_seas_warm hL_this_trial_seas_warm hK_this_trial_seas_warm hN_this_trial_seas_warm this_now_seas_drift hR_this_now_seas_drift hL_this_now_seas_drift hK_this_now_seas_drift hN_this_now_seas_drift this_trial_seas_drift hR_this_trial_seas_drift hL_this_trial_seas_drift hK_this_trial_seas_drift hN_this_trial_seas_drift this_now_seas_rain hR_this_now_seas_rain hL_this_now_seas_rain hK_this_now_seas_rain hN_this_now_seas_rain this_trial_seas_rain hR_this_trial_seas_rain hL_this_trial_seas_rain hK_this_trial_seas_rain hN_this_trial_seas_rain this_trial_land hR_this_trial_land hL_this_trial_land hK_this_trial_land this_now_land_rocks hR_this_now_land_rocks hL_this_now_land_rocks hK_this_now_land_rocks hN_this_now_land_rocks this_trial_land_rocks hR_this_trial_land_rocks hL_this_trial_land_rocks hK_this_trial_land_rocks hN_this_trial_land_rocks this_now_land_ring hR_this_now_land_ring hL_this_now_land_ring hK_this_now_land_ring hN_this_now_land_ring this_trial_land_ring hR_this_trial_land_ring hL_this_trial_land_ring hK_this_trial_land_ring hN_this_trial_land_ring this_now_land_height hR_this_now_land_height hL_this_now_land_height hK_this_now_land_height hN_this_now_land_height this_trial_land_height hR_this_trial_land_height hL_this_trial_land_height hK_this_trial_land_height hN_this_trial_land_height this_now_land_x hR_this_now_land_x hL_this_now_land_x hK_this_now_land_x hN_this_now_land_x this_trial_land_x hR_this_trial_land_x hL_this_trial_land_x hK_this_trial_land_x hN_this_trial_land_x this_now_land_y hR_this_now_land_y hL_this_now_land_y hK_this_now_land_y hN_this_now_land_y this_trial_land_y hR_this_trial_land_y hL_this_trial_land_y hK_this_trial_land_y hN_this_trial_land_y this_now_land_sand hR_this_now_land_sand hL_this_now_land_sand hK_this_now_land_sand hN_this_now_land_sand this_trial_land_sand hR_this_trial_land_sand hL_this_trial_land_sand hK_this_trial_land_sand hN_this_trial_land_sand this_now_land_reef hR_this_now_land_reef hL_this_now_land_reef hK_this_now_land_reef hN_this_now_land_reef this_trial_land_reef hR_this_trial_land_reef hL_this_trial_land_reef hK_this_trial_land_reef hN_this_trial_land_reef this_now_land_wall hR_this_now_land_wall hL_this_now_land_wall hK_this_now_land_wall hN_this_now_land_wall this_trial_land_wall hR_this_trial_land_wall hL_this_trial_land_wall hK_this_trial_land_wall hN_this_trial_land_wall this_now_land_beds hR_this_now_land_beds hL_this_now_land_beds hK_this_now_land_beds hN_this_now_land_beds this_trial_land_beds hR_this_trial_land_beds hL_this_trial_land_beds hK_this_trial_land_beds hN_this_trial_land_beds this_now_land_under hR_this_now_land_under hL_this_now_land_under hK_this_now_land_under hN_this_now_land_under this_trial_land_under hR_this_trial_land_under hL_this_trial_land_under hK_this_trial_land_under hN_this_trial_land_under this_trial_land_wells hR_this_trial_land_wells hL_this_trial_land_wells hK_this_trial_land_wells this_now_land_wells hR_this_now_land_wells hL_this_now_land_wells hK_this_now_land_wells this_now_land_wells_gathers hR_this_now_land_wells_gathers hL_this_now_land_wells_gathers hK_this_now_land_wells_gathers hN_this_now_land_wells_gathers this_trial_land_wells_gathers hR_this_trial_land_wells_gathers hL_this_trial_land_wells_gathers hK_this_trial_land_wells_gathers hN_this_trial_land_wells_gathers this_now_land_wells_lens hR_this_now_land_wells_lens hL_this_now_land_wells_lens hK_this_now_land_wells_lens hN_this_now_land_wells_lens this_trial_land_wells_lens hR_this_trial_land_wells_lens hL_this_trial_land_wells_lens hK_this_trial_land_wells_lens hN_this_trial_land_wells_lens this_now_land_wells_salt hR_this_now_land_wells_salt hL_this_now_land_wells_salt hK_this_now_land_wells_salt hN_this_now_land_wells_salt this_trial_land_wells_salt hR_this_trial_land_wells_salt hL_this_trial_land_wells_salt hK_this_trial_land_wells_salt hN_this_trial_land_wells_salt this_now_land_next hR_this_now_land_next hL_this_now_land_next hK_this_now_land_next hN_this_now_land_next this_trial_land_next hR_this_trial_land_next hL_this_trial_land_next hK_this_trial_land_next hN_this_trial_land_next this_now_land_first hR_this_now_land_first hL_this_now_land_first hK_this_now_land_first hN_this_now_land_first this_trial_land_first hR_this_trial_land_first hL_this_trial_land_first hK_this_trial_land_first hN_this_trial_land_first this_trial_folk hR_this_trial_folk hL_this_trial_folk hK_this_trial_folk this_now_folk hR_this_now_folk hL_this_now_folk hK_this_now_folk this_now_folk_kin hR_this_now_folk_kin hL_this_now_folk_kin hK_this_now_folk_kin hN_this_now_folk_kin this_trial_folk_kin hR_this_trial_folk_kin hL_this_trial_folk_kin hK_this_trial_folk_kin hN_this_trial_folk_kin this_now_folk_age hR_this_now_folk_age hL_this_now_folk_age hK_this_now_folk_age hN_this_now_folk_age this_trial_folk_age hR_this_trial_folk_age hL_this_trial_folk_age hK_this_trial_folk_age hN_this_trial_folk_age this_now_folk_craft hR_this_now_folk_craft hL_this_now_folk_craft hK_this_now_folk_craft hN_this_now_folk_craft this_trial_folk_craft hR_this_trial_folk_craft hL_this_trial_folk_craft hK_this_trial_folk_craft hN_this_trial_folk_craft this_now_folk_send hR_this_now_folk_send hL_this_now_folk_send hK_this_now_folk_send hN_this_now_folk_send this_trial_folk_send hR_this_trial_folk_send hL_this_trial_folk_send hK_this_trial_folk_send hN_this_trial_folk_send this_now_folk_place hR_this_now_folk_place hL_this_now_folk_place hK_this_now_folk_place hN_this_now_folk_place this_trial_folk_place hR_this_trial_folk_place hL_this_trial_folk_place hK_this_trial_folk_place hN_this_trial_folk_place this_now_folk_thirst hR_this_now_folk_thirst hL_this_now_folk_thirst hK_this_now_folk_thirst hN_this_now_folk_thirst this_trial_folk_thirst hR_this_trial_folk_thirst hL_this_trial_folk_thirst hK_this_trial_folk_thirst hN_this_trial_folk_thirst this_now_folk_noBed hR_this_now_folk_noBed hL_this_now_folk_noBed hK_this_now_folk_noBed hN_this_now_folk_noBed this_trial_folk_noBed hR_this_trial_folk_noBed hL_this_trial_folk_noBed hK_this_trial_folk_noBed hN_this_trial_folk_noBed this_now_folk_went hR_this_now_folk_went hL_this_now_folk_went hK_this_now_folk_went hN_this_now_folk_went this_trial_folk_went hR_this_trial_folk_went hL_this_trial_folk_went hK_this_trial_folk_went hN_this_trial_folk_went this_now_folk_vote hR_this_now_folk_vote hL_this_now_folk_vote hK_this_now_folk_vote hN_this_now_folk_vote this_trial_folk_vote hR_this_trial_folk_vote hL_this_trial_folk_vote hK_this_trial_folk_vote hN_this_trial_folk_vote this_now_folk_lotBeds hR_this_now_folk_lotBeds hL_this_now_folk_lotBeds hK_this_now_folk_lotBeds hN_this_now_folk_lotBeds this_trial_folk_lotBeds hR_this_trial_folk_lotBeds hL_this_trial_folk_lotBeds hK_this_trial_folk_lotBeds hN_this_trial_folk_lotBeds this_trial_law hR_this_trial_law hL_this_trial_law hK_this_trial_law this_now_law hR_this_now_law hL_this_now_law hK_this_now_law this_trial_law_texts hR_this_trial_law_texts hL_this_trial_law_texts hK_this_trial_law_texts hN_this_trial_law_texts this_now_law_texts hR_this_now_law_texts hL_this_now_law_texts hK_this_now_law_texts hN_this_now_law_texts this_now_law_forceText hR_this_now_law_forceText hL_this_now_law_forceText hK_this_now_law_forceText hN_this_now_law_forceText this_trial_law_forceText hR_this_trial_law_forceText hL_this_trial_law_forceText hK_this_trial_law_forceText hN_this_trial_law_forceText this_now_law_forceFrom hR_this_now_law_forceFrom hL_this_now_law_forceFrom hK_this_now_law_forceFrom hN_this_now_law_forceFrom this_trial_law_forceFrom hR_this_trial_law_forceFrom hL_this_trial_law_forceFrom hK_this_trial_law_forceFrom hN_this_trial_law_forceFrom this_now_law_forceTo hR_this_now_law_forceTo hL_this_now_law_forceTo hK_this_now_law_forceTo hN_this_now_law_forceTo this_trial_law_forceTo hR_this_trial_law_forceTo hL_this_trial_law_forceTo hK_this_trial_law_forceTo hN_this_trial_law_forceTo this_trial_graves hR_this_trial_graves hL_this_trial_graves hK_this_trial_graves this_now_graves hR_this_now_graves hL_this_now_graves hK_this_now_graves this_now_graves_cell hR_this_now_graves_cell hL_this_now_graves_cell hK_this_now_graves_cell hN_this_now_graves_cell this_trial_graves_cell hR_this_trial_graves_cell hL_this_trial_graves_cell hK_this_trial_graves_cell hN_this_trial_graves_cell this_now_graves_lay hR_this_now_graves_lay hL_this_now_graves_lay hK_this_now_graves_lay hN_this_now_graves_lay this_trial_graves_lay hR_this_trial_graves_lay hL_this_trial_graves_lay hK_this_trial_graves_lay hN_this_trial_graves_lay this_ringOrders hR_this_ringOrders hL_this_ringOrders hK_this_ringOrders this_ringOrders_dry hR_this_ringOrders_dry hL_this_ringOrders_dry hK_this_ringOrders_dry hN_this_ringOrders_dry this_ringOrders_beds hR_this_ringOrders_beds hL_this_ringOrders_beds hK_this_ringOrders_beds hN_this_ringOrders_beds this_ringOrders_may hR_this_ringOrders_may hL_this_ringOrders_may hK_this_ringOrders_may hN_this_ringOrders_may this_trial_folk_ofRing hR_this_trial_folk_ofRing hL_this_trial_folk_ofRing hK_this_trial_folk_ofRing hN_this_trial_folk_ofRing this_ringOrders_order hR_this_ringOrders_order hL_this_ringOrders_order hK_this_ringOrders_order hN_this_ringOrders_order this_ringOrders_best hR_this_ringOrders_best hL_this_ringOrders_best hK_this_ringOrders_best hN_this_ringOrders_best hZ hi_this_now_320 hq0 hi_this_now_seas_237 (okD_at hd_this_352_354 hR_this_now hR_this_trial)) (cwV 3 hts (tw_V tw_1428 tw_1429 tw_1430 tw_2 tw_1431) rfl rfl rfl (by decide +kernel) ⟨Nat.le_of_ble_eq_true rfl, Nat.le_of_ble_eq_true rfl⟩) ⟨pq_blind, pq_recv hK hP hL_this hK_this (by decide) rfl, pq_pre hK hN hP hD⟩ rfl rfl hl.1 rfl (lv_room (Nat.le_of_ble_eq_true rfl)) dL_law_1560 ⟨Nat.le_of_ble_eq_true rfl, Nat.le_of_ble_eq_true rfl⟩) hD hS hA hP2 hdis (fun r1 u1 H locs hw1 hP2 hS => ?_)
  obtain ⟨_, _, _, _, -, -, hr1⟩ := hw1
  refine lv_aload_n hx hb dL_law_1563 rfl (lv_at hl 1 rfl) ?_
  refine lv_aload_n hx hb dL_law_1564 rfl (lv_at hl 3 rfl) ?_
  refine lv_iload_n hx hb dL_law_1565 rfl (lv_at hl 0 rfl) ?_
  refine lv_iconst (v := 1) hx hb dL_law_1566 (by decide) ?_
  refine lv_iadd hx hb dL_law_1567 ?_
  refine lv_tov 1 (by decide) ?_
  refine va_sld hx hb hX hbl (Nat.not_le.mpr hbl) hS (vp_in_iff.mpr (by decide)) dL_law_1568 ?_
  refine lv_tov (xs 1) rfl ?_
  refine lv_aload_n hx hb dL_law_1569 rfl (lv_at hl 3 rfl) ?_
  refine lv_iload_n hx hb dL_law_1570 rfl (lv_at hl 0 rfl) ?_
  refine lv_iconst (v := 2) hx hb dL_law_1571 (by decide) ?_
  refine lv_iadd hx hb dL_law_1572 ?_
  refine lv_tov 2 (by decide) ?_
  refine va_sld hx hb hX hbl (Nat.not_le.mpr hbl) hS (vp_in_iff.mpr (by decide)) dL_law_1573 ?_
  refine lv_tov (xs 2) rfl ?_
  refine lv_aload_n hx hb dL_law_1574 rfl (lv_at hl 3 rfl) ?_
  refine lv_iload_n hx hb dL_law_1575 rfl (lv_at hl 0 rfl) ?_
  refine lv_iconst (v := 3) hx hb dL_law_1576 (by decide) ?_
  refine lv_iadd hx hb dL_law_1577 ?_
  refine lv_tov 3 (by decide) ?_
  refine va_sld hx hb hX hbl (Nat.not_le.mpr hbl) hS (vp_in_iff.mpr (by decide)) dL_law_1578 ?_
  refine lv_tov (xs 3) rfl ?_
  refine pk_i (va_runV (As := [.int (xs 1), .int (xs 2), .int (xs 3)]) (rest := [.int r1]) ⟨hx, hb, hml, hown, hts⟩ (c_X12_order l D t τ I2 J2 si sj sq H.size that (xs 1) (xs 2) (xs 3) hL_that hK_that that_a hR_that_a hL_that_a hK_that_a hN_that_a that_kept hR_that_kept hL_that_kept hK_that_kept hN_that_kept that_rings hR_that_rings hL_that_rings hK_that_rings hN_that_rings (okF_at hF_384 hR_that_a) (okD_at hd_that_384_386 hR_that_a hR_that_kept) (okD_at hd_that_384_414 hR_that_a hR_that_rings) (okD_at hd_that_386_414 hR_that_kept hR_that_rings)) (cwV 3 hts (tw_V tw_1483 tw_1484 tw_1485 tw_5 tw_1486) rfl rfl rfl (by decide +kernel) ⟨Nat.le_of_ble_eq_true rfl, Nat.le_of_ble_eq_true rfl⟩) ⟨pq_blind, pq_recv hK hP2 hL_that hK_that (by decide) rfl, pq_pre hK hN hP2 hD2⟩ rfl rfl hl.1 rfl (lv_room (Nat.le_of_ble_eq_true rfl)) dL_law_1579 ⟨Nat.le_of_ble_eq_true rfl, Nat.le_of_ble_eq_true rfl⟩) hD2 hS hA (fun r2 σ3 μ3 H locs hw2 hP3 hD3 hS => ?_)
  obtain ⟨_, _, -, hr2⟩ := hw2
  have he : r1 = r2 := by exact hr1.trans hr2.symm
  refine lv_icmp_eq (tgt := 1725) hx hb dL_law_1582 (by decide) (fun _ => ?_) (fun q => absurd he q)
  exact lw_tail l hx hb hr hlocks hX hbl (by decide) (by decide) hS (lv_sub hl [3, 0] rfl)
set_option maxHeartbeats 8000000 in
set_option maxRecDepth 100000 in
theorem lw_op_35 {p : Program} {e : Env} {s : State} {m : MethodId} {below : List Frame} {meth : Method} {c : Code} {b : Nat} (l : Launch) (hx : p.tables.exec = Jvm.exec) (hb : c.code = cL_law) (hr : meth.sig.returnType = ret) (hml : c.maxLocals = 4) (hown : s.vm.findClass RL = some m.cls) (hlocks : meth.locks = false) (hts : ∀ w ∈ (Cond.initialized RX11 :: wsL_law), w.before #[Value.ref b] s = true) (xs : Nat → Int32) (hX : va_X b 7 xs s s.heap) (hbl : b < s.heap.size) {D : va_G} {t : pq_T} (hK : va_K D vwCl (pq_ty t) s) (hN : pq_N s) {σ τ : pq_S} {I : Nat → Nat → Int32} {J : Nat → Nat → Int64} {ri : Nat → Nat → Int32} {rj : Nat → Nat → Int64} {rq : Nat → Nat → Option Nat} {I2 : Nat → Nat → Int32} {J2 : Nat → Nat → Int64} {si : Nat → Nat → Int32} {sj : Nat → Nat → Int64} {sq : Nat → Nat → Option Nat} {this that : Nat} (hokx : okRingsUnder σ I this) (hL_this : this ∈ σ.1) (hK_this : σ.2.1 this = 11) (hZ : pq_Z I) (hq0 : rq = fun _ _ => none) (hokm : okModel τ I2 si that) (hL_that : that ∈ τ.1) (hK_that : τ.2.1 that = 12) (hdis : ∀ a, a ∈ τ.1 → a ∉ σ.1) {H : Heap} {locs : List Loc} (hP : va_P D vwCl (pq_P t σ (I, J, ri, rj, rq)) H) (hD : va_D (fun q => s.heap.size ≤ q) (pq_P t σ (I, J, ri, rj, rq))) (hP2 : va_P D vwCl (pq_P t τ (I2, J2, si, sj, sq)) H) (hD2 : va_D (fun q => s.heap.size ≤ q) (pq_P t τ (I2, J2, si, sj, sq))) (hS : va_S (fun q => s.heap.size ≤ q) s.heap H locs) {ls : Array Slot} (hl : lv_has ls 4 [(3, .int 0), (2, .ref that), (1, .ref this), (0, .ref b)]) : W p l e room_1 s m #[Value.ref b] below meth c H locs 207 49062 (lw_Z below #[Value.ref b] s) (F0 m 1587 ls []) := by
  have hA : ∀ q : Nat, s.heap.size ≤ q → s.heap.size ≤ q := fun _ h => h
  obtain ⟨y_this_352, y_this_353, y_this_354, y_this_355, y_this_356, hd_this_352_353, hd_this_352_354, hd_this_353_354⟩ := id hokx
  obtain ⟨-, this_now, hR_this_now, hL_this_now, hK_this_now, ho_this_now⟩ := y_this_352
  obtain ⟨y_this_now_325, y_this_now_326, y_this_now_327, y_this_now_328, y_this_now_329, y_this_now_330, y_this_now_331, y_this_now_332, hi_this_now_320, hi_this_now_323, hi_this_now_324⟩ := id ho_this_now
  obtain ⟨-, this_now_land, hR_this_now_land, hL_this_now_land, hK_this_now_land, ho_this_now_land⟩ := y_this_now_327
  obtain ⟨y_this_now_land_68, y_this_now_land_69, y_this_now_land_70, y_this_now_land_71, y_this_now_land_72, y_this_now_land_73, y_this_now_land_74, y_this_now_land_75, y_this_now_land_76, y_this_now_land_77, y_this_now_land_78, y_this_now_land_79, y_this_now_land_80, y_this_now_land_81, y_this_now_land_82, y_this_now_land_83, hd_this_now_land_82_83⟩ := id ho_this_now_land
  obtain ⟨y_that_384, y_that_385, y_that_386, y_that_387, y_that_400, y_that_404, y_that_405, y_that_408, y_that_409, y_that_411, y_that_412, y_that_413, y_that_414, hi_that_388, hi_that_389, hi_that_390, hi_that_391, hd_that_384_385, hd_that_384_386, hd_that_384_414, hd_that_386_414, hF_384, hF_385⟩ := id hokm
  obtain ⟨-, that_a, hR_that_a, hL_that_a, hK_that_a, hN_that_a⟩ := y_that_384
  refine lv_aload_n hx hb dL_law_1587 rfl (lv_at hl 2 rfl) ?_
  refine lv_aload_n hx hb dL_law_1588 rfl (lv_at hl 3 rfl) ?_
  refine lv_iload_n hx hb dL_law_1589 rfl (lv_at hl 0 rfl) ?_
  refine lv_iconst (v := 1) hx hb dL_law_1590 (by decide) ?_
  refine lv_iadd hx hb dL_law_1591 ?_
  refine lv_tov 1 (by decide) ?_
  refine va_sld hx hb hX hbl (Nat.not_le.mpr hbl) hS (vp_in_iff.mpr (by decide)) dL_law_1592 ?_
  refine lv_tov (xs 1) rfl ?_
  refine lk_i (va_runV (As := [.int (xs 1)]) (rest := []) ⟨hx, hb, hml, hown, hts⟩ (c_X11_grave l D t σ I J ri rj rq H.size this (xs 1) hL_this hK_this this_now hR_this_now hL_this_now hK_this_now this_now_land hR_this_now_land hL_this_now_land hK_this_now_land hZ) (cwV 1 hts (tw_V tw_1495 tw_1496 tw_1497 tw_2 tw_1498) rfl rfl rfl (by decide +kernel) ⟨Nat.le_of_ble_eq_true rfl, Nat.le_of_ble_eq_true rfl⟩) ⟨pq_blind, pq_recv hK hP hL_this hK_this (by decide) rfl, pq_pre hK hN hP hD⟩ rfl rfl hl.1 rfl (lv_room (Nat.le_of_ble_eq_true rfl)) dL_law_1593 ⟨Nat.le_of_ble_eq_true rfl, Nat.le_of_ble_eq_true rfl⟩) hD hS hA hP2 hdis (fun r1 u1 H locs hw1 hP2 hS => ?_)
  obtain ⟨-, hr1⟩ := hw1
  refine lv_aload_n hx hb dL_law_1596 rfl (lv_at hl 1 rfl) ?_
  refine lv_aload_n hx hb dL_law_1597 rfl (lv_at hl 3 rfl) ?_
  refine lv_iload_n hx hb dL_law_1598 rfl (lv_at hl 0 rfl) ?_
  refine lv_iconst (v := 1) hx hb dL_law_1599 (by decide) ?_
  refine lv_iadd hx hb dL_law_1600 ?_
  refine lv_tov 1 (by decide) ?_
  refine va_sld hx hb hX hbl (Nat.not_le.mpr hbl) hS (vp_in_iff.mpr (by decide)) dL_law_1601 ?_
  refine lv_tov (xs 1) rfl ?_
  refine pk_i (va_runV (As := [.int (xs 1)]) (rest := [.int r1]) ⟨hx, hb, hml, hown, hts⟩ (c_X12_grave l D t τ I2 J2 si sj sq H.size that (xs 1) hL_that hK_that that_a hR_that_a hL_that_a hK_that_a hN_that_a (okF_at hF_384 hR_that_a)) (cwV 1 hts (tw_V tw_1505 tw_1506 tw_1507 tw_5 tw_1508) rfl rfl rfl (by decide +kernel) ⟨Nat.le_of_ble_eq_true rfl, Nat.le_of_ble_eq_true rfl⟩) ⟨pq_blind, pq_recv hK hP2 hL_that hK_that (by decide) rfl, pq_pre hK hN hP2 hD2⟩ rfl rfl hl.1 rfl (lv_room (Nat.le_of_ble_eq_true rfl)) dL_law_1602 ⟨Nat.le_of_ble_eq_true rfl, Nat.le_of_ble_eq_true rfl⟩) hD2 hS hA (fun r2 σ3 μ3 H locs hw2 hP3 hD3 hS => ?_)
  obtain ⟨-, hr2⟩ := hw2
  have he : r1 = r2 := by exact hr1.trans hr2.symm
  refine lv_icmp_eq (tgt := 1725) hx hb dL_law_1605 (by decide) (fun _ => ?_) (fun q => absurd he q)
  exact lw_tail l hx hb hr hlocks hX hbl (by decide) (by decide) hS (lv_sub hl [3, 0] rfl)
set_option maxHeartbeats 8000000 in
set_option maxRecDepth 100000 in
theorem lw_op_36 {p : Program} {e : Env} {s : State} {m : MethodId} {below : List Frame} {meth : Method} {c : Code} {b : Nat} (l : Launch) (hx : p.tables.exec = Jvm.exec) (hb : c.code = cL_law) (hr : meth.sig.returnType = ret) (hml : c.maxLocals = 4) (hown : s.vm.findClass RL = some m.cls) (hlocks : meth.locks = false) (hts : ∀ w ∈ (Cond.initialized RX11 :: wsL_law), w.before #[Value.ref b] s = true) (xs : Nat → Int32) (hX : va_X b 7 xs s s.heap) (hbl : b < s.heap.size) {D : va_G} {t : pq_T} (hK : va_K D vwCl (pq_ty t) s) (hN : pq_N s) {σ τ : pq_S} {I : Nat → Nat → Int32} {J : Nat → Nat → Int64} {ri : Nat → Nat → Int32} {rj : Nat → Nat → Int64} {rq : Nat → Nat → Option Nat} {I2 : Nat → Nat → Int32} {J2 : Nat → Nat → Int64} {si : Nat → Nat → Int32} {sj : Nat → Nat → Int64} {sq : Nat → Nat → Option Nat} {this that : Nat} (hokx : okRingsUnder σ I this) (hL_this : this ∈ σ.1) (hK_this : σ.2.1 this = 11) (hZ : pq_Z I) (hq0 : rq = fun _ _ => none) (hokm : okModel τ I2 si that) (hL_that : that ∈ τ.1) (hK_that : τ.2.1 that = 12) (hdis : ∀ a, a ∈ τ.1 → a ∉ σ.1) {H : Heap} {locs : List Loc} (hP : va_P D vwCl (pq_P t σ (I, J, ri, rj, rq)) H) (hD : va_D (fun q => s.heap.size ≤ q) (pq_P t σ (I, J, ri, rj, rq))) (hP2 : va_P D vwCl (pq_P t τ (I2, J2, si, sj, sq)) H) (hD2 : va_D (fun q => s.heap.size ≤ q) (pq_P t τ (I2, J2, si, sj, sq))) (hS : va_S (fun q => s.heap.size ≤ q) s.heap H locs) {ls : Array Slot} (hl : lv_has ls 4 [(3, .int 0), (2, .ref that), (1, .ref this), (0, .ref b)]) : W p l e room_1 s m #[Value.ref b] below meth c H locs 207 49062 (lw_Z below #[Value.ref b] s) (F0 m 1610 ls []) := by
  have hA : ∀ q : Nat, s.heap.size ≤ q → s.heap.size ≤ q := fun _ h => h
  obtain ⟨y_this_352, y_this_353, y_this_354, y_this_355, y_this_356, hd_this_352_353, hd_this_352_354, hd_this_353_354⟩ := id hokx
  obtain ⟨-, this_now, hR_this_now, hL_this_now, hK_this_now, ho_this_now⟩ := y_this_352
  obtain ⟨y_this_now_325, y_this_now_326, y_this_now_327, y_this_now_328, y_this_now_329, y_this_now_330, y_this_now_331, y_this_now_332, hi_this_now_320, hi_this_now_323, hi_this_now_324⟩ := id ho_this_now
  obtain ⟨-, this_now_graves, hR_this_now_graves, hL_this_now_graves, hK_this_now_graves, ho_this_now_graves⟩ := y_this_now_330
  obtain ⟨y_that_384, y_that_385, y_that_386, y_that_387, y_that_400, y_that_404, y_that_405, y_that_408, y_that_409, y_that_411, y_that_412, y_that_413, y_that_414, hi_that_388, hi_that_389, hi_that_390, hi_that_391, hd_that_384_385, hd_that_384_386, hd_that_384_414, hd_that_386_414, hF_384, hF_385⟩ := id hokm
  obtain ⟨-, that_a, hR_that_a, hL_that_a, hK_that_a, hN_that_a⟩ := y_that_384
  refine lv_aload_n hx hb dL_law_1610 rfl (lv_at hl 2 rfl) ?_
  refine lv_aload_n hx hb dL_law_1611 rfl (lv_at hl 3 rfl) ?_
  refine lv_iload_n hx hb dL_law_1612 rfl (lv_at hl 0 rfl) ?_
  refine lv_iconst (v := 1) hx hb dL_law_1613 (by decide) ?_
  refine lv_iadd hx hb dL_law_1614 ?_
  refine lv_tov 1 (by decide) ?_
  refine va_sld hx hb hX hbl (Nat.not_le.mpr hbl) hS (vp_in_iff.mpr (by decide)) dL_law_1615 ?_
  refine lv_tov (xs 1) rfl ?_
  refine lv_aload_n hx hb dL_law_1616 rfl (lv_at hl 3 rfl) ?_
  refine lv_iload_n hx hb dL_law_1617 rfl (lv_at hl 0 rfl) ?_
  refine lv_iconst (v := 2) hx hb dL_law_1618 (by decide) ?_
  refine lv_iadd hx hb dL_law_1619 ?_
  refine lv_tov 2 (by decide) ?_
  refine va_sld hx hb hX hbl (Nat.not_le.mpr hbl) hS (vp_in_iff.mpr (by decide)) dL_law_1620 ?_
  refine lv_tov (xs 2) rfl ?_
  refine lk_i (va_runV (As := [.int (xs 1), .int (xs 2)]) (rest := []) ⟨hx, hb, hml, hown, hts⟩ (c_X11_bury l D t σ I J ri rj rq H.size this (xs 1) (xs 2) hL_this hK_this this_now hR_this_now hL_this_now hK_this_now this_now_graves hR_this_now_graves hL_this_now_graves hK_this_now_graves hZ) (cwV 2 hts (tw_V tw_1513 tw_1514 tw_1515 tw_2 tw_1516) rfl rfl rfl (by decide +kernel) ⟨Nat.le_of_ble_eq_true rfl, Nat.le_of_ble_eq_true rfl⟩) ⟨pq_blind, pq_recv hK hP hL_this hK_this (by decide) rfl, pq_pre hK hN hP hD⟩ rfl rfl hl.1 rfl (lv_room (Nat.le_of_ble_eq_true rfl)) dL_law_1621 ⟨Nat.le_of_ble_eq_true rfl, Nat.le_of_ble_eq_true rfl⟩) hD hS hA hP2 hdis (fun r1 u1 H locs hw1 hP2 hS => ?_)
  obtain ⟨-, hr1⟩ := hw1
  refine lv_aload_n hx hb dL_law_1624 rfl (lv_at hl 1 rfl) ?_
  refine lv_aload_n hx hb dL_law_1625 rfl (lv_at hl 3 rfl) ?_
  refine lv_iload_n hx hb dL_law_1626 rfl (lv_at hl 0 rfl) ?_
  refine lv_iconst (v := 1) hx hb dL_law_1627 (by decide) ?_
  refine lv_iadd hx hb dL_law_1628 ?_
  refine lv_tov 1 (by decide) ?_
  refine va_sld hx hb hX hbl (Nat.not_le.mpr hbl) hS (vp_in_iff.mpr (by decide)) dL_law_1629 ?_
  refine lv_tov (xs 1) rfl ?_
  refine lv_aload_n hx hb dL_law_1630 rfl (lv_at hl 3 rfl) ?_
  refine lv_iload_n hx hb dL_law_1631 rfl (lv_at hl 0 rfl) ?_
  refine lv_iconst (v := 2) hx hb dL_law_1632 (by decide) ?_
  refine lv_iadd hx hb dL_law_1633 ?_
  refine lv_tov 2 (by decide) ?_
  refine va_sld hx hb hX hbl (Nat.not_le.mpr hbl) hS (vp_in_iff.mpr (by decide)) dL_law_1634 ?_
  refine lv_tov (xs 2) rfl ?_
  refine pk_i (va_runV (As := [.int (xs 1), .int (xs 2)]) (rest := [.int r1]) ⟨hx, hb, hml, hown, hts⟩ (c_X12_bury l D t τ I2 J2 si sj sq H.size that (xs 1) (xs 2) hL_that hK_that that_a hR_that_a hL_that_a hK_that_a hN_that_a (okF_at hF_384 hR_that_a)) (cwV 2 hts (tw_V tw_1521 tw_1522 tw_1523 tw_5 tw_1524) rfl rfl rfl (by decide +kernel) ⟨Nat.le_of_ble_eq_true rfl, Nat.le_of_ble_eq_true rfl⟩) ⟨pq_blind, pq_recv hK hP2 hL_that hK_that (by decide) rfl, pq_pre hK hN hP2 hD2⟩ rfl rfl hl.1 rfl (lv_room (Nat.le_of_ble_eq_true rfl)) dL_law_1635 ⟨Nat.le_of_ble_eq_true rfl, Nat.le_of_ble_eq_true rfl⟩) hD2 hS hA (fun r2 σ3 μ3 H locs hw2 hP3 hD3 hS => ?_)
  obtain ⟨-, hr2⟩ := hw2
  have he : r1 = r2 := by exact hr1.trans hr2.symm
  refine lv_icmp_eq (tgt := 1725) hx hb dL_law_1638 (by decide) (fun _ => ?_) (fun q => absurd he q)
  exact lw_tail l hx hb hr hlocks hX hbl (by decide) (by decide) hS (lv_sub hl [3, 0] rfl)
set_option maxHeartbeats 8000000 in
set_option maxRecDepth 100000 in
theorem lw_op_37 {p : Program} {e : Env} {s : State} {m : MethodId} {below : List Frame} {meth : Method} {c : Code} {b : Nat} (l : Launch) (hx : p.tables.exec = Jvm.exec) (hb : c.code = cL_law) (hr : meth.sig.returnType = ret) (hml : c.maxLocals = 4) (hown : s.vm.findClass RL = some m.cls) (hlocks : meth.locks = false) (hts : ∀ w ∈ (Cond.initialized RX11 :: wsL_law), w.before #[Value.ref b] s = true) (xs : Nat → Int32) (hX : va_X b 7 xs s s.heap) (hbl : b < s.heap.size) {D : va_G} {t : pq_T} (hK : va_K D vwCl (pq_ty t) s) (hN : pq_N s) {σ τ : pq_S} {I : Nat → Nat → Int32} {J : Nat → Nat → Int64} {ri : Nat → Nat → Int32} {rj : Nat → Nat → Int64} {rq : Nat → Nat → Option Nat} {I2 : Nat → Nat → Int32} {J2 : Nat → Nat → Int64} {si : Nat → Nat → Int32} {sj : Nat → Nat → Int64} {sq : Nat → Nat → Option Nat} {this that : Nat} (hokx : okRingsUnder σ I this) (hL_this : this ∈ σ.1) (hK_this : σ.2.1 this = 11) (hZ : pq_Z I) (hq0 : rq = fun _ _ => none) (hokm : okModel τ I2 si that) (hL_that : that ∈ τ.1) (hK_that : τ.2.1 that = 12) (hdis : ∀ a, a ∈ τ.1 → a ∉ σ.1) {H : Heap} {locs : List Loc} (hP : va_P D vwCl (pq_P t σ (I, J, ri, rj, rq)) H) (hD : va_D (fun q => s.heap.size ≤ q) (pq_P t σ (I, J, ri, rj, rq))) (hP2 : va_P D vwCl (pq_P t τ (I2, J2, si, sj, sq)) H) (hD2 : va_D (fun q => s.heap.size ≤ q) (pq_P t τ (I2, J2, si, sj, sq))) (hS : va_S (fun q => s.heap.size ≤ q) s.heap H locs) {ls : Array Slot} (hl : lv_has ls 4 [(3, .int 0), (2, .ref that), (1, .ref this), (0, .ref b)]) : W p l e room_1 s m #[Value.ref b] below meth c H locs 207 49062 (lw_Z below #[Value.ref b] s) (F0 m 1643 ls []) := by
  have hA : ∀ q : Nat, s.heap.size ≤ q → s.heap.size ≤ q := fun _ h => h
  obtain ⟨y_this_352, y_this_353, y_this_354, y_this_355, y_this_356, hd_this_352_353, hd_this_352_354, hd_this_353_354⟩ := id hokx
  obtain ⟨-, this_now, hR_this_now, hL_this_now, hK_this_now, ho_this_now⟩ := y_this_352
  obtain ⟨y_this_now_325, y_this_now_326, y_this_now_327, y_this_now_328, y_this_now_329, y_this_now_330, y_this_now_331, y_this_now_332, hi_this_now_320, hi_this_now_323, hi_this_now_324⟩ := id ho_this_now
  obtain ⟨-, this_now_land, hR_this_now_land, hL_this_now_land, hK_this_now_land, ho_this_now_land⟩ := y_this_now_327
  obtain ⟨y_this_now_land_68, y_this_now_land_69, y_this_now_land_70, y_this_now_land_71, y_this_now_land_72, y_this_now_land_73, y_this_now_land_74, y_this_now_land_75, y_this_now_land_76, y_this_now_land_77, y_this_now_land_78, y_this_now_land_79, y_this_now_land_80, y_this_now_land_81, y_this_now_land_82, y_this_now_land_83, hd_this_now_land_82_83⟩ := id ho_this_now_land
  obtain ⟨y_that_384, y_that_385, y_that_386, y_that_387, y_that_400, y_that_404, y_that_405, y_that_408, y_that_409, y_that_411, y_that_412, y_that_413, y_that_414, hi_that_388, hi_that_389, hi_that_390, hi_that_391, hd_that_384_385, hd_that_384_386, hd_that_384_414, hd_that_386_414, hF_384, hF_385⟩ := id hokm
  obtain ⟨-, that_a, hR_that_a, hL_that_a, hK_that_a, hN_that_a⟩ := y_that_384
  refine lv_aload_n hx hb dL_law_1643 rfl (lv_at hl 2 rfl) ?_
  refine lv_aload_n hx hb dL_law_1644 rfl (lv_at hl 3 rfl) ?_
  refine lv_iload_n hx hb dL_law_1645 rfl (lv_at hl 0 rfl) ?_
  refine lv_iconst (v := 1) hx hb dL_law_1646 (by decide) ?_
  refine lv_iadd hx hb dL_law_1647 ?_
  refine lv_tov 1 (by decide) ?_
  refine va_sld hx hb hX hbl (Nat.not_le.mpr hbl) hS (vp_in_iff.mpr (by decide)) dL_law_1648 ?_
  refine lv_tov (xs 1) rfl ?_
  refine lv_aload_n hx hb dL_law_1649 rfl (lv_at hl 3 rfl) ?_
  refine lv_iload_n hx hb dL_law_1650 rfl (lv_at hl 0 rfl) ?_
  refine lv_iconst (v := 2) hx hb dL_law_1651 (by decide) ?_
  refine lv_iadd hx hb dL_law_1652 ?_
  refine lv_tov 2 (by decide) ?_
  refine va_sld hx hb hX hbl (Nat.not_le.mpr hbl) hS (vp_in_iff.mpr (by decide)) dL_law_1653 ?_
  refine lv_tov (xs 2) rfl ?_
  refine lk_i (va_runV (As := [.int (xs 1), .int (xs 2)]) (rest := []) ⟨hx, hb, hml, hown, hts⟩ (c_X11_found l D t σ I J ri rj rq H.size this (xs 1) (xs 2) hL_this hK_this this_now hR_this_now hL_this_now hK_this_now this_now_land hR_this_now_land hL_this_now_land hK_this_now_land hZ) (cwV 2 hts (tw_V tw_1525 tw_1526 tw_1527 tw_2 tw_1528) rfl rfl rfl (by decide +kernel) ⟨Nat.le_of_ble_eq_true rfl, Nat.le_of_ble_eq_true rfl⟩) ⟨pq_blind, pq_recv hK hP hL_this hK_this (by decide) rfl, pq_pre hK hN hP hD⟩ rfl rfl hl.1 rfl (lv_room (Nat.le_of_ble_eq_true rfl)) dL_law_1654 ⟨Nat.le_of_ble_eq_true rfl, Nat.le_of_ble_eq_true rfl⟩) hD hS hA hP2 hdis (fun r1 u1 H locs hw1 hP2 hS => ?_)
  obtain ⟨-, hr1⟩ := hw1
  refine lv_aload_n hx hb dL_law_1657 rfl (lv_at hl 1 rfl) ?_
  refine lv_aload_n hx hb dL_law_1658 rfl (lv_at hl 3 rfl) ?_
  refine lv_iload_n hx hb dL_law_1659 rfl (lv_at hl 0 rfl) ?_
  refine lv_iconst (v := 1) hx hb dL_law_1660 (by decide) ?_
  refine lv_iadd hx hb dL_law_1661 ?_
  refine lv_tov 1 (by decide) ?_
  refine va_sld hx hb hX hbl (Nat.not_le.mpr hbl) hS (vp_in_iff.mpr (by decide)) dL_law_1662 ?_
  refine lv_tov (xs 1) rfl ?_
  refine lv_aload_n hx hb dL_law_1663 rfl (lv_at hl 3 rfl) ?_
  refine lv_iload_n hx hb dL_law_1664 rfl (lv_at hl 0 rfl) ?_
  refine lv_iconst (v := 2) hx hb dL_law_1665 (by decide) ?_
  refine lv_iadd hx hb dL_law_1666 ?_
  refine lv_tov 2 (by decide) ?_
  refine va_sld hx hb hX hbl (Nat.not_le.mpr hbl) hS (vp_in_iff.mpr (by decide)) dL_law_1667 ?_
  refine lv_tov (xs 2) rfl ?_
  refine pk_i (va_runV (As := [.int (xs 1), .int (xs 2)]) (rest := [.int r1]) ⟨hx, hb, hml, hown, hts⟩ (c_X12_found l D t τ I2 J2 si sj sq H.size that (xs 1) (xs 2) hL_that hK_that that_a hR_that_a hL_that_a hK_that_a hN_that_a (okF_at hF_384 hR_that_a)) (cwV 2 hts (tw_V tw_1533 tw_1534 tw_1535 tw_5 tw_1536) rfl rfl rfl (by decide +kernel) ⟨Nat.le_of_ble_eq_true rfl, Nat.le_of_ble_eq_true rfl⟩) ⟨pq_blind, pq_recv hK hP2 hL_that hK_that (by decide) rfl, pq_pre hK hN hP2 hD2⟩ rfl rfl hl.1 rfl (lv_room (Nat.le_of_ble_eq_true rfl)) dL_law_1668 ⟨Nat.le_of_ble_eq_true rfl, Nat.le_of_ble_eq_true rfl⟩) hD2 hS hA (fun r2 σ3 μ3 H locs hw2 hP3 hD3 hS => ?_)
  obtain ⟨-, hr2⟩ := hw2
  have he : r1 = r2 := by exact hr1.trans hr2.symm
  refine lv_icmp_eq (tgt := 1725) hx hb dL_law_1671 (by decide) (fun _ => ?_) (fun q => absurd he q)
  exact lw_tail l hx hb hr hlocks hX hbl (by decide) (by decide) hS (lv_sub hl [3, 0] rfl)
set_option maxHeartbeats 8000000 in
set_option maxRecDepth 100000 in
theorem lw_op_38 {p : Program} {e : Env} {s : State} {m : MethodId} {below : List Frame} {meth : Method} {c : Code} {b : Nat} (l : Launch) (hx : p.tables.exec = Jvm.exec) (hb : c.code = cL_law) (hr : meth.sig.returnType = ret) (hml : c.maxLocals = 4) (hown : s.vm.findClass RL = some m.cls) (hlocks : meth.locks = false) (hts : ∀ w ∈ (Cond.initialized RX11 :: wsL_law), w.before #[Value.ref b] s = true) (xs : Nat → Int32) (hX : va_X b 7 xs s s.heap) (hbl : b < s.heap.size) {D : va_G} {t : pq_T} (hK : va_K D vwCl (pq_ty t) s) (hN : pq_N s) {σ τ : pq_S} {I : Nat → Nat → Int32} {J : Nat → Nat → Int64} {ri : Nat → Nat → Int32} {rj : Nat → Nat → Int64} {rq : Nat → Nat → Option Nat} {I2 : Nat → Nat → Int32} {J2 : Nat → Nat → Int64} {si : Nat → Nat → Int32} {sj : Nat → Nat → Int64} {sq : Nat → Nat → Option Nat} {this that : Nat} (hokx : okRingsUnder σ I this) (hL_this : this ∈ σ.1) (hK_this : σ.2.1 this = 11) (hZ : pq_Z I) (hq0 : rq = fun _ _ => none) (hokm : okModel τ I2 si that) (hL_that : that ∈ τ.1) (hK_that : τ.2.1 that = 12) (hdis : ∀ a, a ∈ τ.1 → a ∉ σ.1) {H : Heap} {locs : List Loc} (hP : va_P D vwCl (pq_P t σ (I, J, ri, rj, rq)) H) (hD : va_D (fun q => s.heap.size ≤ q) (pq_P t σ (I, J, ri, rj, rq))) (hP2 : va_P D vwCl (pq_P t τ (I2, J2, si, sj, sq)) H) (hD2 : va_D (fun q => s.heap.size ≤ q) (pq_P t τ (I2, J2, si, sj, sq))) (hS : va_S (fun q => s.heap.size ≤ q) s.heap H locs) {ls : Array Slot} (hl : lv_has ls 4 [(3, .int 0), (2, .ref that), (1, .ref this), (0, .ref b)]) : W p l e room_1 s m #[Value.ref b] below meth c H locs 207 49062 (lw_Z below #[Value.ref b] s) (F0 m 1676 ls []) := by
  have hA : ∀ q : Nat, s.heap.size ≤ q → s.heap.size ≤ q := fun _ h => h
  obtain ⟨y_this_352, y_this_353, y_this_354, y_this_355, y_this_356, hd_this_352_353, hd_this_352_354, hd_this_353_354⟩ := id hokx
  obtain ⟨-, this_now, hR_this_now, hL_this_now, hK_this_now, ho_this_now⟩ := y_this_352
  obtain ⟨y_this_now_325, y_this_now_326, y_this_now_327, y_this_now_328, y_this_now_329, y_this_now_330, y_this_now_331, y_this_now_332, hi_this_now_320, hi_this_now_323, hi_this_now_324⟩ := id ho_this_now
  obtain ⟨-, this_now_holder, hR_this_now_holder, hL_this_now_holder, hK_this_now_holder, hN_this_now_holder⟩ := y_this_now_325
  obtain ⟨-, this_now_seas, hR_this_now_seas, hL_this_now_seas, hK_this_now_seas, ho_this_now_seas⟩ := y_this_now_326
  obtain ⟨y_this_now_seas_225, y_this_now_seas_226, y_this_now_seas_227, y_this_now_seas_228, y_this_now_seas_229, y_this_now_seas_230, y_this_now_seas_231, y_this_now_seas_232, y_this_now_seas_233, hi_this_now_seas_237⟩ := id ho_this_now_seas
  obtain ⟨-, this_now_seas_rise, hR_this_now_seas_rise, hL_this_now_seas_rise, hK_this_now_seas_rise, hN_this_now_seas_rise⟩ := y_this_now_seas_225
  obtain ⟨-, this_now_seas_month, hR_this_now_seas_month, hL_this_now_seas_month, hK_this_now_seas_month, hN_this_now_seas_month⟩ := y_this_now_seas_226
  obtain ⟨-, this_now_seas_value, hR_this_now_seas_value, hL_this_now_seas_value, hK_this_now_seas_value, hN_this_now_seas_value⟩ := y_this_now_seas_227
  obtain ⟨-, this_now_seas_told, hR_this_now_seas_told, hL_this_now_seas_told, hK_this_now_seas_told, hN_this_now_seas_told⟩ := y_this_now_seas_228
  obtain ⟨-, this_now_seas_low, hR_this_now_seas_low, hL_this_now_seas_low, hK_this_now_seas_low, hN_this_now_seas_low⟩ := y_this_now_seas_229
  obtain ⟨-, this_now_seas_high, hR_this_now_seas_high, hL_this_now_seas_high, hK_this_now_seas_high, hN_this_now_seas_high⟩ := y_this_now_seas_230
  obtain ⟨-, this_now_seas_warm, hR_this_now_seas_warm, hL_this_now_seas_warm, hK_this_now_seas_warm, hN_this_now_seas_warm⟩ := y_this_now_seas_231
  obtain ⟨-, this_now_seas_drift, hR_this_now_seas_drift, hL_this_now_seas_drift, hK_this_now_seas_drift, hN_this_now_seas_drift⟩ := y_this_now_seas_232
  obtain ⟨-, this_now_seas_rain, hR_this_now_seas_rain, hL_this_now_seas_rain, hK_this_now_seas_rain, hN_this_now_seas_rain⟩ := y_this_now_seas_233
  obtain ⟨-, this_now_land, hR_this_now_land, hL_this_now_land, hK_this_now_land, ho_this_now_land⟩ := y_this_now_327
  obtain ⟨y_this_now_land_68, y_this_now_land_69, y_this_now_land_70, y_this_now_land_71, y_this_now_land_72, y_this_now_land_73, y_this_now_land_74, y_this_now_land_75, y_this_now_land_76, y_this_now_land_77, y_this_now_land_78, y_this_now_land_79, y_this_now_land_80, y_this_now_land_81, y_this_now_land_82, y_this_now_land_83, hd_this_now_land_82_83⟩ := id ho_this_now_land
  obtain ⟨-, this_now_land_rocks, hR_this_now_land_rocks, hL_this_now_land_rocks, hK_this_now_land_rocks, hN_this_now_land_rocks⟩ := y_this_now_land_68
  obtain ⟨-, this_now_land_ring, hR_this_now_land_ring, hL_this_now_land_ring, hK_this_now_land_ring, hN_this_now_land_ring⟩ := y_this_now_land_69
  obtain ⟨-, this_now_land_height, hR_this_now_land_height, hL_this_now_land_height, hK_this_now_land_height, hN_this_now_land_height⟩ := y_this_now_land_70
  obtain ⟨-, this_now_land_x, hR_this_now_land_x, hL_this_now_land_x, hK_this_now_land_x, hN_this_now_land_x⟩ := y_this_now_land_71
  obtain ⟨-, this_now_land_y, hR_this_now_land_y, hL_this_now_land_y, hK_this_now_land_y, hN_this_now_land_y⟩ := y_this_now_land_72
  obtain ⟨-, this_now_land_sand, hR_this_now_land_sand, hL_this_now_land_sand, hK_this_now_land_sand, hN_this_now_land_sand⟩ := y_this_now_land_73
  obtain ⟨-, this_now_land_reef, hR_this_now_land_reef, hL_this_now_land_reef, hK_this_now_land_reef, hN_this_now_land_reef⟩ := y_this_now_land_74
  obtain ⟨-, this_now_land_wall, hR_this_now_land_wall, hL_this_now_land_wall, hK_this_now_land_wall, hN_this_now_land_wall⟩ := y_this_now_land_75
  obtain ⟨-, this_now_land_beds, hR_this_now_land_beds, hL_this_now_land_beds, hK_this_now_land_beds, hN_this_now_land_beds⟩ := y_this_now_land_76
  obtain ⟨-, this_now_land_under, hR_this_now_land_under, hL_this_now_land_under, hK_this_now_land_under, hN_this_now_land_under⟩ := y_this_now_land_77
  obtain ⟨-, this_now_land_wells, hR_this_now_land_wells, hL_this_now_land_wells, hK_this_now_land_wells, ho_this_now_land_wells⟩ := y_this_now_land_78
  obtain ⟨y_this_now_land_wells_288, y_this_now_land_wells_289, y_this_now_land_wells_290⟩ := id ho_this_now_land_wells
  obtain ⟨-, this_now_land_wells_gathers, hR_this_now_land_wells_gathers, hL_this_now_land_wells_gathers, hK_this_now_land_wells_gathers, hN_this_now_land_wells_gathers⟩ := y_this_now_land_wells_288
  obtain ⟨-, this_now_land_wells_lens, hR_this_now_land_wells_lens, hL_this_now_land_wells_lens, hK_this_now_land_wells_lens, hN_this_now_land_wells_lens⟩ := y_this_now_land_wells_289
  obtain ⟨-, this_now_land_wells_salt, hR_this_now_land_wells_salt, hL_this_now_land_wells_salt, hK_this_now_land_wells_salt, hN_this_now_land_wells_salt⟩ := y_this_now_land_wells_290
  obtain ⟨-, this_now_land_next, hR_this_now_land_next, hL_this_now_land_next, hK_this_now_land_next, hN_this_now_land_next⟩ := y_this_now_land_79
  obtain ⟨-, this_now_land_first, hR_this_now_land_first, hL_this_now_land_first, hK_this_now_land_first, hN_this_now_land_first⟩ := y_this_now_land_80
  obtain ⟨-, this_now_folk, hR_this_now_folk, hL_this_now_folk, hK_this_now_folk, ho_this_now_folk⟩ := y_this_now_328
  obtain ⟨y_this_now_folk_1, y_this_now_folk_2, y_this_now_folk_3, y_this_now_folk_4, y_this_now_folk_5, y_this_now_folk_6, y_this_now_folk_7, y_this_now_folk_8, y_this_now_folk_9, y_this_now_folk_11, y_this_now_folk_12, y_this_now_folk_13, y_this_now_folk_14, y_this_now_folk_15⟩ := id ho_this_now_folk
  obtain ⟨-, this_now_folk_kin, hR_this_now_folk_kin, hL_this_now_folk_kin, hK_this_now_folk_kin, hN_this_now_folk_kin⟩ := y_this_now_folk_1
  obtain ⟨-, this_now_folk_age, hR_this_now_folk_age, hL_this_now_folk_age, hK_this_now_folk_age, hN_this_now_folk_age⟩ := y_this_now_folk_2
  obtain ⟨-, this_now_folk_craft, hR_this_now_folk_craft, hL_this_now_folk_craft, hK_this_now_folk_craft, hN_this_now_folk_craft⟩ := y_this_now_folk_3
  obtain ⟨-, this_now_folk_send, hR_this_now_folk_send, hL_this_now_folk_send, hK_this_now_folk_send, hN_this_now_folk_send⟩ := y_this_now_folk_4
  obtain ⟨-, this_now_folk_place, hR_this_now_folk_place, hL_this_now_folk_place, hK_this_now_folk_place, hN_this_now_folk_place⟩ := y_this_now_folk_5
  obtain ⟨-, this_now_folk_thirst, hR_this_now_folk_thirst, hL_this_now_folk_thirst, hK_this_now_folk_thirst, hN_this_now_folk_thirst⟩ := y_this_now_folk_6
  obtain ⟨-, this_now_folk_noBed, hR_this_now_folk_noBed, hL_this_now_folk_noBed, hK_this_now_folk_noBed, hN_this_now_folk_noBed⟩ := y_this_now_folk_7
  obtain ⟨-, this_now_folk_went, hR_this_now_folk_went, hL_this_now_folk_went, hK_this_now_folk_went, hN_this_now_folk_went⟩ := y_this_now_folk_8
  obtain ⟨-, this_now_folk_vote, hR_this_now_folk_vote, hL_this_now_folk_vote, hK_this_now_folk_vote, hN_this_now_folk_vote⟩ := y_this_now_folk_9
  obtain ⟨-, this_now_folk_lotBeds, hR_this_now_folk_lotBeds, hL_this_now_folk_lotBeds, hK_this_now_folk_lotBeds, hN_this_now_folk_lotBeds⟩ := y_this_now_folk_11
  obtain ⟨-, this_now_law, hR_this_now_law, hL_this_now_law, hK_this_now_law, ho_this_now_law⟩ := y_this_now_329
  obtain ⟨y_this_now_law_97, y_this_now_law_99, y_this_now_law_100, y_this_now_law_101, y_this_now_law_102, y_this_now_law_103⟩ := id ho_this_now_law
  obtain ⟨-, this_now_law_texts, hR_this_now_law_texts, hL_this_now_law_texts, hK_this_now_law_texts, hN_this_now_law_texts⟩ := y_this_now_law_97
  obtain ⟨-, this_now_law_forceText, hR_this_now_law_forceText, hL_this_now_law_forceText, hK_this_now_law_forceText, hN_this_now_law_forceText⟩ := y_this_now_law_99
  obtain ⟨-, this_now_law_forceFrom, hR_this_now_law_forceFrom, hL_this_now_law_forceFrom, hK_this_now_law_forceFrom, hN_this_now_law_forceFrom⟩ := y_this_now_law_100
  obtain ⟨-, this_now_law_forceTo, hR_this_now_law_forceTo, hL_this_now_law_forceTo, hK_this_now_law_forceTo, hN_this_now_law_forceTo⟩ := y_this_now_law_101
  obtain ⟨-, this_now_graves, hR_this_now_graves, hL_this_now_graves, hK_this_now_graves, ho_this_now_graves⟩ := y_this_now_330
  obtain ⟨y_this_now_graves_33, y_this_now_graves_34⟩ := id ho_this_now_graves
  obtain ⟨-, this_now_graves_cell, hR_this_now_graves_cell, hL_this_now_graves_cell, hK_this_now_graves_cell, hN_this_now_graves_cell⟩ := y_this_now_graves_33
  obtain ⟨-, this_now_graves_lay, hR_this_now_graves_lay, hL_this_now_graves_lay, hK_this_now_graves_lay, hN_this_now_graves_lay⟩ := y_this_now_graves_34
  obtain ⟨-, this_kept, hR_this_kept, hL_this_kept, hK_this_kept, ho_this_kept⟩ := y_this_353
  obtain ⟨y_this_kept_325, y_this_kept_326, y_this_kept_327, y_this_kept_328, y_this_kept_329, y_this_kept_330, y_this_kept_331, y_this_kept_332, hi_this_kept_320, hi_this_kept_323, hi_this_kept_324⟩ := id ho_this_kept
  obtain ⟨-, this_kept_holder, hR_this_kept_holder, hL_this_kept_holder, hK_this_kept_holder, hN_this_kept_holder⟩ := y_this_kept_325
  obtain ⟨-, this_kept_seas, hR_this_kept_seas, hL_this_kept_seas, hK_this_kept_seas, ho_this_kept_seas⟩ := y_this_kept_326
  obtain ⟨y_this_kept_seas_225, y_this_kept_seas_226, y_this_kept_seas_227, y_this_kept_seas_228, y_this_kept_seas_229, y_this_kept_seas_230, y_this_kept_seas_231, y_this_kept_seas_232, y_this_kept_seas_233, hi_this_kept_seas_237⟩ := id ho_this_kept_seas
  obtain ⟨-, this_kept_seas_rise, hR_this_kept_seas_rise, hL_this_kept_seas_rise, hK_this_kept_seas_rise, hN_this_kept_seas_rise⟩ := y_this_kept_seas_225
  obtain ⟨-, this_kept_seas_month, hR_this_kept_seas_month, hL_this_kept_seas_month, hK_this_kept_seas_month, hN_this_kept_seas_month⟩ := y_this_kept_seas_226
  obtain ⟨-, this_kept_seas_value, hR_this_kept_seas_value, hL_this_kept_seas_value, hK_this_kept_seas_value, hN_this_kept_seas_value⟩ := y_this_kept_seas_227
  obtain ⟨-, this_kept_seas_told, hR_this_kept_seas_told, hL_this_kept_seas_told, hK_this_kept_seas_told, hN_this_kept_seas_told⟩ := y_this_kept_seas_228
  obtain ⟨-, this_kept_seas_low, hR_this_kept_seas_low, hL_this_kept_seas_low, hK_this_kept_seas_low, hN_this_kept_seas_low⟩ := y_this_kept_seas_229
  obtain ⟨-, this_kept_seas_high, hR_this_kept_seas_high, hL_this_kept_seas_high, hK_this_kept_seas_high, hN_this_kept_seas_high⟩ := y_this_kept_seas_230
  obtain ⟨-, this_kept_seas_warm, hR_this_kept_seas_warm, hL_this_kept_seas_warm, hK_this_kept_seas_warm, hN_this_kept_seas_warm⟩ := y_this_kept_seas_231
  obtain ⟨-, this_kept_seas_drift, hR_this_kept_seas_drift, hL_this_kept_seas_drift, hK_this_kept_seas_drift, hN_this_kept_seas_drift⟩ := y_this_kept_seas_232
  obtain ⟨-, this_kept_seas_rain, hR_this_kept_seas_rain, hL_this_kept_seas_rain, hK_this_kept_seas_rain, hN_this_kept_seas_rain⟩ := y_this_kept_seas_233
  obtain ⟨-, this_kept_land, hR_this_kept_land, hL_this_kept_land, hK_this_kept_land, ho_this_kept_land⟩ := y_this_kept_327
  obtain ⟨y_this_kept_land_68, y_this_kept_land_69, y_this_kept_land_70, y_this_kept_land_71, y_this_kept_land_72, y_this_kept_land_73, y_this_kept_land_74, y_this_kept_land_75, y_this_kept_land_76, y_this_kept_land_77, y_this_kept_land_78, y_this_kept_land_79, y_this_kept_land_80, y_this_kept_land_81, y_this_kept_land_82, y_this_kept_land_83, hd_this_kept_land_82_83⟩ := id ho_this_kept_land
  obtain ⟨-, this_kept_land_rocks, hR_this_kept_land_rocks, hL_this_kept_land_rocks, hK_this_kept_land_rocks, hN_this_kept_land_rocks⟩ := y_this_kept_land_68
  obtain ⟨-, this_kept_land_ring, hR_this_kept_land_ring, hL_this_kept_land_ring, hK_this_kept_land_ring, hN_this_kept_land_ring⟩ := y_this_kept_land_69
  obtain ⟨-, this_kept_land_height, hR_this_kept_land_height, hL_this_kept_land_height, hK_this_kept_land_height, hN_this_kept_land_height⟩ := y_this_kept_land_70
  obtain ⟨-, this_kept_land_x, hR_this_kept_land_x, hL_this_kept_land_x, hK_this_kept_land_x, hN_this_kept_land_x⟩ := y_this_kept_land_71
  obtain ⟨-, this_kept_land_y, hR_this_kept_land_y, hL_this_kept_land_y, hK_this_kept_land_y, hN_this_kept_land_y⟩ := y_this_kept_land_72
  obtain ⟨-, this_kept_land_sand, hR_this_kept_land_sand, hL_this_kept_land_sand, hK_this_kept_land_sand, hN_this_kept_land_sand⟩ := y_this_kept_land_73
  obtain ⟨-, this_kept_land_reef, hR_this_kept_land_reef, hL_this_kept_land_reef, hK_this_kept_land_reef, hN_this_kept_land_reef⟩ := y_this_kept_land_74
  obtain ⟨-, this_kept_land_wall, hR_this_kept_land_wall, hL_this_kept_land_wall, hK_this_kept_land_wall, hN_this_kept_land_wall⟩ := y_this_kept_land_75
  obtain ⟨-, this_kept_land_beds, hR_this_kept_land_beds, hL_this_kept_land_beds, hK_this_kept_land_beds, hN_this_kept_land_beds⟩ := y_this_kept_land_76
  obtain ⟨-, this_kept_land_under, hR_this_kept_land_under, hL_this_kept_land_under, hK_this_kept_land_under, hN_this_kept_land_under⟩ := y_this_kept_land_77
  obtain ⟨-, this_kept_land_wells, hR_this_kept_land_wells, hL_this_kept_land_wells, hK_this_kept_land_wells, ho_this_kept_land_wells⟩ := y_this_kept_land_78
  obtain ⟨y_this_kept_land_wells_288, y_this_kept_land_wells_289, y_this_kept_land_wells_290⟩ := id ho_this_kept_land_wells
  obtain ⟨-, this_kept_land_wells_gathers, hR_this_kept_land_wells_gathers, hL_this_kept_land_wells_gathers, hK_this_kept_land_wells_gathers, hN_this_kept_land_wells_gathers⟩ := y_this_kept_land_wells_288
  obtain ⟨-, this_kept_land_wells_lens, hR_this_kept_land_wells_lens, hL_this_kept_land_wells_lens, hK_this_kept_land_wells_lens, hN_this_kept_land_wells_lens⟩ := y_this_kept_land_wells_289
  obtain ⟨-, this_kept_land_wells_salt, hR_this_kept_land_wells_salt, hL_this_kept_land_wells_salt, hK_this_kept_land_wells_salt, hN_this_kept_land_wells_salt⟩ := y_this_kept_land_wells_290
  obtain ⟨-, this_kept_land_next, hR_this_kept_land_next, hL_this_kept_land_next, hK_this_kept_land_next, hN_this_kept_land_next⟩ := y_this_kept_land_79
  obtain ⟨-, this_kept_land_first, hR_this_kept_land_first, hL_this_kept_land_first, hK_this_kept_land_first, hN_this_kept_land_first⟩ := y_this_kept_land_80
  obtain ⟨-, this_kept_folk, hR_this_kept_folk, hL_this_kept_folk, hK_this_kept_folk, ho_this_kept_folk⟩ := y_this_kept_328
  obtain ⟨y_this_kept_folk_1, y_this_kept_folk_2, y_this_kept_folk_3, y_this_kept_folk_4, y_this_kept_folk_5, y_this_kept_folk_6, y_this_kept_folk_7, y_this_kept_folk_8, y_this_kept_folk_9, y_this_kept_folk_11, y_this_kept_folk_12, y_this_kept_folk_13, y_this_kept_folk_14, y_this_kept_folk_15⟩ := id ho_this_kept_folk
  obtain ⟨-, this_kept_folk_kin, hR_this_kept_folk_kin, hL_this_kept_folk_kin, hK_this_kept_folk_kin, hN_this_kept_folk_kin⟩ := y_this_kept_folk_1
  obtain ⟨-, this_kept_folk_age, hR_this_kept_folk_age, hL_this_kept_folk_age, hK_this_kept_folk_age, hN_this_kept_folk_age⟩ := y_this_kept_folk_2
  obtain ⟨-, this_kept_folk_craft, hR_this_kept_folk_craft, hL_this_kept_folk_craft, hK_this_kept_folk_craft, hN_this_kept_folk_craft⟩ := y_this_kept_folk_3
  obtain ⟨-, this_kept_folk_send, hR_this_kept_folk_send, hL_this_kept_folk_send, hK_this_kept_folk_send, hN_this_kept_folk_send⟩ := y_this_kept_folk_4
  obtain ⟨-, this_kept_folk_place, hR_this_kept_folk_place, hL_this_kept_folk_place, hK_this_kept_folk_place, hN_this_kept_folk_place⟩ := y_this_kept_folk_5
  obtain ⟨-, this_kept_folk_thirst, hR_this_kept_folk_thirst, hL_this_kept_folk_thirst, hK_this_kept_folk_thirst, hN_this_kept_folk_thirst⟩ := y_this_kept_folk_6
  obtain ⟨-, this_kept_folk_noBed, hR_this_kept_folk_noBed, hL_this_kept_folk_noBed, hK_this_kept_folk_noBed, hN_this_kept_folk_noBed⟩ := y_this_kept_folk_7
  obtain ⟨-, this_kept_folk_went, hR_this_kept_folk_went, hL_this_kept_folk_went, hK_this_kept_folk_went, hN_this_kept_folk_went⟩ := y_this_kept_folk_8
  obtain ⟨-, this_kept_folk_vote, hR_this_kept_folk_vote, hL_this_kept_folk_vote, hK_this_kept_folk_vote, hN_this_kept_folk_vote⟩ := y_this_kept_folk_9
  obtain ⟨-, this_kept_folk_lotBeds, hR_this_kept_folk_lotBeds, hL_this_kept_folk_lotBeds, hK_this_kept_folk_lotBeds, hN_this_kept_folk_lotBeds⟩ := y_this_kept_folk_11
  obtain ⟨-, this_kept_law, hR_this_kept_law, hL_this_kept_law, hK_this_kept_law, ho_this_kept_law⟩ := y_this_kept_329
  obtain ⟨y_this_kept_law_97, y_this_kept_law_99, y_this_kept_law_100, y_this_kept_law_101, y_this_kept_law_102, y_this_kept_law_103⟩ := id ho_this_kept_law
  obtain ⟨-, this_kept_law_texts, hR_this_kept_law_texts, hL_this_kept_law_texts, hK_this_kept_law_texts, hN_this_kept_law_texts⟩ := y_this_kept_law_97
  obtain ⟨-, this_kept_law_forceText, hR_this_kept_law_forceText, hL_this_kept_law_forceText, hK_this_kept_law_forceText, hN_this_kept_law_forceText⟩ := y_this_kept_law_99
  obtain ⟨-, this_kept_law_forceFrom, hR_this_kept_law_forceFrom, hL_this_kept_law_forceFrom, hK_this_kept_law_forceFrom, hN_this_kept_law_forceFrom⟩ := y_this_kept_law_100
  obtain ⟨-, this_kept_law_forceTo, hR_this_kept_law_forceTo, hL_this_kept_law_forceTo, hK_this_kept_law_forceTo, hN_this_kept_law_forceTo⟩ := y_this_kept_law_101
  obtain ⟨-, this_kept_graves, hR_this_kept_graves, hL_this_kept_graves, hK_this_kept_graves, ho_this_kept_graves⟩ := y_this_kept_330
  obtain ⟨y_this_kept_graves_33, y_this_kept_graves_34⟩ := id ho_this_kept_graves
  obtain ⟨-, this_kept_graves_cell, hR_this_kept_graves_cell, hL_this_kept_graves_cell, hK_this_kept_graves_cell, hN_this_kept_graves_cell⟩ := y_this_kept_graves_33
  obtain ⟨-, this_kept_graves_lay, hR_this_kept_graves_lay, hL_this_kept_graves_lay, hK_this_kept_graves_lay, hN_this_kept_graves_lay⟩ := y_this_kept_graves_34
  obtain ⟨y_that_384, y_that_385, y_that_386, y_that_387, y_that_400, y_that_404, y_that_405, y_that_408, y_that_409, y_that_411, y_that_412, y_that_413, y_that_414, hi_that_388, hi_that_389, hi_that_390, hi_that_391, hd_that_384_385, hd_that_384_386, hd_that_384_414, hd_that_386_414, hF_384, hF_385⟩ := id hokm
  obtain ⟨-, that_a, hR_that_a, hL_that_a, hK_that_a, hN_that_a⟩ := y_that_384
  obtain ⟨-, that_image, hR_that_image, hL_that_image, hK_that_image, hN_that_image⟩ := y_that_385
  refine lv_aload_n hx hb dL_law_1676 rfl (lv_at hl 2 rfl) ?_
  refine lk_i (va_runV (As := []) (rest := []) ⟨hx, hb, hml, hown, hts⟩ (c_X11_image l D t σ I J ri rj rq H.size this hL_this hK_this this_now hR_this_now hL_this_now hK_this_now this_now_seas hR_this_now_seas hL_this_now_seas hK_this_now_seas this_kept hR_this_kept hL_this_kept hK_this_kept this_now_holder hR_this_now_holder hL_this_now_holder hK_this_now_holder hN_this_now_holder this_kept_holder hR_this_kept_holder hL_this_kept_holder hK_this_kept_holder hN_this_kept_holder this_kept_seas hR_this_kept_seas hL_this_kept_seas hK_this_kept_seas this_now_seas_rise hR_this_now_seas_rise hL_this_now_seas_rise hK_this_now_seas_rise hN_this_now_seas_rise this_kept_seas_rise hR_this_kept_seas_rise hL_this_kept_seas_rise hK_this_kept_seas_rise hN_this_kept_seas_rise this_now_seas_month hR_this_now_seas_month hL_this_now_seas_month hK_this_now_seas_month hN_this_now_seas_month this_kept_seas_month hR_this_kept_seas_month hL_this_kept_seas_month hK_this_kept_seas_month hN_this_kept_seas_month this_now_seas_value hR_this_now_seas_value hL_this_now_seas_value hK_this_now_seas_value hN_this_now_seas_value this_kept_seas_value hR_this_kept_seas_value hL_this_kept_seas_value hK_this_kept_seas_value hN_this_kept_seas_value this_now_seas_told hR_this_now_seas_told hL_this_now_seas_told hK_this_now_seas_told hN_this_now_seas_told this_kept_seas_told hR_this_kept_seas_told hL_this_kept_seas_told hK_this_kept_seas_told hN_this_kept_seas_told this_now_seas_low hR_this_now_seas_low hL_this_now_seas_low hK_this_now_seas_low hN_this_now_seas_low this_kept_seas_low hR_this_kept_seas_low hL_this_kept_seas_low hK_this_kept_seas_low hN_this_kept_seas_low this_now_seas_high hR_this_now_seas_high hL_this_now_seas_high hK_this_now_seas_high hN_this_now_seas_high this_kept_seas_high hR_this_kept_seas_high hL_this_kept_seas_high hK_this_kept_seas_high hN_this_kept_seas_high this_now_seas_warm hR_this_now_seas_warm hL_this_now_seas_warm hK_this_now_seas_warm hN_this_now_seas_warm this_kept_seas_warm hR_this_kept_seas_warm hL_this_kept_seas_warm hK_this_kept_seas_warm hN_this_kept_seas_warm this_now_seas_drift hR_this_now_seas_drift hL_this_now_seas_drift hK_this_now_seas_drift hN_this_now_seas_drift this_kept_seas_drift hR_this_kept_seas_drift hL_this_kept_seas_drift hK_this_kept_seas_drift hN_this_kept_seas_drift this_now_seas_rain hR_this_now_seas_rain hL_this_now_seas_rain hK_this_now_seas_rain hN_this_now_seas_rain this_kept_seas_rain hR_this_kept_seas_rain hL_this_kept_seas_rain hK_this_kept_seas_rain hN_this_kept_seas_rain this_kept_land hR_this_kept_land hL_this_kept_land hK_this_kept_land this_now_land hR_this_now_land hL_this_now_land hK_this_now_land this_now_land_rocks hR_this_now_land_rocks hL_this_now_land_rocks hK_this_now_land_rocks hN_this_now_land_rocks this_kept_land_rocks hR_this_kept_land_rocks hL_this_kept_land_rocks hK_this_kept_land_rocks hN_this_kept_land_rocks this_now_land_ring hR_this_now_land_ring hL_this_now_land_ring hK_this_now_land_ring hN_this_now_land_ring this_kept_land_ring hR_this_kept_land_ring hL_this_kept_land_ring hK_this_kept_land_ring hN_this_kept_land_ring this_now_land_height hR_this_now_land_height hL_this_now_land_height hK_this_now_land_height hN_this_now_land_height this_kept_land_height hR_this_kept_land_height hL_this_kept_land_height hK_this_kept_land_height hN_this_kept_land_height this_now_land_x hR_this_now_land_x hL_this_now_land_x hK_this_now_land_x hN_this_now_land_x this_kept_land_x hR_this_kept_land_x hL_this_kept_land_x hK_this_kept_land_x hN_this_kept_land_x this_now_land_y hR_this_now_land_y hL_this_now_land_y hK_this_now_land_y hN_this_now_land_y this_kept_land_y hR_this_kept_land_y hL_this_kept_land_y hK_this_kept_land_y hN_this_kept_land_y this_now_land_sand hR_this_now_land_sand hL_this_now_land_sand hK_this_now_land_sand hN_this_now_land_sand this_kept_land_sand hR_this_kept_land_sand hL_this_kept_land_sand hK_this_kept_land_sand hN_this_kept_land_sand this_now_land_reef hR_this_now_land_reef hL_this_now_land_reef hK_this_now_land_reef hN_this_now_land_reef this_kept_land_reef hR_this_kept_land_reef hL_this_kept_land_reef hK_this_kept_land_reef hN_this_kept_land_reef this_now_land_wall hR_this_now_land_wall hL_this_now_land_wall hK_this_now_land_wall hN_this_now_land_wall this_kept_land_wall hR_this_kept_land_wall hL_this_kept_land_wall hK_this_kept_land_wall hN_this_kept_land_wall this_now_land_beds hR_this_now_land_beds hL_this_now_land_beds hK_this_now_land_beds hN_this_now_land_beds this_kept_land_beds hR_this_kept_land_beds hL_this_kept_land_beds hK_this_kept_land_beds hN_this_kept_land_beds this_now_land_under hR_this_now_land_under hL_this_now_land_under hK_this_now_land_under hN_this_now_land_under this_kept_land_under hR_this_kept_land_under hL_this_kept_land_under hK_this_kept_land_under hN_this_kept_land_under this_kept_land_wells hR_this_kept_land_wells hL_this_kept_land_wells hK_this_kept_land_wells this_now_land_wells hR_this_now_land_wells hL_this_now_land_wells hK_this_now_land_wells this_now_land_wells_gathers hR_this_now_land_wells_gathers hL_this_now_land_wells_gathers hK_this_now_land_wells_gathers hN_this_now_land_wells_gathers this_kept_land_wells_gathers hR_this_kept_land_wells_gathers hL_this_kept_land_wells_gathers hK_this_kept_land_wells_gathers hN_this_kept_land_wells_gathers this_now_land_wells_lens hR_this_now_land_wells_lens hL_this_now_land_wells_lens hK_this_now_land_wells_lens hN_this_now_land_wells_lens this_kept_land_wells_lens hR_this_kept_land_wells_lens hL_this_kept_land_wells_lens hK_this_kept_land_wells_lens hN_this_kept_land_wells_lens this_now_land_wells_salt hR_this_now_land_wells_salt hL_this_now_land_wells_salt hK_this_now_land_wells_salt hN_this_now_land_wells_salt this_kept_land_wells_salt hR_this_kept_land_wells_salt hL_this_kept_land_wells_salt hK_this_kept_land_wells_salt hN_this_kept_land_wells_salt this_now_land_next hR_this_now_land_next hL_this_now_land_next hK_this_now_land_next hN_this_now_land_next this_kept_land_next hR_this_kept_land_next hL_this_kept_land_next hK_this_kept_land_next hN_this_kept_land_next this_now_land_first hR_this_now_land_first hL_this_now_land_first hK_this_now_land_first hN_this_now_land_first this_kept_land_first hR_this_kept_land_first hL_this_kept_land_first hK_this_kept_land_first hN_this_kept_land_first this_kept_folk hR_this_kept_folk hL_this_kept_folk hK_this_kept_folk this_now_folk hR_this_now_folk hL_this_now_folk hK_this_now_folk this_now_folk_kin hR_this_now_folk_kin hL_this_now_folk_kin hK_this_now_folk_kin hN_this_now_folk_kin this_kept_folk_kin hR_this_kept_folk_kin hL_this_kept_folk_kin hK_this_kept_folk_kin hN_this_kept_folk_kin this_now_folk_age hR_this_now_folk_age hL_this_now_folk_age hK_this_now_folk_age hN_this_now_folk_age this_kept_folk_age hR_this_kept_folk_age hL_this_kept_folk_age hK_this_kept_folk_age hN_this_kept_folk_age this_now_folk_craft hR_this_now_folk_craft hL_this_now_folk_craft hK_this_now_folk_craft hN_this_now_folk_craft this_kept_folk_craft hR_this_kept_folk_craft hL_this_kept_folk_craft hK_this_kept_folk_craft hN_this_kept_folk_craft this_now_folk_send hR_this_now_folk_send hL_this_now_folk_send hK_this_now_folk_send hN_this_now_folk_send this_kept_folk_send hR_this_kept_folk_send hL_this_kept_folk_send hK_this_kept_folk_send hN_this_kept_folk_send this_now_folk_place hR_this_now_folk_place hL_this_now_folk_place hK_this_now_folk_place hN_this_now_folk_place this_kept_folk_place hR_this_kept_folk_place hL_this_kept_folk_place hK_this_kept_folk_place hN_this_kept_folk_place this_now_folk_thirst hR_this_now_folk_thirst hL_this_now_folk_thirst hK_this_now_folk_thirst hN_this_now_folk_thirst this_kept_folk_thirst hR_this_kept_folk_thirst hL_this_kept_folk_thirst hK_this_kept_folk_thirst hN_this_kept_folk_thirst this_now_folk_noBed hR_this_now_folk_noBed hL_this_now_folk_noBed hK_this_now_folk_noBed hN_this_now_folk_noBed this_kept_folk_noBed hR_this_kept_folk_noBed hL_this_kept_folk_noBed hK_this_kept_folk_noBed hN_this_kept_folk_noBed this_now_folk_went hR_this_now_folk_went hL_this_now_folk_went hK_this_now_folk_went hN_this_now_folk_went this_kept_folk_went hR_this_kept_folk_went hL_this_kept_folk_went hK_this_kept_folk_went hN_this_kept_folk_went this_now_folk_vote hR_this_now_folk_vote hL_this_now_folk_vote hK_this_now_folk_vote hN_this_now_folk_vote this_kept_folk_vote hR_this_kept_folk_vote hL_this_kept_folk_vote hK_this_kept_folk_vote hN_this_kept_folk_vote this_now_folk_lotBeds hR_this_now_folk_lotBeds hL_this_now_folk_lotBeds hK_this_now_folk_lotBeds hN_this_now_folk_lotBeds this_kept_folk_lotBeds hR_this_kept_folk_lotBeds hL_this_kept_folk_lotBeds hK_this_kept_folk_lotBeds hN_this_kept_folk_lotBeds this_kept_law hR_this_kept_law hL_this_kept_law hK_this_kept_law this_now_law hR_this_now_law hL_this_now_law hK_this_now_law this_kept_law_texts hR_this_kept_law_texts hL_this_kept_law_texts hK_this_kept_law_texts hN_this_kept_law_texts this_now_law_texts hR_this_now_law_texts hL_this_now_law_texts hK_this_now_law_texts hN_this_now_law_texts this_now_law_forceText hR_this_now_law_forceText hL_this_now_law_forceText hK_this_now_law_forceText hN_this_now_law_forceText this_kept_law_forceText hR_this_kept_law_forceText hL_this_kept_law_forceText hK_this_kept_law_forceText hN_this_kept_law_forceText this_now_law_forceFrom hR_this_now_law_forceFrom hL_this_now_law_forceFrom hK_this_now_law_forceFrom hN_this_now_law_forceFrom this_kept_law_forceFrom hR_this_kept_law_forceFrom hL_this_kept_law_forceFrom hK_this_kept_law_forceFrom hN_this_kept_law_forceFrom this_now_law_forceTo hR_this_now_law_forceTo hL_this_now_law_forceTo hK_this_now_law_forceTo hN_this_now_law_forceTo this_kept_law_forceTo hR_this_kept_law_forceTo hL_this_kept_law_forceTo hK_this_kept_law_forceTo hN_this_kept_law_forceTo this_kept_graves hR_this_kept_graves hL_this_kept_graves hK_this_kept_graves this_now_graves hR_this_now_graves hL_this_now_graves hK_this_now_graves this_now_graves_cell hR_this_now_graves_cell hL_this_now_graves_cell hK_this_now_graves_cell hN_this_now_graves_cell this_kept_graves_cell hR_this_kept_graves_cell hL_this_kept_graves_cell hK_this_kept_graves_cell hN_this_kept_graves_cell this_now_graves_lay hR_this_now_graves_lay hL_this_now_graves_lay hK_this_now_graves_lay hN_this_now_graves_lay this_kept_graves_lay hR_this_kept_graves_lay hL_this_kept_graves_lay hK_this_kept_graves_lay hN_this_kept_graves_lay hZ hi_this_now_320 hi_this_now_320 hi_this_now_seas_237 hq0 (okD_at hd_this_352_353 hR_this_now hR_this_kept)) (cwV 0 hts (tw_V tw_1537 tw_1538 tw_1539 tw_2 tw_1540) rfl rfl rfl (by decide +kernel) ⟨Nat.le_of_ble_eq_true rfl, Nat.le_of_ble_eq_true rfl⟩) ⟨pq_blind, pq_recv hK hP hL_this hK_this (by decide) rfl, pq_pre hK hN hP hD⟩ rfl rfl hl.1 rfl (lv_room (Nat.le_of_ble_eq_true rfl)) dL_law_1677 ⟨Nat.le_of_ble_eq_true rfl, Nat.le_of_ble_eq_true rfl⟩) hD hS hA hP2 hdis (fun r1 u1 H locs hw1 hP2 hS => ?_)
  obtain ⟨_, _, _, _, -, -, hr1⟩ := hw1
  refine lv_aload_n hx hb dL_law_1680 rfl (lv_at hl 1 rfl) ?_
  refine pk_i (va_runV (As := []) (rest := [.int r1]) ⟨hx, hb, hml, hown, hts⟩ (c_X12_image l D t τ I2 J2 si sj sq H.size that hL_that hK_that that_a hR_that_a hL_that_a hK_that_a hN_that_a that_image hR_that_image hL_that_image hK_that_image hN_that_image (okF_at hF_384 hR_that_a) (okD_at hd_that_384_385 hR_that_a hR_that_image)) (cwV 0 hts (tw_V tw_1541 tw_1542 tw_1543 tw_5 tw_1544) rfl rfl rfl (by decide +kernel) ⟨Nat.le_of_ble_eq_true rfl, Nat.le_of_ble_eq_true rfl⟩) ⟨pq_blind, pq_recv hK hP2 hL_that hK_that (by decide) rfl, pq_pre hK hN hP2 hD2⟩ rfl rfl hl.1 rfl (lv_room (Nat.le_of_ble_eq_true rfl)) dL_law_1681 ⟨Nat.le_of_ble_eq_true rfl, Nat.le_of_ble_eq_true rfl⟩) hD2 hS hA (fun r2 σ3 μ3 H locs hw2 hP3 hD3 hS => ?_)
  obtain ⟨_, -, hr2⟩ := hw2
  have he : r1 = r2 := by exact hr1.trans hr2.symm
  refine lv_icmp_eq (tgt := 1725) hx hb dL_law_1684 (by decide) (fun _ => ?_) (fun q => absurd he q)
  exact lw_tail l hx hb hr hlocks hX hbl (by decide) (by decide) hS (lv_sub hl [3, 0] rfl)
set_option maxHeartbeats 8000000 in
set_option maxRecDepth 100000 in
theorem lw_op_39 {p : Program} {e : Env} {s : State} {m : MethodId} {below : List Frame} {meth : Method} {c : Code} {b : Nat} (l : Launch) (hx : p.tables.exec = Jvm.exec) (hb : c.code = cL_law) (hr : meth.sig.returnType = ret) (hml : c.maxLocals = 4) (hown : s.vm.findClass RL = some m.cls) (hlocks : meth.locks = false) (hts : ∀ w ∈ (Cond.initialized RX11 :: wsL_law), w.before #[Value.ref b] s = true) (xs : Nat → Int32) (hX : va_X b 7 xs s s.heap) (hbl : b < s.heap.size) {D : va_G} {t : pq_T} (hK : va_K D vwCl (pq_ty t) s) (hN : pq_N s) {σ τ : pq_S} {I : Nat → Nat → Int32} {J : Nat → Nat → Int64} {ri : Nat → Nat → Int32} {rj : Nat → Nat → Int64} {rq : Nat → Nat → Option Nat} {I2 : Nat → Nat → Int32} {J2 : Nat → Nat → Int64} {si : Nat → Nat → Int32} {sj : Nat → Nat → Int64} {sq : Nat → Nat → Option Nat} {this that : Nat} (hokx : okRingsUnder σ I this) (hL_this : this ∈ σ.1) (hK_this : σ.2.1 this = 11) (hZ : pq_Z I) (hq0 : rq = fun _ _ => none) (hokm : okModel τ I2 si that) (hL_that : that ∈ τ.1) (hK_that : τ.2.1 that = 12) (hdis : ∀ a, a ∈ τ.1 → a ∉ σ.1) {H : Heap} {locs : List Loc} (hP : va_P D vwCl (pq_P t σ (I, J, ri, rj, rq)) H) (hD : va_D (fun q => s.heap.size ≤ q) (pq_P t σ (I, J, ri, rj, rq))) (hP2 : va_P D vwCl (pq_P t τ (I2, J2, si, sj, sq)) H) (hD2 : va_D (fun q => s.heap.size ≤ q) (pq_P t τ (I2, J2, si, sj, sq))) (hS : va_S (fun q => s.heap.size ≤ q) s.heap H locs) {ls : Array Slot} (hl : lv_has ls 4 [(3, .int 0), (2, .ref that), (1, .ref this), (0, .ref b)]) : W p l e room_1 s m #[Value.ref b] below meth c H locs 207 49062 (lw_Z below #[Value.ref b] s) (F0 m 1689 ls []) := by
  have hA : ∀ q : Nat, s.heap.size ≤ q → s.heap.size ≤ q := fun _ h => h
  obtain ⟨y_this_352, y_this_353, y_this_354, y_this_355, y_this_356, hd_this_352_353, hd_this_352_354, hd_this_353_354⟩ := id hokx
  obtain ⟨-, this_now, hR_this_now, hL_this_now, hK_this_now, ho_this_now⟩ := y_this_352
  obtain ⟨y_this_now_325, y_this_now_326, y_this_now_327, y_this_now_328, y_this_now_329, y_this_now_330, y_this_now_331, y_this_now_332, hi_this_now_320, hi_this_now_323, hi_this_now_324⟩ := id ho_this_now
  obtain ⟨-, this_now_holder, hR_this_now_holder, hL_this_now_holder, hK_this_now_holder, hN_this_now_holder⟩ := y_this_now_325
  obtain ⟨-, this_now_seas, hR_this_now_seas, hL_this_now_seas, hK_this_now_seas, ho_this_now_seas⟩ := y_this_now_326
  obtain ⟨y_this_now_seas_225, y_this_now_seas_226, y_this_now_seas_227, y_this_now_seas_228, y_this_now_seas_229, y_this_now_seas_230, y_this_now_seas_231, y_this_now_seas_232, y_this_now_seas_233, hi_this_now_seas_237⟩ := id ho_this_now_seas
  obtain ⟨-, this_now_seas_rise, hR_this_now_seas_rise, hL_this_now_seas_rise, hK_this_now_seas_rise, hN_this_now_seas_rise⟩ := y_this_now_seas_225
  obtain ⟨-, this_now_seas_month, hR_this_now_seas_month, hL_this_now_seas_month, hK_this_now_seas_month, hN_this_now_seas_month⟩ := y_this_now_seas_226
  obtain ⟨-, this_now_seas_value, hR_this_now_seas_value, hL_this_now_seas_value, hK_this_now_seas_value, hN_this_now_seas_value⟩ := y_this_now_seas_227
  obtain ⟨-, this_now_seas_told, hR_this_now_seas_told, hL_this_now_seas_told, hK_this_now_seas_told, hN_this_now_seas_told⟩ := y_this_now_seas_228
  obtain ⟨-, this_now_seas_low, hR_this_now_seas_low, hL_this_now_seas_low, hK_this_now_seas_low, hN_this_now_seas_low⟩ := y_this_now_seas_229
  obtain ⟨-, this_now_seas_high, hR_this_now_seas_high, hL_this_now_seas_high, hK_this_now_seas_high, hN_this_now_seas_high⟩ := y_this_now_seas_230
  obtain ⟨-, this_now_seas_warm, hR_this_now_seas_warm, hL_this_now_seas_warm, hK_this_now_seas_warm, hN_this_now_seas_warm⟩ := y_this_now_seas_231
  obtain ⟨-, this_now_seas_drift, hR_this_now_seas_drift, hL_this_now_seas_drift, hK_this_now_seas_drift, hN_this_now_seas_drift⟩ := y_this_now_seas_232
  obtain ⟨-, this_now_seas_rain, hR_this_now_seas_rain, hL_this_now_seas_rain, hK_this_now_seas_rain, hN_this_now_seas_rain⟩ := y_this_now_seas_233
  obtain ⟨-, this_now_land, hR_this_now_land, hL_this_now_land, hK_this_now_land, ho_this_now_land⟩ := y_this_now_327
  obtain ⟨y_this_now_land_68, y_this_now_land_69, y_this_now_land_70, y_this_now_land_71, y_this_now_land_72, y_this_now_land_73, y_this_now_land_74, y_this_now_land_75, y_this_now_land_76, y_this_now_land_77, y_this_now_land_78, y_this_now_land_79, y_this_now_land_80, y_this_now_land_81, y_this_now_land_82, y_this_now_land_83, hd_this_now_land_82_83⟩ := id ho_this_now_land
  obtain ⟨-, this_now_land_rocks, hR_this_now_land_rocks, hL_this_now_land_rocks, hK_this_now_land_rocks, hN_this_now_land_rocks⟩ := y_this_now_land_68
  obtain ⟨-, this_now_land_ring, hR_this_now_land_ring, hL_this_now_land_ring, hK_this_now_land_ring, hN_this_now_land_ring⟩ := y_this_now_land_69
  obtain ⟨-, this_now_land_height, hR_this_now_land_height, hL_this_now_land_height, hK_this_now_land_height, hN_this_now_land_height⟩ := y_this_now_land_70
  obtain ⟨-, this_now_land_x, hR_this_now_land_x, hL_this_now_land_x, hK_this_now_land_x, hN_this_now_land_x⟩ := y_this_now_land_71
  obtain ⟨-, this_now_land_y, hR_this_now_land_y, hL_this_now_land_y, hK_this_now_land_y, hN_this_now_land_y⟩ := y_this_now_land_72
  obtain ⟨-, this_now_land_sand, hR_this_now_land_sand, hL_this_now_land_sand, hK_this_now_land_sand, hN_this_now_land_sand⟩ := y_this_now_land_73
  obtain ⟨-, this_now_land_reef, hR_this_now_land_reef, hL_this_now_land_reef, hK_this_now_land_reef, hN_this_now_land_reef⟩ := y_this_now_land_74
  obtain ⟨-, this_now_land_wall, hR_this_now_land_wall, hL_this_now_land_wall, hK_this_now_land_wall, hN_this_now_land_wall⟩ := y_this_now_land_75
  obtain ⟨-, this_now_land_beds, hR_this_now_land_beds, hL_this_now_land_beds, hK_this_now_land_beds, hN_this_now_land_beds⟩ := y_this_now_land_76
  obtain ⟨-, this_now_land_under, hR_this_now_land_under, hL_this_now_land_under, hK_this_now_land_under, hN_this_now_land_under⟩ := y_this_now_land_77
  obtain ⟨-, this_now_land_wells, hR_this_now_land_wells, hL_this_now_land_wells, hK_this_now_land_wells, ho_this_now_land_wells⟩ := y_this_now_land_78
  obtain ⟨y_this_now_land_wells_288, y_this_now_land_wells_289, y_this_now_land_wells_290⟩ := id ho_this_now_land_wells
  obtain ⟨-, this_now_land_wells_gathers, hR_this_now_land_wells_gathers, hL_this_now_land_wells_gathers, hK_this_now_land_wells_gathers, hN_this_now_land_wells_gathers⟩ := y_this_now_land_wells_288
  obtain ⟨-, this_now_land_wells_lens, hR_this_now_land_wells_lens, hL_this_now_land_wells_lens, hK_this_now_land_wells_lens, hN_this_now_land_wells_lens⟩ := y_this_now_land_wells_289
  obtain ⟨-, this_now_land_wells_salt, hR_this_now_land_wells_salt, hL_this_now_land_wells_salt, hK_this_now_land_wells_salt, hN_this_now_land_wells_salt⟩ := y_this_now_land_wells_290
  obtain ⟨-, this_now_land_next, hR_this_now_land_next, hL_this_now_land_next, hK_this_now_land_next, hN_this_now_land_next⟩ := y_this_now_land_79
  obtain ⟨-, this_now_land_first, hR_this_now_land_first, hL_this_now_land_first, hK_this_now_land_first, hN_this_now_land_first⟩ := y_this_now_land_80
  obtain ⟨-, this_now_folk, hR_this_now_folk, hL_this_now_folk, hK_this_now_folk, ho_this_now_folk⟩ := y_this_now_328
  obtain ⟨y_this_now_folk_1, y_this_now_folk_2, y_this_now_folk_3, y_this_now_folk_4, y_this_now_folk_5, y_this_now_folk_6, y_this_now_folk_7, y_this_now_folk_8, y_this_now_folk_9, y_this_now_folk_11, y_this_now_folk_12, y_this_now_folk_13, y_this_now_folk_14, y_this_now_folk_15⟩ := id ho_this_now_folk
  obtain ⟨-, this_now_folk_kin, hR_this_now_folk_kin, hL_this_now_folk_kin, hK_this_now_folk_kin, hN_this_now_folk_kin⟩ := y_this_now_folk_1
  obtain ⟨-, this_now_folk_age, hR_this_now_folk_age, hL_this_now_folk_age, hK_this_now_folk_age, hN_this_now_folk_age⟩ := y_this_now_folk_2
  obtain ⟨-, this_now_folk_craft, hR_this_now_folk_craft, hL_this_now_folk_craft, hK_this_now_folk_craft, hN_this_now_folk_craft⟩ := y_this_now_folk_3
  obtain ⟨-, this_now_folk_send, hR_this_now_folk_send, hL_this_now_folk_send, hK_this_now_folk_send, hN_this_now_folk_send⟩ := y_this_now_folk_4
  obtain ⟨-, this_now_folk_place, hR_this_now_folk_place, hL_this_now_folk_place, hK_this_now_folk_place, hN_this_now_folk_place⟩ := y_this_now_folk_5
  obtain ⟨-, this_now_folk_thirst, hR_this_now_folk_thirst, hL_this_now_folk_thirst, hK_this_now_folk_thirst, hN_this_now_folk_thirst⟩ := y_this_now_folk_6
  obtain ⟨-, this_now_folk_noBed, hR_this_now_folk_noBed, hL_this_now_folk_noBed, hK_this_now_folk_noBed, hN_this_now_folk_noBed⟩ := y_this_now_folk_7
  obtain ⟨-, this_now_folk_went, hR_this_now_folk_went, hL_this_now_folk_went, hK_this_now_folk_went, hN_this_now_folk_went⟩ := y_this_now_folk_8
  obtain ⟨-, this_now_folk_vote, hR_this_now_folk_vote, hL_this_now_folk_vote, hK_this_now_folk_vote, hN_this_now_folk_vote⟩ := y_this_now_folk_9
  obtain ⟨-, this_now_folk_lotBeds, hR_this_now_folk_lotBeds, hL_this_now_folk_lotBeds, hK_this_now_folk_lotBeds, hN_this_now_folk_lotBeds⟩ := y_this_now_folk_11
  obtain ⟨-, this_now_law, hR_this_now_law, hL_this_now_law, hK_this_now_law, ho_this_now_law⟩ := y_this_now_329
  obtain ⟨y_this_now_law_97, y_this_now_law_99, y_this_now_law_100, y_this_now_law_101, y_this_now_law_102, y_this_now_law_103⟩ := id ho_this_now_law
  obtain ⟨-, this_now_law_texts, hR_this_now_law_texts, hL_this_now_law_texts, hK_this_now_law_texts, hN_this_now_law_texts⟩ := y_this_now_law_97
  obtain ⟨-, this_now_law_forceText, hR_this_now_law_forceText, hL_this_now_law_forceText, hK_this_now_law_forceText, hN_this_now_law_forceText⟩ := y_this_now_law_99
  obtain ⟨-, this_now_law_forceFrom, hR_this_now_law_forceFrom, hL_this_now_law_forceFrom, hK_this_now_law_forceFrom, hN_this_now_law_forceFrom⟩ := y_this_now_law_100
  obtain ⟨-, this_now_law_forceTo, hR_this_now_law_forceTo, hL_this_now_law_forceTo, hK_this_now_law_forceTo, hN_this_now_law_forceTo⟩ := y_this_now_law_101
  obtain ⟨-, this_now_graves, hR_this_now_graves, hL_this_now_graves, hK_this_now_graves, ho_this_now_graves⟩ := y_this_now_330
  obtain ⟨y_this_now_graves_33, y_this_now_graves_34⟩ := id ho_this_now_graves
  obtain ⟨-, this_now_graves_cell, hR_this_now_graves_cell, hL_this_now_graves_cell, hK_this_now_graves_cell, hN_this_now_graves_cell⟩ := y_this_now_graves_33
  obtain ⟨-, this_now_graves_lay, hR_this_now_graves_lay, hL_this_now_graves_lay, hK_this_now_graves_lay, hN_this_now_graves_lay⟩ := y_this_now_graves_34
  obtain ⟨-, this_kept, hR_this_kept, hL_this_kept, hK_this_kept, ho_this_kept⟩ := y_this_353
  obtain ⟨y_this_kept_325, y_this_kept_326, y_this_kept_327, y_this_kept_328, y_this_kept_329, y_this_kept_330, y_this_kept_331, y_this_kept_332, hi_this_kept_320, hi_this_kept_323, hi_this_kept_324⟩ := id ho_this_kept
  obtain ⟨-, this_kept_holder, hR_this_kept_holder, hL_this_kept_holder, hK_this_kept_holder, hN_this_kept_holder⟩ := y_this_kept_325
  obtain ⟨-, this_kept_seas, hR_this_kept_seas, hL_this_kept_seas, hK_this_kept_seas, ho_this_kept_seas⟩ := y_this_kept_326
  obtain ⟨y_this_kept_seas_225, y_this_kept_seas_226, y_this_kept_seas_227, y_this_kept_seas_228, y_this_kept_seas_229, y_this_kept_seas_230, y_this_kept_seas_231, y_this_kept_seas_232, y_this_kept_seas_233, hi_this_kept_seas_237⟩ := id ho_this_kept_seas
  obtain ⟨-, this_kept_seas_rise, hR_this_kept_seas_rise, hL_this_kept_seas_rise, hK_this_kept_seas_rise, hN_this_kept_seas_rise⟩ := y_this_kept_seas_225
  obtain ⟨-, this_kept_seas_month, hR_this_kept_seas_month, hL_this_kept_seas_month, hK_this_kept_seas_month, hN_this_kept_seas_month⟩ := y_this_kept_seas_226
  obtain ⟨-, this_kept_seas_value, hR_this_kept_seas_value, hL_this_kept_seas_value, hK_this_kept_seas_value, hN_this_kept_seas_value⟩ := y_this_kept_seas_227
  obtain ⟨-, this_kept_seas_told, hR_this_kept_seas_told, hL_this_kept_seas_told, hK_this_kept_seas_told, hN_this_kept_seas_told⟩ := y_this_kept_seas_228
  obtain ⟨-, this_kept_seas_low, hR_this_kept_seas_low, hL_this_kept_seas_low, hK_this_kept_seas_low, hN_this_kept_seas_low⟩ := y_this_kept_seas_229
  obtain ⟨-, this_kept_seas_high, hR_this_kept_seas_high, hL_this_kept_seas_high, hK_this_kept_seas_high, hN_this_kept_seas_high⟩ := y_this_kept_seas_230
  obtain ⟨-, this_kept_seas_warm, hR_this_kept_seas_warm, hL_this_kept_seas_warm, hK_this_kept_seas_warm, hN_this_kept_seas_warm⟩ := y_this_kept_seas_231
  obtain ⟨-, this_kept_seas_drift, hR_this_kept_seas_drift, hL_this_kept_seas_drift, hK_this_kept_seas_drift, hN_this_kept_seas_drift⟩ := y_this_kept_seas_232
  obtain ⟨-, this_kept_seas_rain, hR_this_kept_seas_rain, hL_this_kept_seas_rain, hK_this_kept_seas_rain, hN_this_kept_seas_rain⟩ := y_this_kept_seas_233
  obtain ⟨-, this_kept_land, hR_this_kept_land, hL_this_kept_land, hK_this_kept_land, ho_this_kept_land⟩ := y_this_kept_327
  obtain ⟨y_this_kept_land_68, y_this_kept_land_69, y_this_kept_land_70, y_this_kept_land_71, y_this_kept_land_72, y_this_kept_land_73, y_this_kept_land_74, y_this_kept_land_75, y_this_kept_land_76, y_this_kept_land_77, y_this_kept_land_78, y_this_kept_land_79, y_this_kept_land_80, y_this_kept_land_81, y_this_kept_land_82, y_this_kept_land_83, hd_this_kept_land_82_83⟩ := id ho_this_kept_land
  obtain ⟨-, this_kept_land_rocks, hR_this_kept_land_rocks, hL_this_kept_land_rocks, hK_this_kept_land_rocks, hN_this_kept_land_rocks⟩ := y_this_kept_land_68
  obtain ⟨-, this_kept_land_ring, hR_this_kept_land_ring, hL_this_kept_land_ring, hK_this_kept_land_ring, hN_this_kept_land_ring⟩ := y_this_kept_land_69
  obtain ⟨-, this_kept_land_height, hR_this_kept_land_height, hL_this_kept_land_height, hK_this_kept_land_height, hN_this_kept_land_height⟩ := y_this_kept_land_70
  obtain ⟨-, this_kept_land_x, hR_this_kept_land_x, hL_this_kept_land_x, hK_this_kept_land_x, hN_this_kept_land_x⟩ := y_this_kept_land_71
  obtain ⟨-, this_kept_land_y, hR_this_kept_land_y, hL_this_kept_land_y, hK_this_kept_land_y, hN_this_kept_land_y⟩ := y_this_kept_land_72
  obtain ⟨-, this_kept_land_sand, hR_this_kept_land_sand, hL_this_kept_land_sand, hK_this_kept_land_sand, hN_this_kept_land_sand⟩ := y_this_kept_land_73
  obtain ⟨-, this_kept_land_reef, hR_this_kept_land_reef, hL_this_kept_land_reef, hK_this_kept_land_reef, hN_this_kept_land_reef⟩ := y_this_kept_land_74
  obtain ⟨-, this_kept_land_wall, hR_this_kept_land_wall, hL_this_kept_land_wall, hK_this_kept_land_wall, hN_this_kept_land_wall⟩ := y_this_kept_land_75
  obtain ⟨-, this_kept_land_beds, hR_this_kept_land_beds, hL_this_kept_land_beds, hK_this_kept_land_beds, hN_this_kept_land_beds⟩ := y_this_kept_land_76
  obtain ⟨-, this_kept_land_under, hR_this_kept_land_under, hL_this_kept_land_under, hK_this_kept_land_under, hN_this_kept_land_under⟩ := y_this_kept_land_77
  obtain ⟨-, this_kept_land_wells, hR_this_kept_land_wells, hL_this_kept_land_wells, hK_this_kept_land_wells, ho_this_kept_land_wells⟩ := y_this_kept_land_78
  obtain ⟨y_this_kept_land_wells_288, y_this_kept_land_wells_289, y_this_kept_land_wells_290⟩ := id ho_this_kept_land_wells
  obtain ⟨-, this_kept_land_wells_gathers, hR_this_kept_land_wells_gathers, hL_this_kept_land_wells_gathers, hK_this_kept_land_wells_gathers, hN_this_kept_land_wells_gathers⟩ := y_this_kept_land_wells_288
  obtain ⟨-, this_kept_land_wells_lens, hR_this_kept_land_wells_lens, hL_this_kept_land_wells_lens, hK_this_kept_land_wells_lens, hN_this_kept_land_wells_lens⟩ := y_this_kept_land_wells_289
  obtain ⟨-, this_kept_land_wells_salt, hR_this_kept_land_wells_salt, hL_this_kept_land_wells_salt, hK_this_kept_land_wells_salt, hN_this_kept_land_wells_salt⟩ := y_this_kept_land_wells_290
  obtain ⟨-, this_kept_land_next, hR_this_kept_land_next, hL_this_kept_land_next, hK_this_kept_land_next, hN_this_kept_land_next⟩ := y_this_kept_land_79
  obtain ⟨-, this_kept_land_first, hR_this_kept_land_first, hL_this_kept_land_first, hK_this_kept_land_first, hN_this_kept_land_first⟩ := y_this_kept_land_80
  obtain ⟨-, this_kept_folk, hR_this_kept_folk, hL_this_kept_folk, hK_this_kept_folk, ho_this_kept_folk⟩ := y_this_kept_328
  obtain ⟨y_this_kept_folk_1, y_this_kept_folk_2, y_this_kept_folk_3, y_this_kept_folk_4, y_this_kept_folk_5, y_this_kept_folk_6, y_this_kept_folk_7, y_this_kept_folk_8, y_this_kept_folk_9, y_this_kept_folk_11, y_this_kept_folk_12, y_this_kept_folk_13, y_this_kept_folk_14, y_this_kept_folk_15⟩ := id ho_this_kept_folk
  obtain ⟨-, this_kept_folk_kin, hR_this_kept_folk_kin, hL_this_kept_folk_kin, hK_this_kept_folk_kin, hN_this_kept_folk_kin⟩ := y_this_kept_folk_1
  obtain ⟨-, this_kept_folk_age, hR_this_kept_folk_age, hL_this_kept_folk_age, hK_this_kept_folk_age, hN_this_kept_folk_age⟩ := y_this_kept_folk_2
  obtain ⟨-, this_kept_folk_craft, hR_this_kept_folk_craft, hL_this_kept_folk_craft, hK_this_kept_folk_craft, hN_this_kept_folk_craft⟩ := y_this_kept_folk_3
  obtain ⟨-, this_kept_folk_send, hR_this_kept_folk_send, hL_this_kept_folk_send, hK_this_kept_folk_send, hN_this_kept_folk_send⟩ := y_this_kept_folk_4
  obtain ⟨-, this_kept_folk_place, hR_this_kept_folk_place, hL_this_kept_folk_place, hK_this_kept_folk_place, hN_this_kept_folk_place⟩ := y_this_kept_folk_5
  obtain ⟨-, this_kept_folk_thirst, hR_this_kept_folk_thirst, hL_this_kept_folk_thirst, hK_this_kept_folk_thirst, hN_this_kept_folk_thirst⟩ := y_this_kept_folk_6
  obtain ⟨-, this_kept_folk_noBed, hR_this_kept_folk_noBed, hL_this_kept_folk_noBed, hK_this_kept_folk_noBed, hN_this_kept_folk_noBed⟩ := y_this_kept_folk_7
  obtain ⟨-, this_kept_folk_went, hR_this_kept_folk_went, hL_this_kept_folk_went, hK_this_kept_folk_went, hN_this_kept_folk_went⟩ := y_this_kept_folk_8
  obtain ⟨-, this_kept_folk_vote, hR_this_kept_folk_vote, hL_this_kept_folk_vote, hK_this_kept_folk_vote, hN_this_kept_folk_vote⟩ := y_this_kept_folk_9
  obtain ⟨-, this_kept_folk_lotBeds, hR_this_kept_folk_lotBeds, hL_this_kept_folk_lotBeds, hK_this_kept_folk_lotBeds, hN_this_kept_folk_lotBeds⟩ := y_this_kept_folk_11
  obtain ⟨-, this_kept_law, hR_this_kept_law, hL_this_kept_law, hK_this_kept_law, ho_this_kept_law⟩ := y_this_kept_329
  obtain ⟨y_this_kept_law_97, y_this_kept_law_99, y_this_kept_law_100, y_this_kept_law_101, y_this_kept_law_102, y_this_kept_law_103⟩ := id ho_this_kept_law
  obtain ⟨-, this_kept_law_texts, hR_this_kept_law_texts, hL_this_kept_law_texts, hK_this_kept_law_texts, hN_this_kept_law_texts⟩ := y_this_kept_law_97
  obtain ⟨-, this_kept_law_forceText, hR_this_kept_law_forceText, hL_this_kept_law_forceText, hK_this_kept_law_forceText, hN_this_kept_law_forceText⟩ := y_this_kept_law_99
  obtain ⟨-, this_kept_law_forceFrom, hR_this_kept_law_forceFrom, hL_this_kept_law_forceFrom, hK_this_kept_law_forceFrom, hN_this_kept_law_forceFrom⟩ := y_this_kept_law_100
  obtain ⟨-, this_kept_law_forceTo, hR_this_kept_law_forceTo, hL_this_kept_law_forceTo, hK_this_kept_law_forceTo, hN_this_kept_law_forceTo⟩ := y_this_kept_law_101
  obtain ⟨-, this_kept_graves, hR_this_kept_graves, hL_this_kept_graves, hK_this_kept_graves, ho_this_kept_graves⟩ := y_this_kept_330
  obtain ⟨y_this_kept_graves_33, y_this_kept_graves_34⟩ := id ho_this_kept_graves
  obtain ⟨-, this_kept_graves_cell, hR_this_kept_graves_cell, hL_this_kept_graves_cell, hK_this_kept_graves_cell, hN_this_kept_graves_cell⟩ := y_this_kept_graves_33
  obtain ⟨-, this_kept_graves_lay, hR_this_kept_graves_lay, hL_this_kept_graves_lay, hK_this_kept_graves_lay, hN_this_kept_graves_lay⟩ := y_this_kept_graves_34
  obtain ⟨y_that_384, y_that_385, y_that_386, y_that_387, y_that_400, y_that_404, y_that_405, y_that_408, y_that_409, y_that_411, y_that_412, y_that_413, y_that_414, hi_that_388, hi_that_389, hi_that_390, hi_that_391, hd_that_384_385, hd_that_384_386, hd_that_384_414, hd_that_386_414, hF_384, hF_385⟩ := id hokm
  obtain ⟨-, that_a, hR_that_a, hL_that_a, hK_that_a, hN_that_a⟩ := y_that_384
  obtain ⟨-, that_image, hR_that_image, hL_that_image, hK_that_image, hN_that_image⟩ := y_that_385
  refine lv_aload_n hx hb dL_law_1689 rfl (lv_at hl 2 rfl) ?_
  refine lk_i (va_runV (As := []) (rest := []) ⟨hx, hb, hml, hown, hts⟩ (c_X11_back l D t σ I J ri rj rq H.size this hL_this hK_this this_kept hR_this_kept hL_this_kept hK_this_kept this_kept_seas hR_this_kept_seas hL_this_kept_seas hK_this_kept_seas this_now hR_this_now hL_this_now hK_this_now this_kept_holder hR_this_kept_holder hL_this_kept_holder hK_this_kept_holder hN_this_kept_holder this_now_holder hR_this_now_holder hL_this_now_holder hK_this_now_holder hN_this_now_holder this_now_seas hR_this_now_seas hL_this_now_seas hK_this_now_seas this_kept_seas_rise hR_this_kept_seas_rise hL_this_kept_seas_rise hK_this_kept_seas_rise hN_this_kept_seas_rise this_now_seas_rise hR_this_now_seas_rise hL_this_now_seas_rise hK_this_now_seas_rise hN_this_now_seas_rise this_kept_seas_month hR_this_kept_seas_month hL_this_kept_seas_month hK_this_kept_seas_month hN_this_kept_seas_month this_now_seas_month hR_this_now_seas_month hL_this_now_seas_month hK_this_now_seas_month hN_this_now_seas_month this_kept_seas_value hR_this_kept_seas_value hL_this_kept_seas_value hK_this_kept_seas_value hN_this_kept_seas_value this_now_seas_value hR_this_now_seas_value hL_this_now_seas_value hK_this_now_seas_value hN_this_now_seas_value this_kept_seas_told hR_this_kept_seas_told hL_this_kept_seas_told hK_this_kept_seas_told hN_this_kept_seas_told this_now_seas_told hR_this_now_seas_told hL_this_now_seas_told hK_this_now_seas_told hN_this_now_seas_told this_kept_seas_low hR_this_kept_seas_low hL_this_kept_seas_low hK_this_kept_seas_low hN_this_kept_seas_low this_now_seas_low hR_this_now_seas_low hL_this_now_seas_low hK_this_now_seas_low hN_this_now_seas_low this_kept_seas_high hR_this_kept_seas_high hL_this_kept_seas_high hK_this_kept_seas_high hN_this_kept_seas_high this_now_seas_high hR_this_now_seas_high hL_this_now_seas_high hK_this_now_seas_high hN_this_now_seas_high this_kept_seas_warm hR_this_kept_seas_warm hL_this_kept_seas_warm hK_this_kept_seas_warm hN_this_kept_seas_warm this_now_seas_warm hR_this_now_seas_warm hL_this_now_seas_warm hK_this_now_seas_warm hN_this_now_seas_warm this_kept_seas_drift hR_this_kept_seas_drift hL_this_kept_seas_drift hK_this_kept_seas_drift hN_this_kept_seas_drift this_now_seas_drift hR_this_now_seas_drift hL_this_now_seas_drift hK_this_now_seas_drift hN_this_now_seas_drift this_kept_seas_rain hR_this_kept_seas_rain hL_this_kept_seas_rain hK_this_kept_seas_rain hN_this_kept_seas_rain this_now_seas_rain hR_this_now_seas_rain hL_this_now_seas_rain hK_this_now_seas_rain hN_this_now_seas_rain this_now_land hR_this_now_land hL_this_now_land hK_this_now_land this_kept_land hR_this_kept_land hL_this_kept_land hK_this_kept_land this_kept_land_rocks hR_this_kept_land_rocks hL_this_kept_land_rocks hK_this_kept_land_rocks hN_this_kept_land_rocks this_now_land_rocks hR_this_now_land_rocks hL_this_now_land_rocks hK_this_now_land_rocks hN_this_now_land_rocks this_kept_land_ring hR_this_kept_land_ring hL_this_kept_land_ring hK_this_kept_land_ring hN_this_kept_land_ring this_now_land_ring hR_this_now_land_ring hL_this_now_land_ring hK_this_now_land_ring hN_this_now_land_ring this_kept_land_height hR_this_kept_land_height hL_this_kept_land_height hK_this_kept_land_height hN_this_kept_land_height this_now_land_height hR_this_now_land_height hL_this_now_land_height hK_this_now_land_height hN_this_now_land_height this_kept_land_x hR_this_kept_land_x hL_this_kept_land_x hK_this_kept_land_x hN_this_kept_land_x this_now_land_x hR_this_now_land_x hL_this_now_land_x hK_this_now_land_x hN_this_now_land_x this_kept_land_y hR_this_kept_land_y hL_this_kept_land_y hK_this_kept_land_y hN_this_kept_land_y this_now_land_y hR_this_now_land_y hL_this_now_land_y hK_this_now_land_y hN_this_now_land_y this_kept_land_sand hR_this_kept_land_sand hL_this_kept_land_sand hK_this_kept_land_sand hN_this_kept_land_sand this_now_land_sand hR_this_now_land_sand hL_this_now_land_sand hK_this_now_land_sand hN_this_now_land_sand this_kept_land_reef hR_this_kept_land_reef hL_this_kept_land_reef hK_this_kept_land_reef hN_this_kept_land_reef this_now_land_reef hR_this_now_land_reef hL_this_now_land_reef hK_this_now_land_reef hN_this_now_land_reef this_kept_land_wall hR_this_kept_land_wall hL_this_kept_land_wall hK_this_kept_land_wall hN_this_kept_land_wall this_now_land_wall hR_this_now_land_wall hL_this_now_land_wall hK_this_now_land_wall hN_this_now_land_wall this_kept_land_beds hR_this_kept_land_beds hL_this_kept_land_beds hK_this_kept_land_beds hN_this_kept_land_beds this_now_land_beds hR_this_now_land_beds hL_this_now_land_beds hK_this_now_land_beds hN_this_now_land_beds this_kept_land_under hR_this_kept_land_under hL_this_kept_land_under hK_this_kept_land_under hN_this_kept_land_under this_now_land_under hR_this_now_land_under hL_this_now_land_under hK_this_now_land_under hN_this_now_land_under this_now_land_wells hR_this_now_land_wells hL_this_now_land_wells hK_this_now_land_wells this_kept_land_wells hR_this_kept_land_wells hL_this_kept_land_wells hK_this_kept_land_wells this_kept_land_wells_gathers hR_this_kept_land_wells_gathers hL_this_kept_land_wells_gathers hK_this_kept_land_wells_gathers hN_this_kept_land_wells_gathers this_now_land_wells_gathers hR_this_now_land_wells_gathers hL_this_now_land_wells_gathers hK_this_now_land_wells_gathers hN_this_now_land_wells_gathers this_kept_land_wells_lens hR_this_kept_land_wells_lens hL_this_kept_land_wells_lens hK_this_kept_land_wells_lens hN_this_kept_land_wells_lens this_now_land_wells_lens hR_this_now_land_wells_lens hL_this_now_land_wells_lens hK_this_now_land_wells_lens hN_this_now_land_wells_lens this_kept_land_wells_salt hR_this_kept_land_wells_salt hL_this_kept_land_wells_salt hK_this_kept_land_wells_salt hN_this_kept_land_wells_salt this_now_land_wells_salt hR_this_now_land_wells_salt hL_this_now_land_wells_salt hK_this_now_land_wells_salt hN_this_now_land_wells_salt this_kept_land_next hR_this_kept_land_next hL_this_kept_land_next hK_this_kept_land_next hN_this_kept_land_next this_now_land_next hR_this_now_land_next hL_this_now_land_next hK_this_now_land_next hN_this_now_land_next this_kept_land_first hR_this_kept_land_first hL_this_kept_land_first hK_this_kept_land_first hN_this_kept_land_first this_now_land_first hR_this_now_land_first hL_this_now_land_first hK_this_now_land_first hN_this_now_land_first this_now_folk hR_this_now_folk hL_this_now_folk hK_this_now_folk this_kept_folk hR_this_kept_folk hL_this_kept_folk hK_this_kept_folk this_kept_folk_kin hR_this_kept_folk_kin hL_this_kept_folk_kin hK_this_kept_folk_kin hN_this_kept_folk_kin this_now_folk_kin hR_this_now_folk_kin hL_this_now_folk_kin hK_this_now_folk_kin hN_this_now_folk_kin this_kept_folk_age hR_this_kept_folk_age hL_this_kept_folk_age hK_this_kept_folk_age hN_this_kept_folk_age this_now_folk_age hR_this_now_folk_age hL_this_now_folk_age hK_this_now_folk_age hN_this_now_folk_age this_kept_folk_craft hR_this_kept_folk_craft hL_this_kept_folk_craft hK_this_kept_folk_craft hN_this_kept_folk_craft this_now_folk_craft hR_this_now_folk_craft hL_this_now_folk_craft hK_this_now_folk_craft hN_this_now_folk_craft this_kept_folk_send hR_this_kept_folk_send hL_this_kept_folk_send hK_this_kept_folk_send hN_this_kept_folk_send this_now_folk_send hR_this_now_folk_send hL_this_now_folk_send hK_this_now_folk_send hN_this_now_folk_send this_kept_folk_place hR_this_kept_folk_place hL_this_kept_folk_place hK_this_kept_folk_place hN_this_kept_folk_place this_now_folk_place hR_this_now_folk_place hL_this_now_folk_place hK_this_now_folk_place hN_this_now_folk_place this_kept_folk_thirst hR_this_kept_folk_thirst hL_this_kept_folk_thirst hK_this_kept_folk_thirst hN_this_kept_folk_thirst this_now_folk_thirst hR_this_now_folk_thirst hL_this_now_folk_thirst hK_this_now_folk_thirst hN_this_now_folk_thirst this_kept_folk_noBed hR_this_kept_folk_noBed hL_this_kept_folk_noBed hK_this_kept_folk_noBed hN_this_kept_folk_noBed this_now_folk_noBed hR_this_now_folk_noBed hL_this_now_folk_noBed hK_this_now_folk_noBed hN_this_now_folk_noBed this_kept_folk_went hR_this_kept_folk_went hL_this_kept_folk_went hK_this_kept_folk_went hN_this_kept_folk_went this_now_folk_went hR_this_now_folk_went hL_this_now_folk_went hK_this_now_folk_went hN_this_now_folk_went this_kept_folk_vote hR_this_kept_folk_vote hL_this_kept_folk_vote hK_this_kept_folk_vote hN_this_kept_folk_vote this_now_folk_vote hR_this_now_folk_vote hL_this_now_folk_vote hK_this_now_folk_vote hN_this_now_folk_vote this_kept_folk_lotBeds hR_this_kept_folk_lotBeds hL_this_kept_folk_lotBeds hK_this_kept_folk_lotBeds hN_this_kept_folk_lotBeds this_now_folk_lotBeds hR_this_now_folk_lotBeds hL_this_now_folk_lotBeds hK_this_now_folk_lotBeds hN_this_now_folk_lotBeds this_now_law hR_this_now_law hL_this_now_law hK_this_now_law this_kept_law hR_this_kept_law hL_this_kept_law hK_this_kept_law this_now_law_texts hR_this_now_law_texts hL_this_now_law_texts hK_this_now_law_texts hN_this_now_law_texts this_kept_law_texts hR_this_kept_law_texts hL_this_kept_law_texts hK_this_kept_law_texts hN_this_kept_law_texts this_kept_law_forceText hR_this_kept_law_forceText hL_this_kept_law_forceText hK_this_kept_law_forceText hN_this_kept_law_forceText this_now_law_forceText hR_this_now_law_forceText hL_this_now_law_forceText hK_this_now_law_forceText hN_this_now_law_forceText this_kept_law_forceFrom hR_this_kept_law_forceFrom hL_this_kept_law_forceFrom hK_this_kept_law_forceFrom hN_this_kept_law_forceFrom this_now_law_forceFrom hR_this_now_law_forceFrom hL_this_now_law_forceFrom hK_this_now_law_forceFrom hN_this_now_law_forceFrom this_kept_law_forceTo hR_this_kept_law_forceTo hL_this_kept_law_forceTo hK_this_kept_law_forceTo hN_this_kept_law_forceTo this_now_law_forceTo hR_this_now_law_forceTo hL_this_now_law_forceTo hK_this_now_law_forceTo hN_this_now_law_forceTo this_now_graves hR_this_now_graves hL_this_now_graves hK_this_now_graves this_kept_graves hR_this_kept_graves hL_this_kept_graves hK_this_kept_graves this_kept_graves_cell hR_this_kept_graves_cell hL_this_kept_graves_cell hK_this_kept_graves_cell hN_this_kept_graves_cell this_now_graves_cell hR_this_now_graves_cell hL_this_now_graves_cell hK_this_now_graves_cell hN_this_now_graves_cell this_kept_graves_lay hR_this_kept_graves_lay hL_this_kept_graves_lay hK_this_kept_graves_lay hN_this_kept_graves_lay this_now_graves_lay hR_this_now_graves_lay hL_this_now_graves_lay hK_this_now_graves_lay hN_this_now_graves_lay hZ hi_this_kept_320 hi_this_now_320 hi_this_kept_seas_237 hq0) (cwV 0 hts (tw_V tw_1545 tw_1546 tw_1547 tw_2 tw_1548) rfl rfl rfl (by decide +kernel) ⟨Nat.le_of_ble_eq_true rfl, Nat.le_of_ble_eq_true rfl⟩) ⟨pq_blind, pq_recv hK hP hL_this hK_this (by decide) rfl, pq_pre hK hN hP hD⟩ rfl rfl hl.1 rfl (lv_room (Nat.le_of_ble_eq_true rfl)) dL_law_1690 ⟨Nat.le_of_ble_eq_true rfl, Nat.le_of_ble_eq_true rfl⟩) hD hS hA hP2 hdis (fun r1 u1 H locs hw1 hP2 hS => ?_)
  obtain ⟨_, _, _, _, -, -, hr1⟩ := hw1
  refine lv_aload_n hx hb dL_law_1693 rfl (lv_at hl 1 rfl) ?_
  refine pk_i (va_runV (As := []) (rest := [.int r1]) ⟨hx, hb, hml, hown, hts⟩ (c_X12_back l D t τ I2 J2 si sj sq H.size that hL_that hK_that that_a hR_that_a hL_that_a hK_that_a hN_that_a that_image hR_that_image hL_that_image hK_that_image hN_that_image (okD_at hd_that_384_385 hR_that_a hR_that_image) (okF_at hF_385 hR_that_image)) (cwV 0 hts (tw_V tw_1549 tw_1550 tw_1551 tw_5 tw_1552) rfl rfl rfl (by decide +kernel) ⟨Nat.le_of_ble_eq_true rfl, Nat.le_of_ble_eq_true rfl⟩) ⟨pq_blind, pq_recv hK hP2 hL_that hK_that (by decide) rfl, pq_pre hK hN hP2 hD2⟩ rfl rfl hl.1 rfl (lv_room (Nat.le_of_ble_eq_true rfl)) dL_law_1694 ⟨Nat.le_of_ble_eq_true rfl, Nat.le_of_ble_eq_true rfl⟩) hD2 hS hA (fun r2 σ3 μ3 H locs hw2 hP3 hD3 hS => ?_)
  obtain ⟨_, -, hr2⟩ := hw2
  have he : r1 = r2 := by exact hr1.trans hr2.symm
  refine lv_icmp_eq (tgt := 1725) hx hb dL_law_1697 (by decide) (fun _ => ?_) (fun q => absurd he q)
  exact lw_tail l hx hb hr hlocks hX hbl (by decide) (by decide) hS (lv_sub hl [3, 0] rfl)
set_option maxHeartbeats 8000000 in
set_option maxRecDepth 100000 in
theorem lw_op_40 {p : Program} {e : Env} {s : State} {m : MethodId} {below : List Frame} {meth : Method} {c : Code} {b : Nat} (l : Launch) (hx : p.tables.exec = Jvm.exec) (hb : c.code = cL_law) (hr : meth.sig.returnType = ret) (hml : c.maxLocals = 4) (hown : s.vm.findClass RL = some m.cls) (hlocks : meth.locks = false) (hts : ∀ w ∈ (Cond.initialized RX11 :: wsL_law), w.before #[Value.ref b] s = true) (xs : Nat → Int32) (hX : va_X b 7 xs s s.heap) (hbl : b < s.heap.size) {D : va_G} {t : pq_T} (hK : va_K D vwCl (pq_ty t) s) (hN : pq_N s) {σ τ : pq_S} {I : Nat → Nat → Int32} {J : Nat → Nat → Int64} {ri : Nat → Nat → Int32} {rj : Nat → Nat → Int64} {rq : Nat → Nat → Option Nat} {I2 : Nat → Nat → Int32} {J2 : Nat → Nat → Int64} {si : Nat → Nat → Int32} {sj : Nat → Nat → Int64} {sq : Nat → Nat → Option Nat} {this that : Nat} (hokx : okRingsUnder σ I this) (hL_this : this ∈ σ.1) (hK_this : σ.2.1 this = 11) (hZ : pq_Z I) (hq0 : rq = fun _ _ => none) (hokm : okModel τ I2 si that) (hL_that : that ∈ τ.1) (hK_that : τ.2.1 that = 12) (hdis : ∀ a, a ∈ τ.1 → a ∉ σ.1) {H : Heap} {locs : List Loc} (hP : va_P D vwCl (pq_P t σ (I, J, ri, rj, rq)) H) (hD : va_D (fun q => s.heap.size ≤ q) (pq_P t σ (I, J, ri, rj, rq))) (hP2 : va_P D vwCl (pq_P t τ (I2, J2, si, sj, sq)) H) (hD2 : va_D (fun q => s.heap.size ≤ q) (pq_P t τ (I2, J2, si, sj, sq))) (hS : va_S (fun q => s.heap.size ≤ q) s.heap H locs) {ls : Array Slot} (hl : lv_has ls 4 [(3, .int 0), (2, .ref that), (1, .ref this), (0, .ref b)]) : W p l e room_1 s m #[Value.ref b] below meth c H locs 207 49062 (lw_Z below #[Value.ref b] s) (F0 m 1702 ls []) := by
  have hA : ∀ q : Nat, s.heap.size ≤ q → s.heap.size ≤ q := fun _ h => h
  obtain ⟨y_this_352, y_this_353, y_this_354, y_this_355, y_this_356, hd_this_352_353, hd_this_352_354, hd_this_353_354⟩ := id hokx
  obtain ⟨-, this_now, hR_this_now, hL_this_now, hK_this_now, ho_this_now⟩ := y_this_352
  obtain ⟨y_this_now_325, y_this_now_326, y_this_now_327, y_this_now_328, y_this_now_329, y_this_now_330, y_this_now_331, y_this_now_332, hi_this_now_320, hi_this_now_323, hi_this_now_324⟩ := id ho_this_now
  obtain ⟨-, this_now_seas, hR_this_now_seas, hL_this_now_seas, hK_this_now_seas, ho_this_now_seas⟩ := y_this_now_326
  obtain ⟨y_this_now_seas_225, y_this_now_seas_226, y_this_now_seas_227, y_this_now_seas_228, y_this_now_seas_229, y_this_now_seas_230, y_this_now_seas_231, y_this_now_seas_232, y_this_now_seas_233, hi_this_now_seas_237⟩ := id ho_this_now_seas
  obtain ⟨-, this_now_land, hR_this_now_land, hL_this_now_land, hK_this_now_land, ho_this_now_land⟩ := y_this_now_327
  obtain ⟨y_this_now_land_68, y_this_now_land_69, y_this_now_land_70, y_this_now_land_71, y_this_now_land_72, y_this_now_land_73, y_this_now_land_74, y_this_now_land_75, y_this_now_land_76, y_this_now_land_77, y_this_now_land_78, y_this_now_land_79, y_this_now_land_80, y_this_now_land_81, y_this_now_land_82, y_this_now_land_83, hd_this_now_land_82_83⟩ := id ho_this_now_land
  obtain ⟨-, this_now_land_sand, hR_this_now_land_sand, hL_this_now_land_sand, hK_this_now_land_sand, hN_this_now_land_sand⟩ := y_this_now_land_73
  obtain ⟨-, this_now_folk, hR_this_now_folk, hL_this_now_folk, hK_this_now_folk, ho_this_now_folk⟩ := y_this_now_328
  obtain ⟨y_this_now_folk_1, y_this_now_folk_2, y_this_now_folk_3, y_this_now_folk_4, y_this_now_folk_5, y_this_now_folk_6, y_this_now_folk_7, y_this_now_folk_8, y_this_now_folk_9, y_this_now_folk_11, y_this_now_folk_12, y_this_now_folk_13, y_this_now_folk_14, y_this_now_folk_15⟩ := id ho_this_now_folk
  obtain ⟨-, this_now_folk_thirst, hR_this_now_folk_thirst, hL_this_now_folk_thirst, hK_this_now_folk_thirst, hN_this_now_folk_thirst⟩ := y_this_now_folk_6
  obtain ⟨-, this_now_folk_noBed, hR_this_now_folk_noBed, hL_this_now_folk_noBed, hK_this_now_folk_noBed, hN_this_now_folk_noBed⟩ := y_this_now_folk_7
  obtain ⟨-, this_now_law, hR_this_now_law, hL_this_now_law, hK_this_now_law, ho_this_now_law⟩ := y_this_now_329
  obtain ⟨-, this_now_graves, hR_this_now_graves, hL_this_now_graves, hK_this_now_graves, ho_this_now_graves⟩ := y_this_now_330
  have hrd := y_this_356
  obtain ⟨-, this_reader, hR_this_reader, hL_this_reader, hK_this_reader, ho_this_reader⟩ := y_this_356
  obtain ⟨y_this_reader_128, y_this_reader_131, y_this_reader_133, hi_this_reader_129, hi_this_reader_130⟩ := id ho_this_reader
  obtain ⟨-, this_reader_scanner, hR_this_reader_scanner, hL_this_reader_scanner, hK_this_reader_scanner, ho_this_reader_scanner⟩ := y_this_reader_128
  obtain ⟨y_that_384, y_that_385, y_that_386, y_that_387, y_that_400, y_that_404, y_that_405, y_that_408, y_that_409, y_that_411, y_that_412, y_that_413, y_that_414, hi_that_388, hi_that_389, hi_that_390, hi_that_391, hd_that_384_385, hd_that_384_386, hd_that_384_414, hd_that_386_414, hF_384, hF_385⟩ := id hokm
  obtain ⟨-, that_a, hR_that_a, hL_that_a, hK_that_a, hN_that_a⟩ := y_that_384
  refine lv_aload_n hx hb dL_law_1702 rfl (lv_at hl 2 rfl) ?_
  refine lv_aload_n hx hb dL_law_1703 rfl (lv_at hl 3 rfl) ?_
  refine lv_iload_n hx hb dL_law_1704 rfl (lv_at hl 0 rfl) ?_
  refine lv_iconst (v := 1) hx hb dL_law_1705 (by decide) ?_
  refine lv_iadd hx hb dL_law_1706 ?_
  refine lv_tov 1 (by decide) ?_
  refine va_sld hx hb hX hbl (Nat.not_le.mpr hbl) hS (vp_in_iff.mpr (by decide)) dL_law_1707 ?_
  refine lv_tov (xs 1) rfl ?_
  refine lk_i (va_runV (As := [.int (xs 1)]) (rest := []) ⟨hx, hb, hml, hown, hts⟩ (c_X11_about l D t σ I J ri rj rq H.size this (xs 1) hL_this hK_this this_now hR_this_now hL_this_now hK_this_now this_now_land hR_this_now_land hL_this_now_land hK_this_now_land this_now_seas hR_this_now_seas hL_this_now_seas hK_this_now_seas this_now_folk hR_this_now_folk hL_this_now_folk hK_this_now_folk this_now_law hR_this_now_law hL_this_now_law hK_this_now_law this_now_graves hR_this_now_graves hL_this_now_graves hK_this_now_graves this_reader hR_this_reader hL_this_reader hK_this_reader this_reader_scanner hR_this_reader_scanner hL_this_reader_scanner hK_this_reader_scanner this_now_land_sand hR_this_now_land_sand hL_this_now_land_sand hK_this_now_land_sand hN_this_now_land_sand this_now_folk_thirst hR_this_now_folk_thirst hL_this_now_folk_thirst hK_this_now_folk_thirst hN_this_now_folk_thirst this_now_folk_noBed hR_this_now_folk_noBed hL_this_now_folk_noBed hK_this_now_folk_noBed hN_this_now_folk_noBed hZ hi_this_now_320 hi_this_now_323) (cwV 1 hts (tw_V tw_1553 tw_1554 tw_1555 tw_2 tw_1556) rfl rfl rfl (by decide +kernel) ⟨Nat.le_of_ble_eq_true rfl, Nat.le_of_ble_eq_true rfl⟩) ⟨pq_blind, pq_recv hK hP hL_this hK_this (by decide) rfl, pq_pre hK hN hP hD⟩ rfl rfl hl.1 rfl (lv_room (Nat.le_of_ble_eq_true rfl)) dL_law_1708 ⟨Nat.le_of_ble_eq_true rfl, Nat.le_of_ble_eq_true rfl⟩) hD hS hA hP2 hdis (fun r1 u1 H locs hw1 hP2 hS => ?_)
  obtain ⟨-, hr1⟩ := hw1
  refine lv_aload_n hx hb dL_law_1711 rfl (lv_at hl 1 rfl) ?_
  refine lv_aload_n hx hb dL_law_1712 rfl (lv_at hl 3 rfl) ?_
  refine lv_iload_n hx hb dL_law_1713 rfl (lv_at hl 0 rfl) ?_
  refine lv_iconst (v := 1) hx hb dL_law_1714 (by decide) ?_
  refine lv_iadd hx hb dL_law_1715 ?_
  refine lv_tov 1 (by decide) ?_
  refine va_sld hx hb hX hbl (Nat.not_le.mpr hbl) hS (vp_in_iff.mpr (by decide)) dL_law_1716 ?_
  refine lv_tov (xs 1) rfl ?_
  refine pk_i (va_runV (As := [.int (xs 1)]) (rest := [.int r1]) ⟨hx, hb, hml, hown, hts⟩ (c_X12_about l D t τ I2 J2 si sj sq H.size that (xs 1) hL_that hK_that that_a hR_that_a hL_that_a hK_that_a hN_that_a (okF_at hF_384 hR_that_a) hi_that_388) (cwV 1 hts (tw_V tw_1562 tw_1563 tw_1564 tw_5 tw_1565) rfl rfl rfl (by decide +kernel) ⟨Nat.le_of_ble_eq_true rfl, Nat.le_of_ble_eq_true rfl⟩) ⟨pq_blind, pq_recv hK hP2 hL_that hK_that (by decide) rfl, pq_pre hK hN hP2 hD2⟩ rfl rfl hl.1 rfl (lv_room (Nat.le_of_ble_eq_true rfl)) dL_law_1717 ⟨Nat.le_of_ble_eq_true rfl, Nat.le_of_ble_eq_true rfl⟩) hD2 hS hA (fun r2 σ3 μ3 H locs hw2 hP3 hD3 hS => ?_)
  obtain ⟨-, hr2⟩ := hw2
  have he : r1 = r2 := by exact hr1.trans hr2.symm
  refine lv_icmp_eq (tgt := 1725) hx hb dL_law_1720 (by decide) (fun _ => ?_) (fun q => absurd he q)
  exact lw_tail l hx hb hr hlocks hX hbl (by decide) (by decide) hS (lv_sub hl [3, 0] rfl)
