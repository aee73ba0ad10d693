theorem dL_law_1415 : decode cL_law 1415 = .ok (.aload_n 1, 1) := oc_43 (by decide +kernel)
theorem dL_law_1416 : decode cL_law 1416 = .ok (.aload_n 0, 1) := oc_42 (by decide +kernel)
theorem dL_law_1417 : decode cL_law 1417 = .ok (.iload_n 3, 1) := oc_29 (by decide +kernel)
theorem dL_law_1418 : decode cL_law 1418 = .ok (.iconst 1, 1) := oc_4 (by decide +kernel)
theorem dL_law_1419 : decode cL_law 1419 = .ok (.iadd, 1) := oc_96 (by decide +kernel)
theorem dL_law_1420 : decode cL_law 1420 = .ok (.iaload, 1) := oc_46 (by decide +kernel)
theorem dL_law_1421 : decode cL_law 1421 = .ok (.aload_n 0, 1) := oc_42 (by decide +kernel)
theorem dL_law_1422 : decode cL_law 1422 = .ok (.iload_n 3, 1) := oc_29 (by decide +kernel)
theorem dL_law_1423 : decode cL_law 1423 = .ok (.iconst 2, 1) := oc_5 (by decide +kernel)
theorem dL_law_1424 : decode cL_law 1424 = .ok (.iadd, 1) := oc_96 (by decide +kernel)
theorem dL_law_1425 : decode cL_law 1425 = .ok (.iaload, 1) := oc_46 (by decide +kernel)
theorem dL_law_1426 : decode cL_law 1426 = .ok (.aload_n 0, 1) := oc_42 (by decide +kernel)
theorem dL_law_1427 : decode cL_law 1427 = .ok (.iload_n 3, 1) := oc_29 (by decide +kernel)
theorem dL_law_1428 : decode cL_law 1428 = .ok (.iconst 3, 1) := oc_6 (by decide +kernel)
theorem dL_law_1429 : decode cL_law 1429 = .ok (.iadd, 1) := oc_96 (by decide +kernel)
theorem dL_law_1430 : decode cL_law 1430 = .ok (.iaload, 1) := oc_46 (by decide +kernel)
theorem tw_1358 : Cond.methodLink RL 151 yX11_sinks ∈ wsL_law := sg_57 _ (List.mem_of_getElem? (i := 14) rfl)
theorem tw_1359 : Cond.instanceMethod yX11_sinks ∈ wsL_law := sg_57 _ (List.mem_of_getElem? (i := 15) rfl)
theorem tw_1360 : Cond.selects RX11 yX11_sinks yX11_sinks ∈ wsL_law := sg_57 _ (List.mem_of_getElem? (i := 16) rfl)
theorem tw_1361 : Cond.code yX11_sinks cX11_sinks 5 (some .int) ∈ wsL_law := sg_57 _ (List.mem_of_getElem? (i := 17) rfl)
theorem dL_law_1431 : decode cL_law 1431 = .ok (.invokevirtual 151, 3) := oc_182 (a := 0) (b := 151) (by decide +kernel)
theorem dL_law_1434 : decode cL_law 1434 = .ok (.pop, 1) := oc_87 (by decide +kernel)
theorem dL_law_1435 : decode cL_law 1435 = .ok (.aload_n 2, 1) := oc_44 (by decide +kernel)
theorem dL_law_1436 : decode cL_law 1436 = .ok (.aload_n 0, 1) := oc_42 (by decide +kernel)
theorem dL_law_1437 : decode cL_law 1437 = .ok (.iload_n 3, 1) := oc_29 (by decide +kernel)
theorem dL_law_1438 : decode cL_law 1438 = .ok (.iconst 1, 1) := oc_4 (by decide +kernel)
theorem dL_law_1439 : decode cL_law 1439 = .ok (.iadd, 1) := oc_96 (by decide +kernel)
theorem dL_law_1440 : decode cL_law 1440 = .ok (.iaload, 1) := oc_46 (by decide +kernel)
theorem dL_law_1441 : decode cL_law 1441 = .ok (.aload_n 0, 1) := oc_42 (by decide +kernel)
theorem dL_law_1442 : decode cL_law 1442 = .ok (.iload_n 3, 1) := oc_29 (by decide +kernel)
theorem dL_law_1443 : decode cL_law 1443 = .ok (.iconst 2, 1) := oc_5 (by decide +kernel)
theorem dL_law_1444 : decode cL_law 1444 = .ok (.iadd, 1) := oc_96 (by decide +kernel)
theorem dL_law_1445 : decode cL_law 1445 = .ok (.iaload, 1) := oc_46 (by decide +kernel)
theorem dL_law_1446 : decode cL_law 1446 = .ok (.aload_n 0, 1) := oc_42 (by decide +kernel)
theorem dL_law_1447 : decode cL_law 1447 = .ok (.iload_n 3, 1) := oc_29 (by decide +kernel)
theorem dL_law_1448 : decode cL_law 1448 = .ok (.iconst 3, 1) := oc_6 (by decide +kernel)
theorem dL_law_1449 : decode cL_law 1449 = .ok (.iadd, 1) := oc_96 (by decide +kernel)
theorem dL_law_1450 : decode cL_law 1450 = .ok (.iaload, 1) := oc_46 (by decide +kernel)
theorem tw_1397 : Cond.methodLink RL 154 yX12_sinks ∈ wsL_law := sg_59 _ (List.mem_of_getElem? (i := 5) rfl)
theorem tw_1398 : Cond.instanceMethod yX12_sinks ∈ wsL_law := sg_59 _ (List.mem_of_getElem? (i := 6) rfl)
theorem tw_1399 : Cond.selects RX12 yX12_sinks yX12_sinks ∈ wsL_law := sg_59 _ (List.mem_of_getElem? (i := 7) rfl)
theorem tw_1400 : Cond.code yX12_sinks cX12_sinks 6 (some .int) ∈ wsL_law := sg_59 _ (List.mem_of_getElem? (i := 8) rfl)
theorem dL_law_1451 : decode cL_law 1451 = .ok (.invokevirtual 154, 3) := oc_182 (a := 0) (b := 154) (by decide +kernel)
theorem dL_law_1454 : decode cL_law 1454 = .ok (.pop, 1) := oc_87 (by decide +kernel)
theorem dL_law_1455 : decode cL_law 1455 = .ok (.goto 270, 3) := oc_167 (a := 1) (b := 14) (by decide +kernel)
theorem dL_law_1458 : decode cL_law 1458 = .ok (.aload_n 1, 1) := oc_43 (by decide +kernel)
theorem dL_law_1459 : decode cL_law 1459 = .ok (.aload_n 0, 1) := oc_42 (by decide +kernel)
theorem dL_law_1460 : decode cL_law 1460 = .ok (.iload_n 3, 1) := oc_29 (by decide +kernel)
theorem dL_law_1461 : decode cL_law 1461 = .ok (.iconst 1, 1) := oc_4 (by decide +kernel)
theorem dL_law_1462 : decode cL_law 1462 = .ok (.iadd, 1) := oc_96 (by decide +kernel)
theorem dL_law_1463 : decode cL_law 1463 = .ok (.iaload, 1) := oc_46 (by decide +kernel)
theorem dL_law_1464 : decode cL_law 1464 = .ok (.aload_n 0, 1) := oc_42 (by decide +kernel)
theorem dL_law_1465 : decode cL_law 1465 = .ok (.iload_n 3, 1) := oc_29 (by decide +kernel)
theorem dL_law_1466 : decode cL_law 1466 = .ok (.iconst 2, 1) := oc_5 (by decide +kernel)
theorem dL_law_1467 : decode cL_law 1467 = .ok (.iadd, 1) := oc_96 (by decide +kernel)
theorem dL_law_1468 : decode cL_law 1468 = .ok (.iaload, 1) := oc_46 (by decide +kernel)
theorem tw_1401 : Cond.methodLink RL 155 yX11_cant ∈ wsL_law := sg_59 _ (List.mem_of_getElem? (i := 9) rfl)
theorem tw_1402 : Cond.instanceMethod yX11_cant ∈ wsL_law := sg_59 _ (List.mem_of_getElem? (i := 10) rfl)
theorem tw_1403 : Cond.selects RX11 yX11_cant yX11_cant ∈ wsL_law := sg_59 _ (List.mem_of_getElem? (i := 11) rfl)
theorem tw_1404 : Cond.code yX11_cant cX11_cant 4 (some .int) ∈ wsL_law := sg_59 _ (List.mem_of_getElem? (i := 12) rfl)
theorem dL_law_1469 : decode cL_law 1469 = .ok (.invokevirtual 155, 3) := oc_182 (a := 0) (b := 155) (by decide +kernel)
theorem dL_law_1472 : decode cL_law 1472 = .ok (.pop, 1) := oc_87 (by decide +kernel)
theorem dL_law_1473 : decode cL_law 1473 = .ok (.aload_n 2, 1) := oc_44 (by decide +kernel)
theorem dL_law_1474 : decode cL_law 1474 = .ok (.aload_n 0, 1) := oc_42 (by decide +kernel)
theorem dL_law_1475 : decode cL_law 1475 = .ok (.iload_n 3, 1) := oc_29 (by decide +kernel)
theorem dL_law_1476 : decode cL_law 1476 = .ok (.iconst 1, 1) := oc_4 (by decide +kernel)
theorem dL_law_1477 : decode cL_law 1477 = .ok (.iadd, 1) := oc_96 (by decide +kernel)
theorem dL_law_1478 : decode cL_law 1478 = .ok (.iaload, 1) := oc_46 (by decide +kernel)
theorem dL_law_1479 : decode cL_law 1479 = .ok (.aload_n 0, 1) := oc_42 (by decide +kernel)
theorem dL_law_1480 : decode cL_law 1480 = .ok (.iload_n 3, 1) := oc_29 (by decide +kernel)
theorem dL_law_1481 : decode cL_law 1481 = .ok (.iconst 2, 1) := oc_5 (by decide +kernel)
theorem dL_law_1482 : decode cL_law 1482 = .ok (.iadd, 1) := oc_96 (by decide +kernel)
theorem dL_law_1483 : decode cL_law 1483 = .ok (.iaload, 1) := oc_46 (by decide +kernel)
theorem tw_1407 : Cond.methodLink RL 158 yX12_cant ∈ wsL_law := sg_59 _ (List.mem_of_getElem? (i := 15) rfl)
theorem tw_1408 : Cond.instanceMethod yX12_cant ∈ wsL_law := sg_59 _ (List.mem_of_getElem? (i := 16) rfl)
theorem tw_1409 : Cond.selects RX12 yX12_cant yX12_cant ∈ wsL_law := sg_59 _ (List.mem_of_getElem? (i := 17) rfl)
theorem tw_1410 : Cond.code yX12_cant cX12_cant 5 (some .int) ∈ wsL_law := sg_59 _ (List.mem_of_getElem? (i := 18) rfl)
theorem dL_law_1484 : decode cL_law 1484 = .ok (.invokevirtual 158, 3) := oc_182 (a := 0) (b := 158) (by decide +kernel)
theorem dL_law_1487 : decode cL_law 1487 = .ok (.pop, 1) := oc_87 (by decide +kernel)
theorem dL_law_1488 : decode cL_law 1488 = .ok (.goto 237, 3) := oc_167 (a := 0) (b := 237) (by decide +kernel)
theorem dL_law_1491 : decode cL_law 1491 = .ok (.aload_n 1, 1) := oc_43 (by decide +kernel)
theorem dL_law_1492 : decode cL_law 1492 = .ok (.aload_n 0, 1) := oc_42 (by decide +kernel)
theorem dL_law_1493 : decode cL_law 1493 = .ok (.iload_n 3, 1) := oc_29 (by decide +kernel)
theorem dL_law_1494 : decode cL_law 1494 = .ok (.iconst 1, 1) := oc_4 (by decide +kernel)
theorem dL_law_1495 : decode cL_law 1495 = .ok (.iadd, 1) := oc_96 (by decide +kernel)
theorem dL_law_1496 : decode cL_law 1496 = .ok (.iaload, 1) := oc_46 (by decide +kernel)
theorem dL_law_1497 : decode cL_law 1497 = .ok (.aload_n 0, 1) := oc_42 (by decide +kernel)
theorem dL_law_1498 : decode cL_law 1498 = .ok (.iload_n 3, 1) := oc_29 (by decide +kernel)
theorem dL_law_1499 : decode cL_law 1499 = .ok (.iconst 2, 1) := oc_5 (by decide +kernel)
theorem dL_law_1500 : decode cL_law 1500 = .ok (.iadd, 1) := oc_96 (by decide +kernel)
theorem dL_law_1501 : decode cL_law 1501 = .ok (.iaload, 1) := oc_46 (by decide +kernel)
theorem dL_law_1502 : decode cL_law 1502 = .ok (.aload_n 0, 1) := oc_42 (by decide +kernel)
theorem dL_law_1503 : decode cL_law 1503 = .ok (.iload_n 3, 1) := oc_29 (by decide +kernel)
theorem dL_law_1504 : decode cL_law 1504 = .ok (.iconst 3, 1) := oc_6 (by decide +kernel)
theorem dL_law_1505 : decode cL_law 1505 = .ok (.iadd, 1) := oc_96 (by decide +kernel)
theorem dL_law_1506 : decode cL_law 1506 = .ok (.iaload, 1) := oc_46 (by decide +kernel)
theorem dL_law_1507 : decode cL_law 1507 = .ok (.aload_n 0, 1) := oc_42 (by decide +kernel)
theorem dL_law_1508 : decode cL_law 1508 = .ok (.iload_n 3, 1) := oc_29 (by decide +kernel)
theorem dL_law_1509 : decode cL_law 1509 = .ok (.iconst 4, 1) := oc_7 (by decide +kernel)
theorem dL_law_1510 : decode cL_law 1510 = .ok (.iadd, 1) := oc_96 (by decide +kernel)
theorem dL_law_1511 : decode cL_law 1511 = .ok (.iaload, 1) := oc_46 (by decide +kernel)
theorem tw_1411 : Cond.methodLink RL 159 yX11_keeps ∈ wsL_law := sg_59 _ (List.mem_of_getElem? (i := 19) rfl)
theorem tw_1412 : Cond.instanceMethod yX11_keeps ∈ wsL_law := sg_59 _ (List.mem_of_getElem? (i := 20) rfl)
theorem tw_1413 : Cond.selects RX11 yX11_keeps yX11_keeps ∈ wsL_law := sg_59 _ (List.mem_of_getElem? (i := 21) rfl)
theorem tw_1414 : Cond.code yX11_keeps cX11_keeps 7 (some .int) ∈ wsL_law := sg_59 _ (List.mem_of_getElem? (i := 22) rfl)
theorem dL_law_1512 : decode cL_law 1512 = .ok (.invokevirtual 159, 3) := oc_182 (a := 0) (b := 159) (by decide +kernel)
theorem dL_law_1515 : decode cL_law 1515 = .ok (.pop, 1) := oc_87 (by decide +kernel)
theorem dL_law_1516 : decode cL_law 1516 = .ok (.aload_n 2, 1) := oc_44 (by decide +kernel)
theorem dL_law_1517 : decode cL_law 1517 = .ok (.aload_n 0, 1) := oc_42 (by decide +kernel)
theorem dL_law_1518 : decode cL_law 1518 = .ok (.iload_n 3, 1) := oc_29 (by decide +kernel)
theorem dL_law_1519 : decode cL_law 1519 = .ok (.iconst 1, 1) := oc_4 (by decide +kernel)
theorem dL_law_1520 : decode cL_law 1520 = .ok (.iadd, 1) := oc_96 (by decide +kernel)
theorem dL_law_1521 : decode cL_law 1521 = .ok (.iaload, 1) := oc_46 (by decide +kernel)
theorem dL_law_1522 : decode cL_law 1522 = .ok (.aload_n 0, 1) := oc_42 (by decide +kernel)
theorem dL_law_1523 : decode cL_law 1523 = .ok (.iload_n 3, 1) := oc_29 (by decide +kernel)
theorem dL_law_1524 : decode cL_law 1524 = .ok (.iconst 2, 1) := oc_5 (by decide +kernel)
theorem dL_law_1525 : decode cL_law 1525 = .ok (.iadd, 1) := oc_96 (by decide +kernel)
theorem dL_law_1526 : decode cL_law 1526 = .ok (.iaload, 1) := oc_46 (by decide +kernel)
theorem dL_law_1527 : decode cL_law 1527 = .ok (.aload_n 0, 1) := oc_42 (by decide +kernel)
theorem dL_law_1528 : decode cL_law 1528 = .ok (.iload_n 3, 1) := oc_29 (by decide +kernel)
theorem dL_law_1529 : decode cL_law 1529 = .ok (.iconst 3, 1) := oc_6 (by decide +kernel)
theorem dL_law_1530 : decode cL_law 1530 = .ok (.iadd, 1) := oc_96 (by decide +kernel)
theorem dL_law_1531 : decode cL_law 1531 = .ok (.iaload, 1) := oc_46 (by decide +kernel)
theorem dL_law_1532 : decode cL_law 1532 = .ok (.aload_n 0, 1) := oc_42 (by decide +kernel)
theorem dL_law_1533 : decode cL_law 1533 = .ok (.iload_n 3, 1) := oc_29 (by decide +kernel)
theorem dL_law_1534 : decode cL_law 1534 = .ok (.iconst 4, 1) := oc_7 (by decide +kernel)
theorem dL_law_1535 : decode cL_law 1535 = .ok (.iadd, 1) := oc_96 (by decide +kernel)
theorem dL_law_1536 : decode cL_law 1536 = .ok (.iaload, 1) := oc_46 (by decide +kernel)
theorem tw_1420 : Cond.methodLink RL 163 yX12_keeps ∈ wsL_law := sg_60 _ (List.mem_of_getElem? (i := 4) rfl)
theorem tw_1421 : Cond.instanceMethod yX12_keeps ∈ wsL_law := sg_60 _ (List.mem_of_getElem? (i := 5) rfl)
theorem tw_1422 : Cond.selects RX12 yX12_keeps yX12_keeps ∈ wsL_law := sg_60 _ (List.mem_of_getElem? (i := 6) rfl)
theorem tw_1423 : Cond.code yX12_keeps cX12_keeps 6 (some .int) ∈ wsL_law := sg_60 _ (List.mem_of_getElem? (i := 7) rfl)
theorem dL_law_1537 : decode cL_law 1537 = .ok (.invokevirtual 163, 3) := oc_182 (a := 0) (b := 163) (by decide +kernel)
theorem dL_law_1540 : decode cL_law 1540 = .ok (.pop, 1) := oc_87 (by decide +kernel)
theorem dL_law_1541 : decode cL_law 1541 = .ok (.goto 184, 3) := oc_167 (a := 0) (b := 184) (by decide +kernel)
theorem dL_law_1544 : decode cL_law 1544 = .ok (.aload_n 1, 1) := oc_43 (by decide +kernel)
theorem dL_law_1545 : decode cL_law 1545 = .ok (.aload_n 0, 1) := oc_42 (by decide +kernel)
theorem dL_law_1546 : decode cL_law 1546 = .ok (.iload_n 3, 1) := oc_29 (by decide +kernel)
theorem dL_law_1547 : decode cL_law 1547 = .ok (.iconst 1, 1) := oc_4 (by decide +kernel)
theorem dL_law_1548 : decode cL_law 1548 = .ok (.iadd, 1) := oc_96 (by decide +kernel)
theorem dL_law_1549 : decode cL_law 1549 = .ok (.iaload, 1) := oc_46 (by decide +kernel)
theorem dL_law_1550 : decode cL_law 1550 = .ok (.aload_n 0, 1) := oc_42 (by decide +kernel)
theorem dL_law_1551 : decode cL_law 1551 = .ok (.iload_n 3, 1) := oc_29 (by decide +kernel)
theorem dL_law_1552 : decode cL_law 1552 = .ok (.iconst 2, 1) := oc_5 (by decide +kernel)
theorem dL_law_1553 : decode cL_law 1553 = .ok (.iadd, 1) := oc_96 (by decide +kernel)
theorem dL_law_1554 : decode cL_law 1554 = .ok (.iaload, 1) := oc_46 (by decide +kernel)
theorem dL_law_1555 : decode cL_law 1555 = .ok (.aload_n 0, 1) := oc_42 (by decide +kernel)
theorem dL_law_1556 : decode cL_law 1556 = .ok (.iload_n 3, 1) := oc_29 (by decide +kernel)
theorem dL_law_1557 : decode cL_law 1557 = .ok (.iconst 3, 1) := oc_6 (by decide +kernel)
theorem dL_law_1558 : decode cL_law 1558 = .ok (.iadd, 1) := oc_96 (by decide +kernel)
theorem dL_law_1559 : decode cL_law 1559 = .ok (.iaload, 1) := oc_46 (by decide +kernel)
theorem tw_1428 : Cond.methodLink RL 164 yX11_order ∈ wsL_law := sg_60 _ (List.mem_of_getElem? (i := 12) rfl)
theorem tw_1429 : Cond.instanceMethod yX11_order ∈ wsL_law := sg_60 _ (List.mem_of_getElem? (i := 13) rfl)
theorem tw_1430 : Cond.selects RX11 yX11_order yX11_order ∈ wsL_law := sg_60 _ (List.mem_of_getElem? (i := 14) rfl)
theorem tw_1431 : Cond.code yX11_order cX11_order 5 (some .int) ∈ wsL_law := sg_60 _ (List.mem_of_getElem? (i := 15) rfl)
theorem dL_law_1560 : decode cL_law 1560 = .ok (.invokevirtual 164, 3) := oc_182 (a := 0) (b := 164) (by decide +kernel)
theorem dL_law_1563 : decode cL_law 1563 = .ok (.pop, 1) := oc_87 (by decide +kernel)
theorem dL_law_1564 : decode cL_law 1564 = .ok (.aload_n 2, 1) := oc_44 (by decide +kernel)
theorem dL_law_1565 : decode cL_law 1565 = .ok (.aload_n 0, 1) := oc_42 (by decide +kernel)
theorem dL_law_1566 : decode cL_law 1566 = .ok (.iload_n 3, 1) := oc_29 (by decide +kernel)
theorem dL_law_1567 : decode cL_law 1567 = .ok (.iconst 1, 1) := oc_4 (by decide +kernel)
theorem dL_law_1568 : decode cL_law 1568 = .ok (.iadd, 1) := oc_96 (by decide +kernel)
theorem dL_law_1569 : decode cL_law 1569 = .ok (.iaload, 1) := oc_46 (by decide +kernel)
theorem dL_law_1570 : decode cL_law 1570 = .ok (.aload_n 0, 1) := oc_42 (by decide +kernel)
theorem dL_law_1571 : decode cL_law 1571 = .ok (.iload_n 3, 1) := oc_29 (by decide +kernel)
theorem dL_law_1572 : decode cL_law 1572 = .ok (.iconst 2, 1) := oc_5 (by decide +kernel)
theorem dL_law_1573 : decode cL_law 1573 = .ok (.iadd, 1) := oc_96 (by decide +kernel)
theorem dL_law_1574 : decode cL_law 1574 = .ok (.iaload, 1) := oc_46 (by decide +kernel)
theorem dL_law_1575 : decode cL_law 1575 = .ok (.aload_n 0, 1) := oc_42 (by decide +kernel)
theorem dL_law_1576 : decode cL_law 1576 = .ok (.iload_n 3, 1) := oc_29 (by decide +kernel)
theorem dL_law_1577 : decode cL_law 1577 = .ok (.iconst 3, 1) := oc_6 (by decide +kernel)
theorem dL_law_1578 : decode cL_law 1578 = .ok (.iadd, 1) := oc_96 (by decide +kernel)
theorem dL_law_1579 : decode cL_law 1579 = .ok (.iaload, 1) := oc_46 (by decide +kernel)
theorem tw_1483 : Cond.methodLink RL 167 yX12_order ∈ wsL_law := sg_62 _ (List.mem_of_getElem? (i := 19) rfl)
theorem tw_1484 : Cond.instanceMethod yX12_order ∈ wsL_law := sg_62 _ (List.mem_of_getElem? (i := 20) rfl)
theorem tw_1485 : Cond.selects RX12 yX12_order yX12_order ∈ wsL_law := sg_62 _ (List.mem_of_getElem? (i := 21) rfl)
theorem tw_1486 : Cond.code yX12_order cX12_order 10 (some .int) ∈ wsL_law := sg_62 _ (List.mem_of_getElem? (i := 22) rfl)
theorem dL_law_1580 : decode cL_law 1580 = .ok (.invokevirtual 167, 3) := oc_182 (a := 0) (b := 167) (by decide +kernel)
theorem dL_law_1583 : decode cL_law 1583 = .ok (.pop, 1) := oc_87 (by decide +kernel)
theorem dL_law_1584 : decode cL_law 1584 = .ok (.goto 141, 3) := oc_167 (a := 0) (b := 141) (by decide +kernel)
theorem dL_law_1587 : decode cL_law 1587 = .ok (.aload_n 1, 1) := oc_43 (by decide +kernel)
theorem dL_law_1588 : decode cL_law 1588 = .ok (.aload_n 0, 1) := oc_42 (by decide +kernel)
theorem dL_law_1589 : decode cL_law 1589 = .ok (.iload_n 3, 1) := oc_29 (by decide +kernel)
theorem dL_law_1590 : decode cL_law 1590 = .ok (.iconst 1, 1) := oc_4 (by decide +kernel)
theorem dL_law_1591 : decode cL_law 1591 = .ok (.iadd, 1) := oc_96 (by decide +kernel)
theorem dL_law_1592 : decode cL_law 1592 = .ok (.iaload, 1) := oc_46 (by decide +kernel)
theorem tw_1495 : Cond.methodLink RL 168 yX11_grave ∈ wsL_law := sg_63 _ (List.mem_of_getElem? (i := 7) rfl)
theorem tw_1496 : Cond.instanceMethod yX11_grave ∈ wsL_law := sg_63 _ (List.mem_of_getElem? (i := 8) rfl)
theorem tw_1497 : Cond.selects RX11 yX11_grave yX11_grave ∈ wsL_law := sg_63 _ (List.mem_of_getElem? (i := 9) rfl)
theorem tw_1498 : Cond.code yX11_grave cX11_grave 2 (some .int) ∈ wsL_law := sg_63 _ (List.mem_of_getElem? (i := 10) rfl)
theorem dL_law_1593 : decode cL_law 1593 = .ok (.invokevirtual 168, 3) := oc_182 (a := 0) (b := 168) (by decide +kernel)
theorem dL_law_1596 : decode cL_law 1596 = .ok (.pop, 1) := oc_87 (by decide +kernel)
theorem dL_law_1597 : decode cL_law 1597 = .ok (.aload_n 2, 1) := oc_44 (by decide +kernel)
theorem dL_law_1598 : decode cL_law 1598 = .ok (.aload_n 0, 1) := oc_42 (by decide +kernel)
theorem dL_law_1599 : decode cL_law 1599 = .ok (.iload_n 3, 1) := oc_29 (by decide +kernel)
theorem dL_law_1600 : decode cL_law 1600 = .ok (.iconst 1, 1) := oc_4 (by decide +kernel)
theorem dL_law_1601 : decode cL_law 1601 = .ok (.iadd, 1) := oc_96 (by decide +kernel)
theorem dL_law_1602 : decode cL_law 1602 = .ok (.iaload, 1) := oc_46 (by decide +kernel)
theorem tw_1505 : Cond.methodLink RL 171 yX12_grave ∈ wsL_law := sg_63 _ (List.mem_of_getElem? (i := 17) rfl)
theorem tw_1506 : Cond.instanceMethod yX12_grave ∈ wsL_law := sg_63 _ (List.mem_of_getElem? (i := 18) rfl)
theorem tw_1507 : Cond.selects RX12 yX12_grave yX12_grave ∈ wsL_law := sg_63 _ (List.mem_of_getElem? (i := 19) rfl)
theorem tw_1508 : Cond.code yX12_grave cX12_grave 2 (some .int) ∈ wsL_law := sg_63 _ (List.mem_of_getElem? (i := 20) rfl)
theorem dL_law_1603 : decode cL_law 1603 = .ok (.invokevirtual 171, 3) := oc_182 (a := 0) (b := 171) (by decide +kernel)
theorem dL_law_1606 : decode cL_law 1606 = .ok (.pop, 1) := oc_87 (by decide +kernel)
theorem dL_law_1607 : decode cL_law 1607 = .ok (.goto 118, 3) := oc_167 (a := 0) (b := 118) (by decide +kernel)
theorem dL_law_1610 : decode cL_law 1610 = .ok (.aload_n 1, 1) := oc_43 (by decide +kernel)
theorem dL_law_1611 : decode cL_law 1611 = .ok (.aload_n 0, 1) := oc_42 (by decide +kernel)
theorem dL_law_1612 : decode cL_law 1612 = .ok (.iload_n 3, 1) := oc_29 (by decide +kernel)
theorem dL_law_1613 : decode cL_law 1613 = .ok (.iconst 1, 1) := oc_4 (by decide +kernel)
theorem dL_law_1614 : decode cL_law 1614 = .ok (.iadd, 1) := oc_96 (by decide +kernel)
theorem dL_law_1615 : decode cL_law 1615 = .ok (.iaload, 1) := oc_46 (by decide +kernel)
theorem dL_law_1616 : decode cL_law 1616 = .ok (.aload_n 0, 1) := oc_42 (by decide +kernel)
theorem dL_law_1617 : decode cL_law 1617 = .ok (.iload_n 3, 1) := oc_29 (by decide +kernel)
theorem dL_law_1618 : decode cL_law 1618 = .ok (.iconst 2, 1) := oc_5 (by decide +kernel)
theorem dL_law_1619 : decode cL_law 1619 = .ok (.iadd, 1) := oc_96 (by decide +kernel)
theorem dL_law_1620 : decode cL_law 1620 = .ok (.iaload, 1) := oc_46 (by decide +kernel)
theorem tw_1513 : Cond.methodLink RL 172 yX11_bury ∈ wsL_law := sg_64 _ (List.mem_of_getElem? (i := 1) rfl)
theorem tw_1514 : Cond.instanceMethod yX11_bury ∈ wsL_law := sg_64 _ (List.mem_of_getElem? (i := 2) rfl)
theorem tw_1515 : Cond.selects RX11 yX11_bury yX11_bury ∈ wsL_law := sg_64 _ (List.mem_of_getElem? (i := 3) rfl)
theorem tw_1516 : Cond.code yX11_bury cX11_bury 3 (some .boolean) ∈ wsL_law := sg_64 _ (List.mem_of_getElem? (i := 4) rfl)
theorem dL_law_1621 : decode cL_law 1621 = .ok (.invokevirtual 172, 3) := oc_182 (a := 0) (b := 172) (by decide +kernel)
theorem dL_law_1624 : decode cL_law 1624 = .ok (.pop, 1) := oc_87 (by decide +kernel)
theorem dL_law_1625 : decode cL_law 1625 = .ok (.aload_n 2, 1) := oc_44 (by decide +kernel)
theorem dL_law_1626 : decode cL_law 1626 = .ok (.aload_n 0, 1) := oc_42 (by decide +kernel)
theorem dL_law_1627 : decode cL_law 1627 = .ok (.iload_n 3, 1) := oc_29 (by decide +kernel)
theorem dL_law_1628 : decode cL_law 1628 = .ok (.iconst 1, 1) := oc_4 (by decide +kernel)
theorem dL_law_1629 : decode cL_law 1629 = .ok (.iadd, 1) := oc_96 (by decide +kernel)
theorem dL_law_1630 : decode cL_law 1630 = .ok (.iaload, 1) := oc_46 (by decide +kernel)
theorem dL_law_1631 : decode cL_law 1631 = .ok (.aload_n 0, 1) := oc_42 (by decide +kernel)
theorem dL_law_1632 : decode cL_law 1632 = .ok (.iload_n 3, 1) := oc_29 (by decide +kernel)
theorem dL_law_1633 : decode cL_law 1633 = .ok (.iconst 2, 1) := oc_5 (by decide +kernel)
theorem dL_law_1634 : decode cL_law 1634 = .ok (.iadd, 1) := oc_96 (by decide +kernel)
theorem dL_law_1635 : decode cL_law 1635 = .ok (.iaload, 1) := oc_46 (by decide +kernel)
theorem tw_1521 : Cond.methodLink RL 175 yX12_bury ∈ wsL_law := sg_64 _ (List.mem_of_getElem? (i := 9) rfl)
theorem tw_1522 : Cond.instanceMethod yX12_bury ∈ wsL_law := sg_64 _ (List.mem_of_getElem? (i := 10) rfl)
theorem tw_1523 : Cond.selects RX12 yX12_bury yX12_bury ∈ wsL_law := sg_64 _ (List.mem_of_getElem? (i := 11) rfl)
theorem tw_1524 : Cond.code yX12_bury cX12_bury 3 (some .boolean) ∈ wsL_law := sg_64 _ (List.mem_of_getElem? (i := 12) rfl)
theorem dL_law_1636 : decode cL_law 1636 = .ok (.invokevirtual 175, 3) := oc_182 (a := 0) (b := 175) (by decide +kernel)
theorem dL_law_1639 : decode cL_law 1639 = .ok (.pop, 1) := oc_87 (by decide +kernel)
theorem dL_law_1640 : decode cL_law 1640 = .ok (.goto 85, 3) := oc_167 (a := 0) (b := 85) (by decide +kernel)
theorem dL_law_1643 : decode cL_law 1643 = .ok (.aload_n 1, 1) := oc_43 (by decide +kernel)
theorem dL_law_1644 : decode cL_law 1644 = .ok (.aload_n 0, 1) := oc_42 (by decide +kernel)
theorem dL_law_1645 : decode cL_law 1645 = .ok (.iload_n 3, 1) := oc_29 (by decide +kernel)
theorem dL_law_1646 : decode cL_law 1646 = .ok (.iconst 1, 1) := oc_4 (by decide +kernel)
theorem dL_law_1647 : decode cL_law 1647 = .ok (.iadd, 1) := oc_96 (by decide +kernel)
theorem dL_law_1648 : decode cL_law 1648 = .ok (.iaload, 1) := oc_46 (by decide +kernel)
theorem dL_law_1649 : decode cL_law 1649 = .ok (.aload_n 0, 1) := oc_42 (by decide +kernel)
theorem dL_law_1650 : decode cL_law 1650 = .ok (.iload_n 3, 1) := oc_29 (by decide +kernel)
theorem dL_law_1651 : decode cL_law 1651 = .ok (.iconst 2, 1) := oc_5 (by decide +kernel)
theorem dL_law_1652 : decode cL_law 1652 = .ok (.iadd, 1) := oc_96 (by decide +kernel)
theorem dL_law_1653 : decode cL_law 1653 = .ok (.iaload, 1) := oc_46 (by decide +kernel)
theorem tw_1525 : Cond.methodLink RL 176 yX11_found ∈ wsL_law := sg_64 _ (List.mem_of_getElem? (i := 13) rfl)
theorem tw_1526 : Cond.instanceMethod yX11_found ∈ wsL_law := sg_64 _ (List.mem_of_getElem? (i := 14) rfl)
theorem tw_1527 : Cond.selects RX11 yX11_found yX11_found ∈ wsL_law := sg_64 _ (List.mem_of_getElem? (i := 15) rfl)
theorem tw_1528 : Cond.code yX11_found cX11_found 3 (some .int) ∈ wsL_law := sg_64 _ (List.mem_of_getElem? (i := 16) rfl)
theorem dL_law_1654 : decode cL_law 1654 = .ok (.invokevirtual 176, 3) := oc_182 (a := 0) (b := 176) (by decide +kernel)
theorem dL_law_1657 : decode cL_law 1657 = .ok (.pop, 1) := oc_87 (by decide +kernel)
theorem dL_law_1658 : decode cL_law 1658 = .ok (.aload_n 2, 1) := oc_44 (by decide +kernel)
theorem dL_law_1659 : decode cL_law 1659 = .ok (.aload_n 0, 1) := oc_42 (by decide +kernel)
theorem dL_law_1660 : decode cL_law 1660 = .ok (.iload_n 3, 1) := oc_29 (by decide +kernel)
theorem dL_law_1661 : decode cL_law 1661 = .ok (.iconst 1, 1) := oc_4 (by decide +kernel)
theorem dL_law_1662 : decode cL_law 1662 = .ok (.iadd, 1) := oc_96 (by decide +kernel)
theorem dL_law_1663 : decode cL_law 1663 = .ok (.iaload, 1) := oc_46 (by decide +kernel)
theorem dL_law_1664 : decode cL_law 1664 = .ok (.aload_n 0, 1) := oc_42 (by decide +kernel)
theorem dL_law_1665 : decode cL_law 1665 = .ok (.iload_n 3, 1) := oc_29 (by decide +kernel)
theorem dL_law_1666 : decode cL_law 1666 = .ok (.iconst 2, 1) := oc_5 (by decide +kernel)
theorem dL_law_1667 : decode cL_law 1667 = .ok (.iadd, 1) := oc_96 (by decide +kernel)
theorem dL_law_1668 : decode cL_law 1668 = .ok (.iaload, 1) := oc_46 (by decide +kernel)
theorem tw_1533 : Cond.methodLink RL 179 yX12_found ∈ wsL_law := sg_64 _ (List.mem_of_getElem? (i := 21) rfl)
theorem tw_1534 : Cond.instanceMethod yX12_found ∈ wsL_law := sg_64 _ (List.mem_of_getElem? (i := 22) rfl)
theorem tw_1535 : Cond.selects RX12 yX12_found yX12_found ∈ wsL_law := sg_64 _ (List.mem_of_getElem? (i := 23) rfl)
theorem tw_1536 : Cond.code yX12_found cX12_found 7 (some .int) ∈ wsL_law := sg_65 _ (List.mem_of_getElem? (i := 0) rfl)
theorem dL_law_1669 : decode cL_law 1669 = .ok (.invokevirtual 179, 3) := oc_182 (a := 0) (b := 179) (by decide +kernel)
theorem dL_law_1672 : decode cL_law 1672 = .ok (.pop, 1) := oc_87 (by decide +kernel)
theorem dL_law_1673 : decode cL_law 1673 = .ok (.goto 52, 3) := oc_167 (a := 0) (b := 52) (by decide +kernel)
theorem dL_law_1676 : decode cL_law 1676 = .ok (.aload_n 1, 1) := oc_43 (by decide +kernel)
theorem tw_1537 : Cond.methodLink RL 180 yX11_image ∈ wsL_law := sg_65 _ (List.mem_of_getElem? (i := 1) rfl)
theorem tw_1538 : Cond.instanceMethod yX11_image ∈ wsL_law := sg_65 _ (List.mem_of_getElem? (i := 2) rfl)
theorem tw_1539 : Cond.selects RX11 yX11_image yX11_image ∈ wsL_law := sg_65 _ (List.mem_of_getElem? (i := 3) rfl)
theorem tw_1540 : Cond.code yX11_image cX11_image 1 (some .int) ∈ wsL_law := sg_65 _ (List.mem_of_getElem? (i := 4) rfl)
theorem dL_law_1677 : decode cL_law 1677 = .ok (.invokevirtual 180, 3) := oc_182 (a := 0) (b := 180) (by decide +kernel)
theorem dL_law_1680 : decode cL_law 1680 = .ok (.pop, 1) := oc_87 (by decide +kernel)
theorem dL_law_1681 : decode cL_law 1681 = .ok (.aload_n 2, 1) := oc_44 (by decide +kernel)
theorem tw_1541 : Cond.methodLink RL 183 yX12_image ∈ wsL_law := sg_65 _ (List.mem_of_getElem? (i := 5) rfl)
theorem tw_1542 : Cond.instanceMethod yX12_image ∈ wsL_law := sg_65 _ (List.mem_of_getElem? (i := 6) rfl)
theorem tw_1543 : Cond.selects RX12 yX12_image yX12_image ∈ wsL_law := sg_65 _ (List.mem_of_getElem? (i := 7) rfl)
theorem tw_1544 : Cond.code yX12_image cX12_image 1 (some .int) ∈ wsL_law := sg_65 _ (List.mem_of_getElem? (i := 8) rfl)
theorem dL_law_1682 : decode cL_law 1682 = .ok (.invokevirtual 183, 3) := oc_182 (a := 0) (b := 183) (by decide +kernel)
theorem dL_law_1685 : decode cL_law 1685 = .ok (.pop, 1) := oc_87 (by decide +kernel)
theorem dL_law_1686 : decode cL_law 1686 = .ok (.goto 39, 3) := oc_167 (a := 0) (b := 39) (by decide +kernel)
theorem dL_law_1689 : decode cL_law 1689 = .ok (.aload_n 1, 1) := oc_43 (by decide +kernel)
theorem tw_1545 : Cond.methodLink RL 184 yX11_back ∈ wsL_law := sg_65 _ (List.mem_of_getElem? (i := 9) rfl)
theorem tw_1546 : Cond.instanceMethod yX11_back ∈ wsL_law := sg_65 _ (List.mem_of_getElem? (i := 10) rfl)
theorem tw_1547 : Cond.selects RX11 yX11_back yX11_back ∈ wsL_law := sg_65 _ (List.mem_of_getElem? (i := 11) rfl)
theorem tw_1548 : Cond.code yX11_back cX11_back 1 (some .int) ∈ wsL_law := sg_65 _ (List.mem_of_getElem? (i := 12) rfl)
theorem dL_law_1690 : decode cL_law 1690 = .ok (.invokevirtual 184, 3) := oc_182 (a := 0) (b := 184) (by decide +kernel)
theorem dL_law_1693 : decode cL_law 1693 = .ok (.pop, 1) := oc_87 (by decide +kernel)
theorem dL_law_1694 : decode cL_law 1694 = .ok (.aload_n 2, 1) := oc_44 (by decide +kernel)
theorem tw_1549 : Cond.methodLink RL 187 yX12_back ∈ wsL_law := sg_65 _ (List.mem_of_getElem? (i := 13) rfl)
theorem tw_1550 : Cond.instanceMethod yX12_back ∈ wsL_law := sg_65 _ (List.mem_of_getElem? (i := 14) rfl)
theorem tw_1551 : Cond.selects RX12 yX12_back yX12_back ∈ wsL_law := sg_65 _ (List.mem_of_getElem? (i := 15) rfl)
theorem tw_1552 : Cond.code yX12_back cX12_back 1 (some .int) ∈ wsL_law := sg_65 _ (List.mem_of_getElem? (i := 16) rfl)
theorem dL_law_1695 : decode cL_law 1695 = .ok (.invokevirtual 187, 3) := oc_182 (a := 0) (b := 187) (by decide +kernel)
theorem dL_law_1698 : decode cL_law 1698 = .ok (.pop, 1) := oc_87 (by decide +kernel)
theorem dL_law_1699 : decode cL_law 1699 = .ok (.goto 26, 3) := oc_167 (a := 0) (b := 26) (by decide +kernel)
theorem dL_law_1702 : decode cL_law 1702 = .ok (.aload_n 1, 1) := oc_43 (by decide +kernel)
theorem dL_law_1703 : decode cL_law 1703 = .ok (.aload_n 0, 1) := oc_42 (by decide +kernel)
theorem dL_law_1704 : decode cL_law 1704 = .ok (.iload_n 3, 1) := oc_29 (by decide +kernel)
theorem dL_law_1705 : decode cL_law 1705 = .ok (.iconst 1, 1) := oc_4 (by decide +kernel)
theorem dL_law_1706 : decode cL_law 1706 = .ok (.iadd, 1) := oc_96 (by decide +kernel)
theorem dL_law_1707 : decode cL_law 1707 = .ok (.iaload, 1) := oc_46 (by decide +kernel)
theorem tw_1553 : Cond.methodLink RL 188 yX11_about ∈ wsL_law := sg_65 _ (List.mem_of_getElem? (i := 17) rfl)
theorem tw_1554 : Cond.instanceMethod yX11_about ∈ wsL_law := sg_65 _ (List.mem_of_getElem? (i := 18) rfl)
theorem tw_1555 : Cond.selects RX11 yX11_about yX11_about ∈ wsL_law := sg_65 _ (List.mem_of_getElem? (i := 19) rfl)
theorem tw_1556 : Cond.code yX11_about cX11_about 2 (some .int) ∈ wsL_law := sg_65 _ (List.mem_of_getElem? (i := 20) rfl)
theorem dL_law_1708 : decode cL_law 1708 = .ok (.invokevirtual 188, 3) := oc_182 (a := 0) (b := 188) (by decide +kernel)
theorem dL_law_1711 : decode cL_law 1711 = .ok (.pop, 1) := oc_87 (by decide +kernel)
theorem dL_law_1712 : decode cL_law 1712 = .ok (.aload_n 2, 1) := oc_44 (by decide +kernel)
theorem dL_law_1713 : decode cL_law 1713 = .ok (.aload_n 0, 1) := oc_42 (by decide +kernel)
theorem dL_law_1714 : decode cL_law 1714 = .ok (.iload_n 3, 1) := oc_29 (by decide +kernel)
theorem dL_law_1715 : decode cL_law 1715 = .ok (.iconst 1, 1) := oc_4 (by decide +kernel)
theorem dL_law_1716 : decode cL_law 1716 = .ok (.iadd, 1) := oc_96 (by decide +kernel)
theorem dL_law_1717 : decode cL_law 1717 = .ok (.iaload, 1) := oc_46 (by decide +kernel)
theorem tw_1562 : Cond.methodLink RL 191 yX12_about ∈ wsL_law := sg_66 _ (List.mem_of_getElem? (i := 2) rfl)
theorem tw_1563 : Cond.instanceMethod yX12_about ∈ wsL_law := sg_66 _ (List.mem_of_getElem? (i := 3) rfl)
theorem tw_1564 : Cond.selects RX12 yX12_about yX12_about ∈ wsL_law := sg_66 _ (List.mem_of_getElem? (i := 4) rfl)
theorem tw_1565 : Cond.code yX12_about cX12_about 4 (some .int) ∈ wsL_law := sg_66 _ (List.mem_of_getElem? (i := 5) rfl)
theorem dL_law_1718 : decode cL_law 1718 = .ok (.invokevirtual 191, 3) := oc_182 (a := 0) (b := 191) (by decide +kernel)
theorem dL_law_1721 : decode cL_law 1721 = .ok (.pop, 1) := oc_87 (by decide +kernel)
theorem dL_law_1722 : decode cL_law 1722 = .ok (.goto 3, 3) := oc_167 (a := 0) (b := 3) (by decide +kernel)
set_option maxHeartbeats 8000000 in
set_option maxRecDepth 100000 in
theorem lw_op_31 {p : Program} {e : Env} {s : State} {m : MethodId} {below : List Frame} {meth : Method} {c : Code} {b : Nat} (l : Launch) (hx : p.tables.exec = Jvm.exec) (hb : c.code = cL_law) (hr : meth.sig.returnType = ret) (hml : c.maxLocals = 4) (hown : s.vm.findClass RL = some m.cls) (hlocks : meth.locks = false) (hts : ∀ w ∈ (Cond.initialized RX11 :: wsL_law), w.before #[Value.ref b] s = true) {L : Nat} (xs : Nat → Int32) (hX : va_X b L xs s s.heap) (hbl : b < s.heap.size) (hM : L ≤ 3584) {D : va_G} {t : pq_T} (hK : va_K D vwCl (pq_ty t) s) (hN : pq_N s) {aK aV : Nat} {vF : Value} (hW0 : pq_W aK aV vF (fun q => s.heap.size ≤ q) s s.heap) {this that : Nat} {n : Nat} {x3 : Int32} (h3 : x3.toInt = 7 * (n : Int)) (hL : 7 * n + 7 ≤ L) {H : Heap} {locs : List Loc} {cells slots : Nat} (hc2 : cells + 4 ≤ room_1.cells) (hs2 : slots + 345 ≤ room_1.slots) (hI : LI s D t this that H locs) {ls : Array Slot} (hl : lv_has ls 4 [(3, .int x3), (2, .ref that), (1, .ref this), (0, .ref b)]) {Q : State → Prop} (kk : ∀ (cells2 slots2 : Nat) (H : Heap) (locs : List Loc) (ls : Array Slot), cells2 ≤ cells + 4 → slots2 ≤ slots + 345 → LI s D t this that H locs → lv_has ls 4 [(3, .int x3), (2, .ref that), (1, .ref this), (0, .ref b)] → W p l e room_1 s m #[Value.ref b] below meth c H locs cells2 slots2 Q (F0 m 1725 ls [])) : W p l e room_1 s m #[Value.ref b] below meth c H locs cells slots Q (F0 m 1415 ls []) := by
  have hA : ∀ q : Nat, s.heap.size ≤ q → s.heap.size ≤ q := fun _ h => h
  obtain ⟨σ, I, J, ri, rj, rq, tg, τ, I2, J2, si, sj, sq, tg2, nw, kp, tr, rd, ⟨hP, hD, hSH, hG, hFI, hL_this, hK_this⟩, ⟨hP2, hD2, hSH2, hG2, hL_that, hK_that⟩, hdis, hTR, hAP, hRN, hRK, hGN, hGK, hDN, hDK, hRDo, hRD, hTN, hTK, hS⟩ := hI
  have hG00 := hG
  have hG20 := hG2
  have hR_rd := hRDo.1
  have hL_rd := hRDo.2.1
  have hK_rd := hRDo.2.2
  obtain ⟨⟨hR_nw, hL_nw, hK_nw⟩, ⟨hR_kp, hL_kp, hK_kp⟩, ⟨hR_tr, hL_tr, hK_tr⟩, -⟩ := id hTR
  refine lv_aload_n hx hb dL_law_1415 rfl (lv_at hl 2 rfl) ?_
  refine lv_aload_n hx hb dL_law_1416 rfl (lv_at hl 3 rfl) ?_
  refine lv_iload_n hx hb dL_law_1417 rfl (lv_at hl 0 rfl) ?_
  refine lv_iconst (v := 1) hx hb dL_law_1418 (by decide +kernel) ?_
  refine lv_iadd hx hb dL_law_1419 ?_
  refine va_sld hx hb hX hbl (Nat.not_le.mpr hbl) hS (lw_ix h3 hL hM (rg_w (rg_k (1 : Int32) 1 rfl) (by decide +kernel))) dL_law_1420 ?_
  refine lv_aload_n hx hb dL_law_1421 rfl (lv_at hl 3 rfl) ?_
  refine lv_iload_n hx hb dL_law_1422 rfl (lv_at hl 0 rfl) ?_
  refine lv_iconst (v := 2) hx hb dL_law_1423 (by decide +kernel) ?_
  refine lv_iadd hx hb dL_law_1424 ?_
  refine va_sld hx hb hX hbl (Nat.not_le.mpr hbl) hS (lw_ix h3 hL hM (rg_w (rg_k (2 : Int32) 2 rfl) (by decide +kernel))) dL_law_1425 ?_
  refine lv_aload_n hx hb dL_law_1426 rfl (lv_at hl 3 rfl) ?_
  refine lv_iload_n hx hb dL_law_1427 rfl (lv_at hl 0 rfl) ?_
  refine lv_iconst (v := 3) hx hb dL_law_1428 (by decide +kernel) ?_
  refine lv_iadd hx hb dL_law_1429 ?_
  refine va_sld hx hb hX hbl (Nat.not_le.mpr hbl) hS (lw_ix h3 hL hM (rg_w (rg_k (3 : Int32) 3 rfl) (by decide +kernel))) dL_law_1430 ?_
  refine lx_i (va_runV (As := [.int (xs (x3 + 1).toNatClampNeg), .int (xs (x3 + 2).toNatClampNeg), .int (xs (x3 + 3).toNatClampNeg)]) (rest := []) ⟨hx, hb, hml, hown, hts⟩ (s_X11_sinks l D t σ I J ri rj rq H.size tg hSH hG this (xs (x3 + 1).toNatClampNeg : Int32) (xs (x3 + 2).toNatClampNeg : Int32) (xs (x3 + 3).toNatClampNeg : Int32) hL_this hK_this nw hR_nw hL_nw hK_nw tr hR_tr hL_tr hK_tr (ap_sym hAP.2.1)) (cwV 3 hts (tw_V tw_1358 tw_1359 tw_1360 tw_2 tw_1361) rfl rfl rfl cv_yX11_sinks_3 ⟨Nat.le_of_ble_eq_true rfl, Nat.le_of_ble_eq_true rfl⟩) ⟨pq_blind, pq_recv hK hP hL_this hK_this (by decide +kernel) rfl, pq_pre hK hN hP hD⟩ rfl rfl hl.1 rfl (lv_room (Nat.le_of_ble_eq_true rfl)) dL_law_1431 ⟨Nat.le_trans (Nat.le_add_right _ 4) hc2, Nat.le_trans (Nat.le_add_right _ 345) hs2⟩) hD hS hA hP2 hdis (fun r_1 σ1 μ1 H locs hw hP hD hP2 hdis hS => ?_)
  obtain ⟨I_2, J_3, ri_4, rj_5, rq_6, hu, hgx, hfx, hFx, hr1⟩ := hw
  obtain ⟨hua, hub⟩ := Prod.mk.inj hu
  rw [hua, hub] at hP hD
  rw [hua] at hdis
  have hG := hgx.1
  refine lv_pop hx hb dL_law_1434 rfl ?_
  refine lv_aload_n hx hb dL_law_1435 rfl (lv_at hl 1 rfl) ?_
  refine lv_aload_n hx hb dL_law_1436 rfl (lv_at hl 3 rfl) ?_
  refine lv_iload_n hx hb dL_law_1437 rfl (lv_at hl 0 rfl) ?_
  refine lv_iconst (v := 1) hx hb dL_law_1438 (by decide +kernel) ?_
  refine lv_iadd hx hb dL_law_1439 ?_
  refine va_sld hx hb hX hbl (Nat.not_le.mpr hbl) hS (lw_ix h3 hL hM (rg_w (rg_k (1 : Int32) 1 rfl) (by decide +kernel))) dL_law_1440 ?_
  refine lv_aload_n hx hb dL_law_1441 rfl (lv_at hl 3 rfl) ?_
  refine lv_iload_n hx hb dL_law_1442 rfl (lv_at hl 0 rfl) ?_
  refine lv_iconst (v := 2) hx hb dL_law_1443 (by decide +kernel) ?_
  refine lv_iadd hx hb dL_law_1444 ?_
  refine va_sld hx hb hX hbl (Nat.not_le.mpr hbl) hS (lw_ix h3 hL hM (rg_w (rg_k (2 : Int32) 2 rfl) (by decide +kernel))) dL_law_1445 ?_
  refine lv_aload_n hx hb dL_law_1446 rfl (lv_at hl 3 rfl) ?_
  refine lv_iload_n hx hb dL_law_1447 rfl (lv_at hl 0 rfl) ?_
  refine lv_iconst (v := 3) hx hb dL_law_1448 (by decide +kernel) ?_
  refine lv_iadd hx hb dL_law_1449 ?_
  refine va_sld hx hb hX hbl (Nat.not_le.mpr hbl) hS (lw_ix h3 hL hM (rg_w (rg_k (3 : Int32) 3 rfl) (by decide +kernel))) dL_law_1450 ?_
  obtain ⟨o_7, hR_o_7, hL_o_7, hK_o_7, hN_o_7, hT_o_7⟩ := sh_a hSH2 384 (ci := 12) (kd := 13) (len := 12720) rfl (by decide +kernel) hL_that hK_that
  obtain ⟨o_8, hR_o_8, hL_o_8, hK_o_8, hN_o_8, hT_o_8⟩ := sh_a hSH2 386 (ci := 12) (kd := 13) (len := 12720) rfl (by decide +kernel) hL_that hK_that
  refine lx_i (va_runV (As := [.int (xs (x3 + 1).toNatClampNeg), .int (xs (x3 + 2).toNatClampNeg), .int (xs (x3 + 3).toNatClampNeg)]) (rest := []) ⟨hx, hb, hml, hown, hts⟩ (s_X12_sinks l D t τ I2 J2 si sj sq H.size tg2 hSH2 hG2 that (xs (x3 + 1).toNatClampNeg : Int32) (xs (x3 + 2).toNatClampNeg : Int32) (xs (x3 + 3).toNatClampNeg : Int32) hL_that hK_that o_7 hR_o_7 hL_o_7 hK_o_7 hN_o_7 hT_o_7 o_8 hR_o_8 hL_o_8 hK_o_8 hN_o_8 hT_o_8) (cwV 3 hts (tw_V tw_1397 tw_1398 tw_1399 tw_5 tw_1400) rfl rfl rfl cv_yX12_sinks_3 ⟨Nat.le_of_ble_eq_true rfl, Nat.le_of_ble_eq_true rfl⟩) ⟨pq_blind, pq_recv hK hP2 hL_that hK_that (by decide +kernel) rfl, pq_pre hK hN hP2 hD2⟩ rfl rfl hl.1 rfl (lv_room (Nat.le_of_ble_eq_true rfl)) dL_law_1451 ⟨Nat.le_trans (Nat.le_add_right _ 4) hc2, Nat.le_trans (Nat.le_add_right _ 345) hs2⟩) hD2 hS hA hP (fun a h1 h2 => hdis a h2 h1) (fun r_9 τ1 ν1 H locs hw hP2 hD2 hP hdis hS => ?_)
  obtain ⟨I2_10, si_11, sj_12, hu, hgr, hfr, hFr, hr2⟩ := hw
  obtain ⟨hua, hub⟩ := Prod.mk.inj hu
  rw [hua, hub] at hP2 hD2
  rw [hua] at hdis
  have hG2 := hgr.1
  have hV2 := vt_12 hSH2 hL_that hK_that
  have hVn := vt_10 hSH hL_nw hK_nw
  have hVk := vt_10 hSH hL_kp hK_kp
  have hDN := df_kc (df_fr hDN hFx (ap_sym hAP.2.1)) (kc_e sinks_kc hfr)
  have hDK := (df_im (df_fr hDK hFx (ap_sym hAP.2.2)) hgr hV2 (by decide +kernel))
  have hVr := vt_4 hSH hRDo.2.1 hRDo.2.2
  have hRD := (rd_rf (rd_fr hRD hFx hAP.2.1.2.1 hVr) hgr hV2 (by decide +kernel))
  have hTN := tc_kc (tc_fr hTN hFx (ap_sym hAP.2.1)) (kc_e sinks_kc hfr)
  have hTK := (tc_im (tc_fr hTK hFx (ap_sym hAP.2.2)) hgr hV2 (by decide +kernel))
  have he0 := fst_st (sinks_v hRN) hfx hfr
  have hkc6 := kc_e sinks_kc hfr
  have hRN := rl_kc (rl_fr hRN hFx (ap_sym hAP.2.1)) hG2 hV2 hkc6
  have hRK := (rl_im (rl_fr hRK hFx (ap_sym hAP.2.2)) hgr hV2 (by decide +kernel))
  have hGN := gr_kc (gr_fr hGN hFx (ap_sym hAP.2.1)) hkc6
  have hGK := (gr_im (gr_fr hGK hFx (ap_sym hAP.2.2)) hgr hV2 (by decide +kernel))
  have hdis : ∀ a, a ∈ τ.1 → a ∉ σ.1 := fun a h1 h2 => hdis a h2 h1
  refine lv_pop hx hb dL_law_1454 rfl ?_
  refine lv_goto (tgt := 1725) hx hb dL_law_1455 (by decide +kernel) ?_
  exact kk _ _ H locs ls (by omega) (by omega) ⟨σ, I_2, J_3, ri_4, rj_5, rq_6, tg, τ, I2_10, J2, si_11, sj_12, sq, tg2, nw, kp, tr, rd, ⟨hP, hD, hSH, hG, hFI, hL_this, hK_this⟩, ⟨hP2, hD2, hSH2, hG2, hL_that, hK_that⟩, hdis, hTR, hAP, hRN, hRK, hGN, hGK, hDN, hDK, hRDo, hRD, hTN, hTK, hS⟩ hl
set_option maxHeartbeats 8000000 in
set_option maxRecDepth 100000 in
theorem lw_op_32 {p : Program} {e : Env} {s : State} {m : MethodId} {below : List Frame} {meth : Method} {c : Code} {b : Nat} (l : Launch) (hx : p.tables.exec = Jvm.exec) (hb : c.code = cL_law) (hr : meth.sig.returnType = ret) (hml : c.maxLocals = 4) (hown : s.vm.findClass RL = some m.cls) (hlocks : meth.locks = false) (hts : ∀ w ∈ (Cond.initialized RX11 :: wsL_law), w.before #[Value.ref b] s = true) {L : Nat} (xs : Nat → Int32) (hX : va_X b L xs s s.heap) (hbl : b < s.heap.size) (hM : L ≤ 3584) {D : va_G} {t : pq_T} (hK : va_K D vwCl (pq_ty t) s) (hN : pq_N s) {aK aV : Nat} {vF : Value} (hW0 : pq_W aK aV vF (fun q => s.heap.size ≤ q) s s.heap) {this that : Nat} {n : Nat} {x3 : Int32} (h3 : x3.toInt = 7 * (n : Int)) (hL : 7 * n + 7 ≤ L) {H : Heap} {locs : List Loc} {cells slots : Nat} (hc2 : cells + 4 ≤ room_1.cells) (hs2 : slots + 345 ≤ room_1.slots) (hI : LI s D t this that H locs) {ls : Array Slot} (hl : lv_has ls 4 [(3, .int x3), (2, .ref that), (1, .ref this), (0, .ref b)]) {Q : State → Prop} (kk : ∀ (cells2 slots2 : Nat) (H : Heap) (locs : List Loc) (ls : Array Slot), cells2 ≤ cells + 4 → slots2 ≤ slots + 345 → LI s D t this that H locs → lv_has ls 4 [(3, .int x3), (2, .ref that), (1, .ref this), (0, .ref b)] → W p l e room_1 s m #[Value.ref b] below meth c H locs cells2 slots2 Q (F0 m 1725 ls [])) : W p l e room_1 s m #[Value.ref b] below meth c H locs cells slots Q (F0 m 1458 ls []) := by
  have hA : ∀ q : Nat, s.heap.size ≤ q → s.heap.size ≤ q := fun _ h => h
  obtain ⟨σ, I, J, ri, rj, rq, tg, τ, I2, J2, si, sj, sq, tg2, nw, kp, tr, rd, ⟨hP, hD, hSH, hG, hFI, hL_this, hK_this⟩, ⟨hP2, hD2, hSH2, hG2, hL_that, hK_that⟩, hdis, hTR, hAP, hRN, hRK, hGN, hGK, hDN, hDK, hRDo, hRD, hTN, hTK, hS⟩ := hI
  have hG00 := hG
  have hG20 := hG2
  have hR_rd := hRDo.1
  have hL_rd := hRDo.2.1
  have hK_rd := hRDo.2.2
  obtain ⟨⟨hR_nw, hL_nw, hK_nw⟩, ⟨hR_kp, hL_kp, hK_kp⟩, ⟨hR_tr, hL_tr, hK_tr⟩, -⟩ := id hTR
  refine lv_aload_n hx hb dL_law_1458 rfl (lv_at hl 2 rfl) ?_
  refine lv_aload_n hx hb dL_law_1459 rfl (lv_at hl 3 rfl) ?_
  refine lv_iload_n hx hb dL_law_1460 rfl (lv_at hl 0 rfl) ?_
  refine lv_iconst (v := 1) hx hb dL_law_1461 (by decide +kernel) ?_
  refine lv_iadd hx hb dL_law_1462 ?_
  refine va_sld hx hb hX hbl (Nat.not_le.mpr hbl) hS (lw_ix h3 hL hM (rg_w (rg_k (1 : Int32) 1 rfl) (by decide +kernel))) dL_law_1463 ?_
  refine lv_aload_n hx hb dL_law_1464 rfl (lv_at hl 3 rfl) ?_
  refine lv_iload_n hx hb dL_law_1465 rfl (lv_at hl 0 rfl) ?_
  refine lv_iconst (v := 2) hx hb dL_law_1466 (by decide +kernel) ?_
  refine lv_iadd hx hb dL_law_1467 ?_
  refine va_sld hx hb hX hbl (Nat.not_le.mpr hbl) hS (lw_ix h3 hL hM (rg_w (rg_k (2 : Int32) 2 rfl) (by decide +kernel))) dL_law_1468 ?_
  refine lx_i (va_runV (As := [.int (xs (x3 + 1).toNatClampNeg), .int (xs (x3 + 2).toNatClampNeg)]) (rest := []) ⟨hx, hb, hml, hown, hts⟩ (s_X11_cant l D t σ I J ri rj rq H.size tg hSH hG this (xs (x3 + 1).toNatClampNeg : Int32) (xs (x3 + 2).toNatClampNeg : Int32) hL_this hK_this nw hR_nw hL_nw hK_nw tr hR_tr hL_tr hK_tr (ap_sym hAP.2.1)) (cwV 2 hts (tw_V tw_1401 tw_1402 tw_1403 tw_2 tw_1404) rfl rfl rfl cv_yX11_cant_2 ⟨Nat.le_of_ble_eq_true rfl, Nat.le_of_ble_eq_true rfl⟩) ⟨pq_blind, pq_recv hK hP hL_this hK_this (by decide +kernel) rfl, pq_pre hK hN hP hD⟩ rfl rfl hl.1 rfl (lv_room (Nat.le_of_ble_eq_true rfl)) dL_law_1469 ⟨Nat.le_trans (Nat.le_add_right _ 4) hc2, Nat.le_trans (Nat.le_add_right _ 345) hs2⟩) hD hS hA hP2 hdis (fun r_1 σ1 μ1 H locs hw hP hD hP2 hdis hS => ?_)
  obtain ⟨I_2, J_3, ri_4, rj_5, rq_6, hu, hgx, hfx, hFx⟩ := hw
  obtain ⟨hua, hub⟩ := Prod.mk.inj hu
  rw [hua, hub] at hP hD
  rw [hua] at hdis
  have hG := hgx.1
  refine lv_pop hx hb dL_law_1472 rfl ?_
  refine lv_aload_n hx hb dL_law_1473 rfl (lv_at hl 1 rfl) ?_
  refine lv_aload_n hx hb dL_law_1474 rfl (lv_at hl 3 rfl) ?_
  refine lv_iload_n hx hb dL_law_1475 rfl (lv_at hl 0 rfl) ?_
  refine lv_iconst (v := 1) hx hb dL_law_1476 (by decide +kernel) ?_
  refine lv_iadd hx hb dL_law_1477 ?_
  refine va_sld hx hb hX hbl (Nat.not_le.mpr hbl) hS (lw_ix h3 hL hM (rg_w (rg_k (1 : Int32) 1 rfl) (by decide +kernel))) dL_law_1478 ?_
  refine lv_aload_n hx hb dL_law_1479 rfl (lv_at hl 3 rfl) ?_
  refine lv_iload_n hx hb dL_law_1480 rfl (lv_at hl 0 rfl) ?_
  refine lv_iconst (v := 2) hx hb dL_law_1481 (by decide +kernel) ?_
  refine lv_iadd hx hb dL_law_1482 ?_
  refine va_sld hx hb hX hbl (Nat.not_le.mpr hbl) hS (lw_ix h3 hL hM (rg_w (rg_k (2 : Int32) 2 rfl) (by decide +kernel))) dL_law_1483 ?_
  obtain ⟨o_7, hR_o_7, hL_o_7, hK_o_7, hN_o_7, hT_o_7⟩ := sh_a hSH2 384 (ci := 12) (kd := 13) (len := 12720) rfl (by decide +kernel) hL_that hK_that
  obtain ⟨o_8, hR_o_8, hL_o_8, hK_o_8, hN_o_8, hT_o_8⟩ := sh_a hSH2 386 (ci := 12) (kd := 13) (len := 12720) rfl (by decide +kernel) hL_that hK_that
  refine lx_i (va_runV (As := [.int (xs (x3 + 1).toNatClampNeg), .int (xs (x3 + 2).toNatClampNeg)]) (rest := []) ⟨hx, hb, hml, hown, hts⟩ (s_X12_cant l D t τ I2 J2 si sj sq H.size tg2 hSH2 hG2 that (xs (x3 + 1).toNatClampNeg : Int32) (xs (x3 + 2).toNatClampNeg : Int32) hL_that hK_that o_7 hR_o_7 hL_o_7 hK_o_7 hN_o_7 hT_o_7 o_8 hR_o_8 hL_o_8 hK_o_8 hN_o_8 hT_o_8) (cwV 2 hts (tw_V tw_1407 tw_1408 tw_1409 tw_5 tw_1410) rfl rfl rfl cv_yX12_cant_2 ⟨Nat.le_of_ble_eq_true rfl, Nat.le_of_ble_eq_true rfl⟩) ⟨pq_blind, pq_recv hK hP2 hL_that hK_that (by decide +kernel) rfl, pq_pre hK hN hP2 hD2⟩ rfl rfl hl.1 rfl (lv_room (Nat.le_of_ble_eq_true rfl)) dL_law_1484 ⟨Nat.le_trans (Nat.le_add_right _ 4) hc2, Nat.le_trans (Nat.le_add_right _ 345) hs2⟩) hD2 hS hA hP (fun a h1 h2 => hdis a h2 h1) (fun r_9 τ1 ν1 H locs hw hP2 hD2 hP hdis hS => ?_)
  obtain ⟨I2_10, si_11, sj_12, hu, hgr, hfr, hFr, hr2⟩ := hw
  obtain ⟨hua, hub⟩ := Prod.mk.inj hu
  rw [hua, hub] at hP2 hD2
  rw [hua] at hdis
  have hG2 := hgr.1
  have hV2 := vt_12 hSH2 hL_that hK_that
  have hVn := vt_10 hSH hL_nw hK_nw
  have hVk := vt_10 hSH hL_kp hK_kp
  have hDN := df_kc (df_fr hDN hFx (ap_sym hAP.2.1)) (kc_e cant_kc hfr)
  have hDK := (df_im (df_fr hDK hFx (ap_sym hAP.2.2)) hgr hV2 (by decide +kernel))
  have hVr := vt_4 hSH hRDo.2.1 hRDo.2.2
  have hRD := (rd_rf (rd_fr hRD hFx hAP.2.1.2.1 hVr) hgr hV2 (by decide +kernel))
  have hTN := tc_kc (tc_fr hTN hFx (ap_sym hAP.2.1)) (kc_e cant_kc hfr)
  have hTK := (tc_im (tc_fr hTK hFx (ap_sym hAP.2.2)) hgr hV2 (by decide +kernel))
  have hkc6 := kc_e cant_kc hfr
  have hRN := rl_kc (rl_fr hRN hFx (ap_sym hAP.2.1)) hG2 hV2 hkc6
  have hRK := (rl_im (rl_fr hRK hFx (ap_sym hAP.2.2)) hgr hV2 (by decide +kernel))
  have hGN := gr_kc (gr_fr hGN hFx (ap_sym hAP.2.1)) hkc6
  have hGK := (gr_im (gr_fr hGK hFx (ap_sym hAP.2.2)) hgr hV2 (by decide +kernel))
  have hdis : ∀ a, a ∈ τ.1 → a ∉ σ.1 := fun a h1 h2 => hdis a h2 h1
  refine lv_pop hx hb dL_law_1487 rfl ?_
  refine lv_goto (tgt := 1725) hx hb dL_law_1488 (by decide +kernel) ?_
  exact kk _ _ H locs ls (by omega) (by omega) ⟨σ, I_2, J_3, ri_4, rj_5, rq_6, tg, τ, I2_10, J2, si_11, sj_12, sq, tg2, nw, kp, tr, rd, ⟨hP, hD, hSH, hG, hFI, hL_this, hK_this⟩, ⟨hP2, hD2, hSH2, hG2, hL_that, hK_that⟩, hdis, hTR, hAP, hRN, hRK, hGN, hGK, hDN, hDK, hRDo, hRD, hTN, hTK, hS⟩ hl
set_option maxHeartbeats 8000000 in
set_option maxRecDepth 100000 in
theorem lw_op_33 {p : Program} {e : Env} {s : State} {m : MethodId} {below : List Frame} {meth : Method} {c : Code} {b : Nat} (l : Launch) (hx : p.tables.exec = Jvm.exec) (hb : c.code = cL_law) (hr : meth.sig.returnType = ret) (hml : c.maxLocals = 4) (hown : s.vm.findClass RL = some m.cls) (hlocks : meth.locks = false) (hts : ∀ w ∈ (Cond.initialized RX11 :: wsL_law), w.before #[Value.ref b] s = true) {L : Nat} (xs : Nat → Int32) (hX : va_X b L xs s s.heap) (hbl : b < s.heap.size) (hM : L ≤ 3584) {D : va_G} {t : pq_T} (hK : va_K D vwCl (pq_ty t) s) (hN : pq_N s) {aK aV : Nat} {vF : Value} (hW0 : pq_W aK aV vF (fun q => s.heap.size ≤ q) s s.heap) {this that : Nat} {n : Nat} {x3 : Int32} (h3 : x3.toInt = 7 * (n : Int)) (hL : 7 * n + 7 ≤ L) {H : Heap} {locs : List Loc} {cells slots : Nat} (hc2 : cells + 4 ≤ room_1.cells) (hs2 : slots + 345 ≤ room_1.slots) (hI : LI s D t this that H locs) {ls : Array Slot} (hl : lv_has ls 4 [(3, .int x3), (2, .ref that), (1, .ref this), (0, .ref b)]) {Q : State → Prop} (kk : ∀ (cells2 slots2 : Nat) (H : Heap) (locs : List Loc) (ls : Array Slot), cells2 ≤ cells + 4 → slots2 ≤ slots + 345 → LI s D t this that H locs → lv_has ls 4 [(3, .int x3), (2, .ref that), (1, .ref this), (0, .ref b)] → W p l e room_1 s m #[Value.ref b] below meth c H locs cells2 slots2 Q (F0 m 1725 ls [])) : W p l e room_1 s m #[Value.ref b] below meth c H locs cells slots Q (F0 m 1491 ls []) := by
  have hA : ∀ q : Nat, s.heap.size ≤ q → s.heap.size ≤ q := fun _ h => h
  obtain ⟨σ, I, J, ri, rj, rq, tg, τ, I2, J2, si, sj, sq, tg2, nw, kp, tr, rd, ⟨hP, hD, hSH, hG, hFI, hL_this, hK_this⟩, ⟨hP2, hD2, hSH2, hG2, hL_that, hK_that⟩, hdis, hTR, hAP, hRN, hRK, hGN, hGK, hDN, hDK, hRDo, hRD, hTN, hTK, hS⟩ := hI
  have hG00 := hG
  have hG20 := hG2
  have hR_rd := hRDo.1
  have hL_rd := hRDo.2.1
  have hK_rd := hRDo.2.2
  obtain ⟨⟨hR_nw, hL_nw, hK_nw⟩, ⟨hR_kp, hL_kp, hK_kp⟩, ⟨hR_tr, hL_tr, hK_tr⟩, -⟩ := id hTR
  refine lv_aload_n hx hb dL_law_1491 rfl (lv_at hl 2 rfl) ?_
  refine lv_aload_n hx hb dL_law_1492 rfl (lv_at hl 3 rfl) ?_
  refine lv_iload_n hx hb dL_law_1493 rfl (lv_at hl 0 rfl) ?_
  refine lv_iconst (v := 1) hx hb dL_law_1494 (by decide +kernel) ?_
  refine lv_iadd hx hb dL_law_1495 ?_
  refine va_sld hx hb hX hbl (Nat.not_le.mpr hbl) hS (lw_ix h3 hL hM (rg_w (rg_k (1 : Int32) 1 rfl) (by decide +kernel))) dL_law_1496 ?_
  refine lv_aload_n hx hb dL_law_1497 rfl (lv_at hl 3 rfl) ?_
  refine lv_iload_n hx hb dL_law_1498 rfl (lv_at hl 0 rfl) ?_
  refine lv_iconst (v := 2) hx hb dL_law_1499 (by decide +kernel) ?_
  refine lv_iadd hx hb dL_law_1500 ?_
  refine va_sld hx hb hX hbl (Nat.not_le.mpr hbl) hS (lw_ix h3 hL hM (rg_w (rg_k (2 : Int32) 2 rfl) (by decide +kernel))) dL_law_1501 ?_
  refine lv_aload_n hx hb dL_law_1502 rfl (lv_at hl 3 rfl) ?_
  refine lv_iload_n hx hb dL_law_1503 rfl (lv_at hl 0 rfl) ?_
  refine lv_iconst (v := 3) hx hb dL_law_1504 (by decide +kernel) ?_
  refine lv_iadd hx hb dL_law_1505 ?_
  refine va_sld hx hb hX hbl (Nat.not_le.mpr hbl) hS (lw_ix h3 hL hM (rg_w (rg_k (3 : Int32) 3 rfl) (by decide +kernel))) dL_law_1506 ?_
  refine lv_aload_n hx hb dL_law_1507 rfl (lv_at hl 3 rfl) ?_
  refine lv_iload_n hx hb dL_law_1508 rfl (lv_at hl 0 rfl) ?_
  refine lv_iconst (v := 4) hx hb dL_law_1509 (by decide +kernel) ?_
  refine lv_iadd hx hb dL_law_1510 ?_
  refine va_sld hx hb hX hbl (Nat.not_le.mpr hbl) hS (lw_ix h3 hL hM (rg_w (rg_k (4 : Int32) 4 rfl) (by decide +kernel))) dL_law_1511 ?_
  refine lx_i (va_runV (As := [.int (xs (x3 + 1).toNatClampNeg), .int (xs (x3 + 2).toNatClampNeg), .int (xs (x3 + 3).toNatClampNeg), .int (xs (x3 + 4).toNatClampNeg)]) (rest := []) ⟨hx, hb, hml, hown, hts⟩ (s_X11_keeps l D t σ I J ri rj rq H.size tg hSH hG this (xs (x3 + 1).toNatClampNeg : Int32) (xs (x3 + 2).toNatClampNeg : Int32) (xs (x3 + 3).toNatClampNeg : Int32) (xs (x3 + 4).toNatClampNeg : Int32) hL_this hK_this nw hR_nw hL_nw hK_nw tr hR_tr hL_tr hK_tr (ap_sym hAP.2.1)) (cwV 4 hts (tw_V tw_1411 tw_1412 tw_1413 tw_2 tw_1414) rfl rfl rfl cv_yX11_keeps_4 ⟨Nat.le_of_ble_eq_true rfl, Nat.le_of_ble_eq_true rfl⟩) ⟨pq_blind, pq_recv hK hP hL_this hK_this (by decide +kernel) rfl, pq_pre hK hN hP hD⟩ rfl rfl hl.1 rfl (lv_room (Nat.le_of_ble_eq_true rfl)) dL_law_1512 ⟨Nat.le_trans (Nat.le_add_right _ 4) hc2, Nat.le_trans (Nat.le_add_right _ 345) hs2⟩) hD hS hA hP2 hdis (fun r_1 σ1 μ1 H locs hw hP hD hP2 hdis hS => ?_)
  obtain ⟨I_2, J_3, ri_4, rj_5, rq_6, hu, hgx, hfx, hFx⟩ := hw
  obtain ⟨hua, hub⟩ := Prod.mk.inj hu
  rw [hua, hub] at hP hD
  rw [hua] at hdis
  have hG := hgx.1
  refine lv_pop hx hb dL_law_1515 rfl ?_
  refine lv_aload_n hx hb dL_law_1516 rfl (lv_at hl 1 rfl) ?_
  refine lv_aload_n hx hb dL_law_1517 rfl (lv_at hl 3 rfl) ?_
  refine lv_iload_n hx hb dL_law_1518 rfl (lv_at hl 0 rfl) ?_
  refine lv_iconst (v := 1) hx hb dL_law_1519 (by decide +kernel) ?_
  refine lv_iadd hx hb dL_law_1520 ?_
  refine va_sld hx hb hX hbl (Nat.not_le.mpr hbl) hS (lw_ix h3 hL hM (rg_w (rg_k (1 : Int32) 1 rfl) (by decide +kernel))) dL_law_1521 ?_
  refine lv_aload_n hx hb dL_law_1522 rfl (lv_at hl 3 rfl) ?_
  refine lv_iload_n hx hb dL_law_1523 rfl (lv_at hl 0 rfl) ?_
  refine lv_iconst (v := 2) hx hb dL_law_1524 (by decide +kernel) ?_
  refine lv_iadd hx hb dL_law_1525 ?_
  refine va_sld hx hb hX hbl (Nat.not_le.mpr hbl) hS (lw_ix h3 hL hM (rg_w (rg_k (2 : Int32) 2 rfl) (by decide +kernel))) dL_law_1526 ?_
  refine lv_aload_n hx hb dL_law_1527 rfl (lv_at hl 3 rfl) ?_
  refine lv_iload_n hx hb dL_law_1528 rfl (lv_at hl 0 rfl) ?_
  refine lv_iconst (v := 3) hx hb dL_law_1529 (by decide +kernel) ?_
  refine lv_iadd hx hb dL_law_1530 ?_
  refine va_sld hx hb hX hbl (Nat.not_le.mpr hbl) hS (lw_ix h3 hL hM (rg_w (rg_k (3 : Int32) 3 rfl) (by decide +kernel))) dL_law_1531 ?_
  refine lv_aload_n hx hb dL_law_1532 rfl (lv_at hl 3 rfl) ?_
  refine lv_iload_n hx hb dL_law_1533 rfl (lv_at hl 0 rfl) ?_
  refine lv_iconst (v := 4) hx hb dL_law_1534 (by decide +kernel) ?_
  refine lv_iadd hx hb dL_law_1535 ?_
  refine va_sld hx hb hX hbl (Nat.not_le.mpr hbl) hS (lw_ix h3 hL hM (rg_w (rg_k (4 : Int32) 4 rfl) (by decide +kernel))) dL_law_1536 ?_
  obtain ⟨o_7, hR_o_7, hL_o_7, hK_o_7, hN_o_7, hT_o_7⟩ := sh_a hSH2 384 (ci := 12) (kd := 13) (len := 12720) rfl (by decide +kernel) hL_that hK_that
  obtain ⟨o_8, hR_o_8, hL_o_8, hK_o_8, hN_o_8, hT_o_8⟩ := sh_a hSH2 386 (ci := 12) (kd := 13) (len := 12720) rfl (by decide +kernel) hL_that hK_that
  refine lx_i (va_runV (As := [.int (xs (x3 + 1).toNatClampNeg), .int (xs (x3 + 2).toNatClampNeg), .int (xs (x3 + 3).toNatClampNeg), .int (xs (x3 + 4).toNatClampNeg)]) (rest := []) ⟨hx, hb, hml, hown, hts⟩ (s_X12_keeps l D t τ I2 J2 si sj sq H.size tg2 hSH2 hG2 that (xs (x3 + 1).toNatClampNeg : Int32) (xs (x3 + 2).toNatClampNeg : Int32) (xs (x3 + 3).toNatClampNeg : Int32) (xs (x3 + 4).toNatClampNeg : Int32) hL_that hK_that o_7 hR_o_7 hL_o_7 hK_o_7 hN_o_7 hT_o_7 o_8 hR_o_8 hL_o_8 hK_o_8 hN_o_8 hT_o_8) (cwV 4 hts (tw_V tw_1420 tw_1421 tw_1422 tw_5 tw_1423) rfl rfl rfl cv_yX12_keeps_4 ⟨Nat.le_of_ble_eq_true rfl, Nat.le_of_ble_eq_true rfl⟩) ⟨pq_blind, pq_recv hK hP2 hL_that hK_that (by decide +kernel) rfl, pq_pre hK hN hP2 hD2⟩ rfl rfl hl.1 rfl (lv_room (Nat.le_of_ble_eq_true rfl)) dL_law_1537 ⟨Nat.le_trans (Nat.le_add_right _ 4) hc2, Nat.le_trans (Nat.le_add_right _ 345) hs2⟩) hD2 hS hA hP (fun a h1 h2 => hdis a h2 h1) (fun r_9 τ1 ν1 H locs hw hP2 hD2 hP hdis hS => ?_)
  obtain ⟨I2_10, si_11, sj_12, hu, hgr, hfr, hFr⟩ := hw
  obtain ⟨hua, hub⟩ := Prod.mk.inj hu
  rw [hua, hub] at hP2 hD2
  rw [hua] at hdis
  have hG2 := hgr.1
  have hV2 := vt_12 hSH2 hL_that hK_that
  have hVn := vt_10 hSH hL_nw hK_nw
  have hVk := vt_10 hSH hL_kp hK_kp
  have hDN := df_kc (df_fr hDN hFx (ap_sym hAP.2.1)) (kc_e keeps_kc hfr)
  have hDK := (df_im (df_fr hDK hFx (ap_sym hAP.2.2)) hgr hV2 (by decide +kernel))
  have hVr := vt_4 hSH hRDo.2.1 hRDo.2.2
  have hRD := (rd_rf (rd_fr hRD hFx hAP.2.1.2.1 hVr) hgr hV2 (by decide +kernel))
  have hTN := tc_kc (tc_fr hTN hFx (ap_sym hAP.2.1)) (kc_e keeps_kc hfr)
  have hTK := (tc_im (tc_fr hTK hFx (ap_sym hAP.2.2)) hgr hV2 (by decide +kernel))
  have he0 := fst_st (keeps_v hRN) hfx hfr
  have hkc6 := kc_e keeps_kc hfr
  have hRN := rl_kc (rl_fr hRN hFx (ap_sym hAP.2.1)) hG2 hV2 hkc6
  have hRK := (rl_im (rl_fr hRK hFx (ap_sym hAP.2.2)) hgr hV2 (by decide +kernel))
  have hGN := gr_kc (gr_fr hGN hFx (ap_sym hAP.2.1)) hkc6
  have hGK := (gr_im (gr_fr hGK hFx (ap_sym hAP.2.2)) hgr hV2 (by decide +kernel))
  have hdis : ∀ a, a ∈ τ.1 → a ∉ σ.1 := fun a h1 h2 => hdis a h2 h1
  refine lv_pop hx hb dL_law_1540 rfl ?_
  refine lv_goto (tgt := 1725) hx hb dL_law_1541 (by decide +kernel) ?_
  exact kk _ _ H locs ls (by omega) (by omega) ⟨σ, I_2, J_3, ri_4, rj_5, rq_6, tg, τ, I2_10, J2, si_11, sj_12, sq, tg2, nw, kp, tr, rd, ⟨hP, hD, hSH, hG, hFI, hL_this, hK_this⟩, ⟨hP2, hD2, hSH2, hG2, hL_that, hK_that⟩, hdis, hTR, hAP, hRN, hRK, hGN, hGK, hDN, hDK, hRDo, hRD, hTN, hTK, hS⟩ hl
set_option maxHeartbeats 8000000 in
set_option maxRecDepth 100000 in
theorem lw_op_34 {p : Program} {e : Env} {s : State} {m : MethodId} {below : List Frame} {meth : Method} {c : Code} {b : Nat} (l : Launch) (hx : p.tables.exec = Jvm.exec) (hb : c.code = cL_law) (hr : meth.sig.returnType = ret) (hml : c.maxLocals = 4) (hown : s.vm.findClass RL = some m.cls) (hlocks : meth.locks = false) (hts : ∀ w ∈ (Cond.initialized RX11 :: wsL_law), w.before #[Value.ref b] s = true) {L : Nat} (xs : Nat → Int32) (hX : va_X b L xs s s.heap) (hbl : b < s.heap.size) (hM : L ≤ 3584) {D : va_G} {t : pq_T} (hK : va_K D vwCl (pq_ty t) s) (hN : pq_N s) {aK aV : Nat} {vF : Value} (hW0 : pq_W aK aV vF (fun q => s.heap.size ≤ q) s s.heap) {this that : Nat} {n : Nat} {x3 : Int32} (h3 : x3.toInt = 7 * (n : Int)) (hL : 7 * n + 7 ≤ L) {H : Heap} {locs : List Loc} {cells slots : Nat} (hc2 : cells + 4 ≤ room_1.cells) (hs2 : slots + 345 ≤ room_1.slots) (hI : LI s D t this that H locs) {ls : Array Slot} (hl : lv_has ls 4 [(3, .int x3), (2, .ref that), (1, .ref this), (0, .ref b)]) {Q : State → Prop} (kk : ∀ (cells2 slots2 : Nat) (H : Heap) (locs : List Loc) (ls : Array Slot), cells2 ≤ cells + 4 → slots2 ≤ slots + 345 → LI s D t this that H locs → lv_has ls 4 [(3, .int x3), (2, .ref that), (1, .ref this), (0, .ref b)] → W p l e room_1 s m #[Value.ref b] below meth c H locs cells2 slots2 Q (F0 m 1725 ls [])) : W p l e room_1 s m #[Value.ref b] below meth c H locs cells slots Q (F0 m 1544 ls []) := by
  have hA : ∀ q : Nat, s.heap.size ≤ q → s.heap.size ≤ q := fun _ h => h
  obtain ⟨σ, I, J, ri, rj, rq, tg, τ, I2, J2, si, sj, sq, tg2, nw, kp, tr, rd, ⟨hP, hD, hSH, hG, hFI, hL_this, hK_this⟩, ⟨hP2, hD2, hSH2, hG2, hL_that, hK_that⟩, hdis, hTR, hAP, hRN, hRK, hGN, hGK, hDN, hDK, hRDo, hRD, hTN, hTK, hS⟩ := hI
  have hG00 := hG
  have hG20 := hG2
  have hR_rd := hRDo.1
  have hL_rd := hRDo.2.1
  have hK_rd := hRDo.2.2
  obtain ⟨⟨hR_nw, hL_nw, hK_nw⟩, ⟨hR_kp, hL_kp, hK_kp⟩, ⟨hR_tr, hL_tr, hK_tr⟩, -⟩ := id hTR
  refine lv_aload_n hx hb dL_law_1544 rfl (lv_at hl 2 rfl) ?_
  refine lv_aload_n hx hb dL_law_1545 rfl (lv_at hl 3 rfl) ?_
  refine lv_iload_n hx hb dL_law_1546 rfl (lv_at hl 0 rfl) ?_
  refine lv_iconst (v := 1) hx hb dL_law_1547 (by decide +kernel) ?_
  refine lv_iadd hx hb dL_law_1548 ?_
  refine va_sld hx hb hX hbl (Nat.not_le.mpr hbl) hS (lw_ix h3 hL hM (rg_w (rg_k (1 : Int32) 1 rfl) (by decide +kernel))) dL_law_1549 ?_
  refine lv_aload_n hx hb dL_law_1550 rfl (lv_at hl 3 rfl) ?_
  refine lv_iload_n hx hb dL_law_1551 rfl (lv_at hl 0 rfl) ?_
  refine lv_iconst (v := 2) hx hb dL_law_1552 (by decide +kernel) ?_
  refine lv_iadd hx hb dL_law_1553 ?_
  refine va_sld hx hb hX hbl (Nat.not_le.mpr hbl) hS (lw_ix h3 hL hM (rg_w (rg_k (2 : Int32) 2 rfl) (by decide +kernel))) dL_law_1554 ?_
  refine lv_aload_n hx hb dL_law_1555 rfl (lv_at hl 3 rfl) ?_
  refine lv_iload_n hx hb dL_law_1556 rfl (lv_at hl 0 rfl) ?_
  refine lv_iconst (v := 3) hx hb dL_law_1557 (by decide +kernel) ?_
  refine lv_iadd hx hb dL_law_1558 ?_
  refine va_sld hx hb hX hbl (Nat.not_le.mpr hbl) hS (lw_ix h3 hL hM (rg_w (rg_k (3 : Int32) 3 rfl) (by decide +kernel))) dL_law_1559 ?_
  refine lx_i (va_runV (As := [.int (xs (x3 + 1).toNatClampNeg), .int (xs (x3 + 2).toNatClampNeg), .int (xs (x3 + 3).toNatClampNeg)]) (rest := []) ⟨hx, hb, hml, hown, hts⟩ (s_X11_order l D t σ I J ri rj rq H.size tg hSH hG this (xs (x3 + 1).toNatClampNeg : Int32) (xs (x3 + 2).toNatClampNeg : Int32) (xs (x3 + 3).toNatClampNeg : Int32) hL_this hK_this nw hR_nw hL_nw hK_nw tr hR_tr hL_tr hK_tr (ap_sym hAP.2.1)) (cwV 3 hts (tw_V tw_1428 tw_1429 tw_1430 tw_2 tw_1431) rfl rfl rfl cv_yX11_order_3 ⟨Nat.le_of_ble_eq_true rfl, Nat.le_of_ble_eq_true rfl⟩) ⟨pq_blind, pq_recv hK hP hL_this hK_this (by decide +kernel) rfl, pq_pre hK hN hP hD⟩ rfl rfl hl.1 rfl (lv_room (Nat.le_of_ble_eq_true rfl)) dL_law_1560 ⟨Nat.le_trans (Nat.le_add_right _ 4) hc2, Nat.le_trans (Nat.le_add_right _ 345) hs2⟩) hD hS hA hP2 hdis (fun r_1 σ1 μ1 H locs hw hP hD hP2 hdis hS => ?_)
  obtain ⟨I_2, J_3, ri_4, rj_5, rq_6, hu, hgx, hFx⟩ := hw
  obtain ⟨hua, hub⟩ := Prod.mk.inj hu
  rw [hua, hub] at hP hD
  rw [hua] at hdis
  have hG := hgx.1
  refine lv_pop hx hb dL_law_1563 rfl ?_
  refine lv_aload_n hx hb dL_law_1564 rfl (lv_at hl 1 rfl) ?_
  refine lv_aload_n hx hb dL_law_1565 rfl (lv_at hl 3 rfl) ?_
  refine lv_iload_n hx hb dL_law_1566 rfl (lv_at hl 0 rfl) ?_
  refine lv_iconst (v := 1) hx hb dL_law_1567 (by decide +kernel) ?_
  refine lv_iadd hx hb dL_law_1568 ?_
  refine va_sld hx hb hX hbl (Nat.not_le.mpr hbl) hS (lw_ix h3 hL hM (rg_w (rg_k (1 : Int32) 1 rfl) (by decide +kernel))) dL_law_1569 ?_
  refine lv_aload_n hx hb dL_law_1570 rfl (lv_at hl 3 rfl) ?_
  refine lv_iload_n hx hb dL_law_1571 rfl (lv_at hl 0 rfl) ?_
  refine lv_iconst (v := 2) hx hb dL_law_1572 (by decide +kernel) ?_
  refine lv_iadd hx hb dL_law_1573 ?_
  refine va_sld hx hb hX hbl (Nat.not_le.mpr hbl) hS (lw_ix h3 hL hM (rg_w (rg_k (2 : Int32) 2 rfl) (by decide +kernel))) dL_law_1574 ?_
  refine lv_aload_n hx hb dL_law_1575 rfl (lv_at hl 3 rfl) ?_
  refine lv_iload_n hx hb dL_law_1576 rfl (lv_at hl 0 rfl) ?_
  refine lv_iconst (v := 3) hx hb dL_law_1577 (by decide +kernel) ?_
  refine lv_iadd hx hb dL_law_1578 ?_
  refine va_sld hx hb hX hbl (Nat.not_le.mpr hbl) hS (lw_ix h3 hL hM (rg_w (rg_k (3 : Int32) 3 rfl) (by decide +kernel))) dL_law_1579 ?_
  obtain ⟨o_7, hR_o_7, hL_o_7, hK_o_7, hN_o_7, hT_o_7⟩ := sh_a hSH2 384 (ci := 12) (kd := 13) (len := 12720) rfl (by decide +kernel) hL_that hK_that
  obtain ⟨o_8, hR_o_8, hL_o_8, hK_o_8, hN_o_8, hT_o_8⟩ := sh_a hSH2 386 (ci := 12) (kd := 13) (len := 12720) rfl (by decide +kernel) hL_that hK_that
  obtain ⟨o_9, hR_o_9, hL_o_9, hK_o_9, hN_o_9, hT_o_9⟩ := sh_a hSH2 414 (ci := 12) (kd := 13) (len := 5) rfl (by decide +kernel) hL_that hK_that
  refine lx_i (va_runV (As := [.int (xs (x3 + 1).toNatClampNeg), .int (xs (x3 + 2).toNatClampNeg), .int (xs (x3 + 3).toNatClampNeg)]) (rest := []) ⟨hx, hb, hml, hown, hts⟩ (s_X12_order l D t τ I2 J2 si sj sq H.size tg2 hSH2 hG2 that (xs (x3 + 1).toNatClampNeg : Int32) (xs (x3 + 2).toNatClampNeg : Int32) (xs (x3 + 3).toNatClampNeg : Int32) hL_that hK_that o_7 hR_o_7 hL_o_7 hK_o_7 hN_o_7 hT_o_7 o_8 hR_o_8 hL_o_8 hK_o_8 hN_o_8 hT_o_8 o_9 hR_o_9 hL_o_9 hK_o_9 hN_o_9 hT_o_9) (cwV 3 hts (tw_V tw_1483 tw_1484 tw_1485 tw_5 tw_1486) rfl rfl rfl cv_yX12_order_3 ⟨Nat.le_of_ble_eq_true rfl, Nat.le_of_ble_eq_true rfl⟩) ⟨pq_blind, pq_recv hK hP2 hL_that hK_that (by decide +kernel) rfl, pq_pre hK hN hP2 hD2⟩ rfl rfl hl.1 rfl (lv_room (Nat.le_of_ble_eq_true rfl)) dL_law_1580 ⟨Nat.le_trans (Nat.le_add_right _ 4) hc2, Nat.le_trans (Nat.le_add_right _ 345) hs2⟩) hD2 hS hA hP (fun a h1 h2 => hdis a h2 h1) (fun r_10 τ1 ν1 H locs hw hP2 hD2 hP hdis hS => ?_)
  obtain ⟨I2_11, si_12, sj_13, hu, hgr, hfr, hFr⟩ := hw
  obtain ⟨hua, hub⟩ := Prod.mk.inj hu
  rw [hua, hub] at hP2 hD2
  rw [hua] at hdis
  have hG2 := hgr.1
  have hV2 := vt_12 hSH2 hL_that hK_that
  have hVn := vt_10 hSH hL_nw hK_nw
  have hVk := vt_10 hSH hL_kp hK_kp
  have hDN := df_kc (df_fr hDN hFx (ap_sym hAP.2.1)) (kc_e order_kc hfr)
  have hDK := (df_im (df_fr hDK hFx (ap_sym hAP.2.2)) hgr hV2 (by decide +kernel))
  have hVr := vt_4 hSH hRDo.2.1 hRDo.2.2
  have hRD := (rd_rf (rd_fr hRD hFx hAP.2.1.2.1 hVr) hgr hV2 (by decide +kernel))
  have hTN := tc_kc (tc_fr hTN hFx (ap_sym hAP.2.1)) (kc_e order_kc hfr)
  have hTK := (tc_im (tc_fr hTK hFx (ap_sym hAP.2.2)) hgr hV2 (by decide +kernel))
  have hkc6 := kc_e order_kc hfr
  have hRN := rl_kc (rl_fr hRN hFx (ap_sym hAP.2.1)) hG2 hV2 hkc6
  have hRK := (rl_im (rl_fr hRK hFx (ap_sym hAP.2.2)) hgr hV2 (by decide +kernel))
  have hGN := gr_kc (gr_fr hGN hFx (ap_sym hAP.2.1)) hkc6
  have hGK := (gr_im (gr_fr hGK hFx (ap_sym hAP.2.2)) hgr hV2 (by decide +kernel))
  have hdis : ∀ a, a ∈ τ.1 → a ∉ σ.1 := fun a h1 h2 => hdis a h2 h1
  refine lv_pop hx hb dL_law_1583 rfl ?_
  refine lv_goto (tgt := 1725) hx hb dL_law_1584 (by decide +kernel) ?_
  exact kk _ _ H locs ls (by omega) (by omega) ⟨σ, I_2, J_3, ri_4, rj_5, rq_6, tg, τ, I2_11, J2, si_12, sj_13, sq, tg2, nw, kp, tr, rd, ⟨hP, hD, hSH, hG, hFI, hL_this, hK_this⟩, ⟨hP2, hD2, hSH2, hG2, hL_that, hK_that⟩, hdis, hTR, hAP, hRN, hRK, hGN, hGK, hDN, hDK, hRDo, hRD, hTN, hTK, hS⟩ hl
set_option maxHeartbeats 8000000 in
set_option maxRecDepth 100000 in
theorem lw_op_35 {p : Program} {e : Env} {s : State} {m : MethodId} {below : List Frame} {meth : Method} {c : Code} {b : Nat} (l : Launch) (hx : p.tables.exec = Jvm.exec) (hb : c.code = cL_law) (hr : meth.sig.returnType = ret) (hml : c.maxLocals = 4) (hown : s.vm.findClass RL = some m.cls) (hlocks : meth.locks = false) (hts : ∀ w ∈ (Cond.initialized RX11 :: wsL_law), w.before #[Value.ref b] s = true) {L : Nat} (xs : Nat → Int32) (hX : va_X b L xs s s.heap) (hbl : b < s.heap.size) (hM : L ≤ 3584) {D : va_G} {t : pq_T} (hK : va_K D vwCl (pq_ty t) s) (hN : pq_N s) {aK aV : Nat} {vF : Value} (hW0 : pq_W aK aV vF (fun q => s.heap.size ≤ q) s s.heap) {this that : Nat} {n : Nat} {x3 : Int32} (h3 : x3.toInt = 7 * (n : Int)) (hL : 7 * n + 7 ≤ L) {H : Heap} {locs : List Loc} {cells slots : Nat} (hc2 : cells + 4 ≤ room_1.cells) (hs2 : slots + 345 ≤ room_1.slots) (hI : LI s D t this that H locs) {ls : Array Slot} (hl : lv_has ls 4 [(3, .int x3), (2, .ref that), (1, .ref this), (0, .ref b)]) {Q : State → Prop} (kk : ∀ (cells2 slots2 : Nat) (H : Heap) (locs : List Loc) (ls : Array Slot), cells2 ≤ cells + 4 → slots2 ≤ slots + 345 → LI s D t this that H locs → lv_has ls 4 [(3, .int x3), (2, .ref that), (1, .ref this), (0, .ref b)] → W p l e room_1 s m #[Value.ref b] below meth c H locs cells2 slots2 Q (F0 m 1725 ls [])) : W p l e room_1 s m #[Value.ref b] below meth c H locs cells slots Q (F0 m 1587 ls []) := by
  have hA : ∀ q : Nat, s.heap.size ≤ q → s.heap.size ≤ q := fun _ h => h
  obtain ⟨σ, I, J, ri, rj, rq, tg, τ, I2, J2, si, sj, sq, tg2, nw, kp, tr, rd, ⟨hP, hD, hSH, hG, hFI, hL_this, hK_this⟩, ⟨hP2, hD2, hSH2, hG2, hL_that, hK_that⟩, hdis, hTR, hAP, hRN, hRK, hGN, hGK, hDN, hDK, hRDo, hRD, hTN, hTK, hS⟩ := hI
  have hG00 := hG
  have hG20 := hG2
  have hR_rd := hRDo.1
  have hL_rd := hRDo.2.1
  have hK_rd := hRDo.2.2
  obtain ⟨⟨hR_nw, hL_nw, hK_nw⟩, ⟨hR_kp, hL_kp, hK_kp⟩, ⟨hR_tr, hL_tr, hK_tr⟩, -⟩ := id hTR
  refine lv_aload_n hx hb dL_law_1587 rfl (lv_at hl 2 rfl) ?_
  refine lv_aload_n hx hb dL_law_1588 rfl (lv_at hl 3 rfl) ?_
  refine lv_iload_n hx hb dL_law_1589 rfl (lv_at hl 0 rfl) ?_
  refine lv_iconst (v := 1) hx hb dL_law_1590 (by decide +kernel) ?_
  refine lv_iadd hx hb dL_law_1591 ?_
  refine va_sld hx hb hX hbl (Nat.not_le.mpr hbl) hS (lw_ix h3 hL hM (rg_w (rg_k (1 : Int32) 1 rfl) (by decide +kernel))) dL_law_1592 ?_
  refine lx_i (va_runV (As := [.int (xs (x3 + 1).toNatClampNeg)]) (rest := []) ⟨hx, hb, hml, hown, hts⟩ (s_X11_grave l D t σ I J ri rj rq H.size tg hSH hG this (xs (x3 + 1).toNatClampNeg : Int32) hL_this hK_this nw hR_nw hL_nw hK_nw) (cwV 1 hts (tw_V tw_1495 tw_1496 tw_1497 tw_2 tw_1498) rfl rfl rfl cv_yX11_grave_1 ⟨Nat.le_of_ble_eq_true rfl, Nat.le_of_ble_eq_true rfl⟩) ⟨pq_blind, pq_recv hK hP hL_this hK_this (by decide +kernel) rfl, pq_pre hK hN hP hD⟩ rfl rfl hl.1 rfl (lv_room (Nat.le_of_ble_eq_true rfl)) dL_law_1593 ⟨Nat.le_trans (Nat.le_add_right _ 4) hc2, Nat.le_trans (Nat.le_add_right _ 345) hs2⟩) hD hS hA hP2 hdis (fun r_1 σ1 μ1 H locs hw hP hD hP2 hdis hS => ?_)
  obtain ⟨I_2, ri_3, rj_4, hu, hgx, hfx, hFx, hr1⟩ := hw
  obtain ⟨hua, hub⟩ := Prod.mk.inj hu
  rw [hua, hub] at hP hD
  rw [hua] at hdis
  have hG := hgx.1
  refine lv_pop hx hb dL_law_1596 rfl ?_
  refine lv_aload_n hx hb dL_law_1597 rfl (lv_at hl 1 rfl) ?_
  refine lv_aload_n hx hb dL_law_1598 rfl (lv_at hl 3 rfl) ?_
  refine lv_iload_n hx hb dL_law_1599 rfl (lv_at hl 0 rfl) ?_
  refine lv_iconst (v := 1) hx hb dL_law_1600 (by decide +kernel) ?_
  refine lv_iadd hx hb dL_law_1601 ?_
  refine va_sld hx hb hX hbl (Nat.not_le.mpr hbl) hS (lw_ix h3 hL hM (rg_w (rg_k (1 : Int32) 1 rfl) (by decide +kernel))) dL_law_1602 ?_
  refine lx_i (va_runV (As := [.int (xs (x3 + 1).toNatClampNeg)]) (rest := []) ⟨hx, hb, hml, hown, hts⟩ (s_X12_grave l D t τ I2 J2 si sj sq H.size tg2 hSH2 hG2 that (xs (x3 + 1).toNatClampNeg : Int32) hL_that hK_that) (cwV 1 hts (tw_V tw_1505 tw_1506 tw_1507 tw_5 tw_1508) rfl rfl rfl cv_yX12_grave_1 ⟨Nat.le_of_ble_eq_true rfl, Nat.le_of_ble_eq_true rfl⟩) ⟨pq_blind, pq_recv hK hP2 hL_that hK_that (by decide +kernel) rfl, pq_pre hK hN hP2 hD2⟩ rfl rfl hl.1 rfl (lv_room (Nat.le_of_ble_eq_true rfl)) dL_law_1603 ⟨Nat.le_trans (Nat.le_add_right _ 4) hc2, Nat.le_trans (Nat.le_add_right _ 345) hs2⟩) hD2 hS hA hP (fun a h1 h2 => hdis a h2 h1) (fun r_5 τ1 ν1 H locs hw hP2 hD2 hP hdis hS => ?_)
  obtain ⟨si_6, hu, hgr, hfr, hFr, hr2⟩ := hw
  obtain ⟨hua, hub⟩ := Prod.mk.inj hu
  rw [hua, hub] at hP2 hD2
  rw [hua] at hdis
  have hG2 := hgr.1
  have hV2 := vt_12 hSH2 hL_that hK_that
  have hVn := vt_10 hSH hL_nw hK_nw
  have hVk := vt_10 hSH hL_kp hK_kp
  have hDN := (df_rf (df_cl hDN hgx hVn (by decide +kernel) (by decide +kernel)) hgr hV2 (by decide +kernel))
  have hDK := (df_im (df_cl hDK hgx hVk (by decide +kernel) (by decide +kernel)) hgr hV2 (by decide +kernel))
  have hVr := vt_4 hSH hRDo.2.1 hRDo.2.2
  have hRD := (rd_rf (rd_fr hRD hFx hAP.1.1 hVr) hgr hV2 (by decide +kernel))
  have hTN := (tc_rf (tc_cl hTN hgx (by decide +kernel)) hgr hV2 (by decide +kernel))
  have hTK := (tc_im (tc_cl hTK hgx (by decide +kernel)) hgr hV2 (by decide +kernel))
  have hcg := cg_st (grave_CG hGN hRN.2.2.1.2.2.1 hRN.1.2.1.1 hRN.1.2.1.2) hfx hfr
  have hRN := (rl_rf (rl_cl hRN hgx hVn (by decide +kernel) (by decide +kernel)) hgr hV2 (by decide +kernel))
  have hRK := (rl_im (rl_cl hRK hgx hVk (by decide +kernel) (by decide +kernel)) hgr hV2 (by decide +kernel))
  have hGN := hcg.2
  have hGK := (gr_im (gr_fr hGK hFx hAP.1) hgr hV2 (by decide +kernel))
  have hdis : ∀ a, a ∈ τ.1 → a ∉ σ.1 := fun a h1 h2 => hdis a h2 h1
  refine lv_pop hx hb dL_law_1606 rfl ?_
  refine lv_goto (tgt := 1725) hx hb dL_law_1607 (by decide +kernel) ?_
  exact kk _ _ H locs ls (by omega) (by omega) ⟨σ, I_2, J, ri_3, rj_4, rq, tg, τ, I2, J2, si_6, sj, sq, tg2, nw, kp, tr, rd, ⟨hP, hD, hSH, hG, hFI, hL_this, hK_this⟩, ⟨hP2, hD2, hSH2, hG2, hL_that, hK_that⟩, hdis, hTR, hAP, hRN, hRK, hGN, hGK, hDN, hDK, hRDo, hRD, hTN, hTK, hS⟩ hl
set_option maxHeartbeats 8000000 in
set_option maxRecDepth 100000 in
theorem lw_op_36 {p : Program} {e : Env} {s : State} {m : MethodId} {below : List Frame} {meth : Method} {c : Code} {b : Nat} (l : Launch) (hx : p.tables.exec = Jvm.exec) (hb : c.code = cL_law) (hr : meth.sig.returnType = ret) (hml : c.maxLocals = 4) (hown : s.vm.findClass RL = some m.cls) (hlocks : meth.locks = false) (hts : ∀ w ∈ (Cond.initialized RX11 :: wsL_law), w.before #[Value.ref b] s = true) {L : Nat} (xs : Nat → Int32) (hX : va_X b L xs s s.heap) (hbl : b < s.heap.size) (hM : L ≤ 3584) {D : va_G} {t : pq_T} (hK : va_K D vwCl (pq_ty t) s) (hN : pq_N s) {aK aV : Nat} {vF : Value} (hW0 : pq_W aK aV vF (fun q => s.heap.size ≤ q) s s.heap) {this that : Nat} {n : Nat} {x3 : Int32} (h3 : x3.toInt = 7 * (n : Int)) (hL : 7 * n + 7 ≤ L) {H : Heap} {locs : List Loc} {cells slots : Nat} (hc2 : cells + 4 ≤ room_1.cells) (hs2 : slots + 345 ≤ room_1.slots) (hI : LI s D t this that H locs) {ls : Array Slot} (hl : lv_has ls 4 [(3, .int x3), (2, .ref that), (1, .ref this), (0, .ref b)]) {Q : State → Prop} (kk : ∀ (cells2 slots2 : Nat) (H : Heap) (locs : List Loc) (ls : Array Slot), cells2 ≤ cells + 4 → slots2 ≤ slots + 345 → LI s D t this that H locs → lv_has ls 4 [(3, .int x3), (2, .ref that), (1, .ref this), (0, .ref b)] → W p l e room_1 s m #[Value.ref b] below meth c H locs cells2 slots2 Q (F0 m 1725 ls [])) : W p l e room_1 s m #[Value.ref b] below meth c H locs cells slots Q (F0 m 1610 ls []) := by
  have hA : ∀ q : Nat, s.heap.size ≤ q → s.heap.size ≤ q := fun _ h => h
  obtain ⟨σ, I, J, ri, rj, rq, tg, τ, I2, J2, si, sj, sq, tg2, nw, kp, tr, rd, ⟨hP, hD, hSH, hG, hFI, hL_this, hK_this⟩, ⟨hP2, hD2, hSH2, hG2, hL_that, hK_that⟩, hdis, hTR, hAP, hRN, hRK, hGN, hGK, hDN, hDK, hRDo, hRD, hTN, hTK, hS⟩ := hI
  have hG00 := hG
  have hG20 := hG2
  have hR_rd := hRDo.1
  have hL_rd := hRDo.2.1
  have hK_rd := hRDo.2.2
  obtain ⟨⟨hR_nw, hL_nw, hK_nw⟩, ⟨hR_kp, hL_kp, hK_kp⟩, ⟨hR_tr, hL_tr, hK_tr⟩, -⟩ := id hTR
  refine lv_aload_n hx hb dL_law_1610 rfl (lv_at hl 2 rfl) ?_
  refine lv_aload_n hx hb dL_law_1611 rfl (lv_at hl 3 rfl) ?_
  refine lv_iload_n hx hb dL_law_1612 rfl (lv_at hl 0 rfl) ?_
  refine lv_iconst (v := 1) hx hb dL_law_1613 (by decide +kernel) ?_
  refine lv_iadd hx hb dL_law_1614 ?_
  refine va_sld hx hb hX hbl (Nat.not_le.mpr hbl) hS (lw_ix h3 hL hM (rg_w (rg_k (1 : Int32) 1 rfl) (by decide +kernel))) dL_law_1615 ?_
  refine lv_aload_n hx hb dL_law_1616 rfl (lv_at hl 3 rfl) ?_
  refine lv_iload_n hx hb dL_law_1617 rfl (lv_at hl 0 rfl) ?_
  refine lv_iconst (v := 2) hx hb dL_law_1618 (by decide +kernel) ?_
  refine lv_iadd hx hb dL_law_1619 ?_
  refine va_sld hx hb hX hbl (Nat.not_le.mpr hbl) hS (lw_ix h3 hL hM (rg_w (rg_k (2 : Int32) 2 rfl) (by decide +kernel))) dL_law_1620 ?_
  refine lx_i (va_runV (As := [.int (xs (x3 + 1).toNatClampNeg), .int (xs (x3 + 2).toNatClampNeg)]) (rest := []) ⟨hx, hb, hml, hown, hts⟩ (s_X11_bury l D t σ I J ri rj rq H.size tg hSH hG this (xs (x3 + 1).toNatClampNeg : Int32) (xs (x3 + 2).toNatClampNeg : Int32) hL_this hK_this nw hR_nw hL_nw hK_nw) (cwV 2 hts (tw_V tw_1513 tw_1514 tw_1515 tw_2 tw_1516) rfl rfl rfl cv_yX11_bury_2 ⟨Nat.le_of_ble_eq_true rfl, Nat.le_of_ble_eq_true rfl⟩) ⟨pq_blind, pq_recv hK hP hL_this hK_this (by decide +kernel) rfl, pq_pre hK hN hP hD⟩ rfl rfl hl.1 rfl (lv_room (Nat.le_of_ble_eq_true rfl)) dL_law_1621 ⟨Nat.le_trans (Nat.le_add_right _ 4) hc2, Nat.le_trans (Nat.le_add_right _ 345) hs2⟩) hD hS hA hP2 hdis (fun r_1 σ1 μ1 H locs hw hP hD hP2 hdis hS => ?_)
  obtain ⟨ri_2, rj_3, hu, hgx, hfx, hFx, hr1⟩ := hw
  obtain ⟨hua, hub⟩ := Prod.mk.inj hu
  rw [hua, hub] at hP hD
  rw [hua] at hdis
  have hG := hgx.1
  refine lv_pop hx hb dL_law_1624 rfl ?_
  refine lv_aload_n hx hb dL_law_1625 rfl (lv_at hl 1 rfl) ?_
  refine lv_aload_n hx hb dL_law_1626 rfl (lv_at hl 3 rfl) ?_
  refine lv_iload_n hx hb dL_law_1627 rfl (lv_at hl 0 rfl) ?_
  refine lv_iconst (v := 1) hx hb dL_law_1628 (by decide +kernel) ?_
  refine lv_iadd hx hb dL_law_1629 ?_
  refine va_sld hx hb hX hbl (Nat.not_le.mpr hbl) hS (lw_ix h3 hL hM (rg_w (rg_k (1 : Int32) 1 rfl) (by decide +kernel))) dL_law_1630 ?_
  refine lv_aload_n hx hb dL_law_1631 rfl (lv_at hl 3 rfl) ?_
  refine lv_iload_n hx hb dL_law_1632 rfl (lv_at hl 0 rfl) ?_
  refine lv_iconst (v := 2) hx hb dL_law_1633 (by decide +kernel) ?_
  refine lv_iadd hx hb dL_law_1634 ?_
  refine va_sld hx hb hX hbl (Nat.not_le.mpr hbl) hS (lw_ix h3 hL hM (rg_w (rg_k (2 : Int32) 2 rfl) (by decide +kernel))) dL_law_1635 ?_
  refine lx_i (va_runV (As := [.int (xs (x3 + 1).toNatClampNeg), .int (xs (x3 + 2).toNatClampNeg)]) (rest := []) ⟨hx, hb, hml, hown, hts⟩ (s_X12_bury l D t τ I2 J2 si sj sq H.size tg2 hSH2 hG2 that (xs (x3 + 1).toNatClampNeg : Int32) (xs (x3 + 2).toNatClampNeg : Int32) hL_that hK_that) (cwV 2 hts (tw_V tw_1521 tw_1522 tw_1523 tw_5 tw_1524) rfl rfl rfl cv_yX12_bury_2 ⟨Nat.le_of_ble_eq_true rfl, Nat.le_of_ble_eq_true rfl⟩) ⟨pq_blind, pq_recv hK hP2 hL_that hK_that (by decide +kernel) rfl, pq_pre hK hN hP2 hD2⟩ rfl rfl hl.1 rfl (lv_room (Nat.le_of_ble_eq_true rfl)) dL_law_1636 ⟨Nat.le_trans (Nat.le_add_right _ 4) hc2, Nat.le_trans (Nat.le_add_right _ 345) hs2⟩) hD2 hS hA hP (fun a h1 h2 => hdis a h2 h1) (fun r_4 τ1 ν1 H locs hw hP2 hD2 hP hdis hS => ?_)
  obtain ⟨si_5, hu, hgr, hfr, hFr, hr2⟩ := hw
  obtain ⟨hua, hub⟩ := Prod.mk.inj hu
  rw [hua, hub] at hP2 hD2
  rw [hua] at hdis
  have hG2 := hgr.1
  have hV2 := vt_12 hSH2 hL_that hK_that
  have hVn := vt_10 hSH hL_nw hK_nw
  have hVk := vt_10 hSH hL_kp hK_kp
  have hDN := (df_rf (df_cl hDN hgx hVn (by decide +kernel) (by decide +kernel)) hgr hV2 (by decide +kernel))
  have hDK := (df_im (df_cl hDK hgx hVk (by decide +kernel) (by decide +kernel)) hgr hV2 (by decide +kernel))
  have hVr := vt_4 hSH hRDo.2.1 hRDo.2.2
  have hRD := (rd_rf (rd_fr hRD hFx hAP.1.1 hVr) hgr hV2 (by decide +kernel))
  have hTN := (tc_rf (tc_cl hTN hgx (by decide +kernel)) hgr hV2 (by decide +kernel))
  have hTK := (tc_im (tc_cl hTK hgx (by decide +kernel)) hgr hV2 (by decide +kernel))
  have hcg := cg_st (bury_CG hGN hRN.2.2.1.2.2.1 hRN.1.2.1.1 hRN.1.2.1.2) hfx hfr
  have hRN := (rl_rf (rl_cl hRN hgx hVn (by decide +kernel) (by decide +kernel)) hgr hV2 (by decide +kernel))
  have hRK := (rl_im (rl_cl hRK hgx hVk (by decide +kernel) (by decide +kernel)) hgr hV2 (by decide +kernel))
  have hGN := hcg.2
  have hGK := (gr_im (gr_fr hGK hFx hAP.1) hgr hV2 (by decide +kernel))
  have hdis : ∀ a, a ∈ τ.1 → a ∉ σ.1 := fun a h1 h2 => hdis a h2 h1
  refine lv_pop hx hb dL_law_1639 rfl ?_
  refine lv_goto (tgt := 1725) hx hb dL_law_1640 (by decide +kernel) ?_
  exact kk _ _ H locs ls (by omega) (by omega) ⟨σ, I, J, ri_2, rj_3, rq, tg, τ, I2, J2, si_5, sj, sq, tg2, nw, kp, tr, rd, ⟨hP, hD, hSH, hG, hFI, hL_this, hK_this⟩, ⟨hP2, hD2, hSH2, hG2, hL_that, hK_that⟩, hdis, hTR, hAP, hRN, hRK, hGN, hGK, hDN, hDK, hRDo, hRD, hTN, hTK, hS⟩ hl
set_option maxHeartbeats 8000000 in
set_option maxRecDepth 100000 in
theorem lw_op_37 {p : Program} {e : Env} {s : State} {m : MethodId} {below : List Frame} {meth : Method} {c : Code} {b : Nat} (l : Launch) (hx : p.tables.exec = Jvm.exec) (hb : c.code = cL_law) (hr : meth.sig.returnType = ret) (hml : c.maxLocals = 4) (hown : s.vm.findClass RL = some m.cls) (hlocks : meth.locks = false) (hts : ∀ w ∈ (Cond.initialized RX11 :: wsL_law), w.before #[Value.ref b] s = true) {L : Nat} (xs : Nat → Int32) (hX : va_X b L xs s s.heap) (hbl : b < s.heap.size) (hM : L ≤ 3584) {D : va_G} {t : pq_T} (hK : va_K D vwCl (pq_ty t) s) (hN : pq_N s) {aK aV : Nat} {vF : Value} (hW0 : pq_W aK aV vF (fun q => s.heap.size ≤ q) s s.heap) {this that : Nat} {n : Nat} {x3 : Int32} (h3 : x3.toInt = 7 * (n : Int)) (hL : 7 * n + 7 ≤ L) {H : Heap} {locs : List Loc} {cells slots : Nat} (hc2 : cells + 4 ≤ room_1.cells) (hs2 : slots + 345 ≤ room_1.slots) (hI : LI s D t this that H locs) {ls : Array Slot} (hl : lv_has ls 4 [(3, .int x3), (2, .ref that), (1, .ref this), (0, .ref b)]) {Q : State → Prop} (kk : ∀ (cells2 slots2 : Nat) (H : Heap) (locs : List Loc) (ls : Array Slot), cells2 ≤ cells + 4 → slots2 ≤ slots + 345 → LI s D t this that H locs → lv_has ls 4 [(3, .int x3), (2, .ref that), (1, .ref this), (0, .ref b)] → W p l e room_1 s m #[Value.ref b] below meth c H locs cells2 slots2 Q (F0 m 1725 ls [])) : W p l e room_1 s m #[Value.ref b] below meth c H locs cells slots Q (F0 m 1643 ls []) := by
  have hA : ∀ q : Nat, s.heap.size ≤ q → s.heap.size ≤ q := fun _ h => h
  obtain ⟨σ, I, J, ri, rj, rq, tg, τ, I2, J2, si, sj, sq, tg2, nw, kp, tr, rd, ⟨hP, hD, hSH, hG, hFI, hL_this, hK_this⟩, ⟨hP2, hD2, hSH2, hG2, hL_that, hK_that⟩, hdis, hTR, hAP, hRN, hRK, hGN, hGK, hDN, hDK, hRDo, hRD, hTN, hTK, hS⟩ := hI
  have hG00 := hG
  have hG20 := hG2
  have hR_rd := hRDo.1
  have hL_rd := hRDo.2.1
  have hK_rd := hRDo.2.2
  obtain ⟨⟨hR_nw, hL_nw, hK_nw⟩, ⟨hR_kp, hL_kp, hK_kp⟩, ⟨hR_tr, hL_tr, hK_tr⟩, -⟩ := id hTR
  refine lv_aload_n hx hb dL_law_1643 rfl (lv_at hl 2 rfl) ?_
  refine lv_aload_n hx hb dL_law_1644 rfl (lv_at hl 3 rfl) ?_
  refine lv_iload_n hx hb dL_law_1645 rfl (lv_at hl 0 rfl) ?_
  refine lv_iconst (v := 1) hx hb dL_law_1646 (by decide +kernel) ?_
  refine lv_iadd hx hb dL_law_1647 ?_
  refine va_sld hx hb hX hbl (Nat.not_le.mpr hbl) hS (lw_ix h3 hL hM (rg_w (rg_k (1 : Int32) 1 rfl) (by decide +kernel))) dL_law_1648 ?_
  refine lv_aload_n hx hb dL_law_1649 rfl (lv_at hl 3 rfl) ?_
  refine lv_iload_n hx hb dL_law_1650 rfl (lv_at hl 0 rfl) ?_
  refine lv_iconst (v := 2) hx hb dL_law_1651 (by decide +kernel) ?_
  refine lv_iadd hx hb dL_law_1652 ?_
  refine va_sld hx hb hX hbl (Nat.not_le.mpr hbl) hS (lw_ix h3 hL hM (rg_w (rg_k (2 : Int32) 2 rfl) (by decide +kernel))) dL_law_1653 ?_
  refine lx_i (va_runV (As := [.int (xs (x3 + 1).toNatClampNeg), .int (xs (x3 + 2).toNatClampNeg)]) (rest := []) ⟨hx, hb, hml, hown, hts⟩ (s_X11_found l D t σ I J ri rj rq H.size tg hSH hG this (xs (x3 + 1).toNatClampNeg : Int32) (xs (x3 + 2).toNatClampNeg : Int32) hL_this hK_this nw hR_nw hL_nw hK_nw) (cwV 2 hts (tw_V tw_1525 tw_1526 tw_1527 tw_2 tw_1528) rfl rfl rfl cv_yX11_found_2 ⟨Nat.le_of_ble_eq_true rfl, Nat.le_of_ble_eq_true rfl⟩) ⟨pq_blind, pq_recv hK hP hL_this hK_this (by decide +kernel) rfl, pq_pre hK hN hP hD⟩ rfl rfl hl.1 rfl (lv_room (Nat.le_of_ble_eq_true rfl)) dL_law_1654 ⟨Nat.le_trans (Nat.le_add_right _ 4) hc2, Nat.le_trans (Nat.le_add_right _ 345) hs2⟩) hD hS hA hP2 hdis (fun r_1 σ1 μ1 H locs hw hP hD hP2 hdis hS => ?_)
  obtain ⟨hu, hfx, hr1⟩ := hw
  obtain ⟨hua, hub⟩ := Prod.mk.inj hu
  rw [hua, hub] at hP hD
  rw [hua] at hdis
  refine lv_pop hx hb dL_law_1657 rfl ?_
  refine lv_aload_n hx hb dL_law_1658 rfl (lv_at hl 1 rfl) ?_
  refine lv_aload_n hx hb dL_law_1659 rfl (lv_at hl 3 rfl) ?_
  refine lv_iload_n hx hb dL_law_1660 rfl (lv_at hl 0 rfl) ?_
  refine lv_iconst (v := 1) hx hb dL_law_1661 (by decide +kernel) ?_
  refine lv_iadd hx hb dL_law_1662 ?_
  refine va_sld hx hb hX hbl (Nat.not_le.mpr hbl) hS (lw_ix h3 hL hM (rg_w (rg_k (1 : Int32) 1 rfl) (by decide +kernel))) dL_law_1663 ?_
  refine lv_aload_n hx hb dL_law_1664 rfl (lv_at hl 3 rfl) ?_
  refine lv_iload_n hx hb dL_law_1665 rfl (lv_at hl 0 rfl) ?_
  refine lv_iconst (v := 2) hx hb dL_law_1666 (by decide +kernel) ?_
  refine lv_iadd hx hb dL_law_1667 ?_
  refine va_sld hx hb hX hbl (Nat.not_le.mpr hbl) hS (lw_ix h3 hL hM (rg_w (rg_k (2 : Int32) 2 rfl) (by decide +kernel))) dL_law_1668 ?_
  refine lx_i (va_runV (As := [.int (xs (x3 + 1).toNatClampNeg), .int (xs (x3 + 2).toNatClampNeg)]) (rest := []) ⟨hx, hb, hml, hown, hts⟩ (s_X12_found l D t τ I2 J2 si sj sq H.size tg2 hSH2 hG2 that (xs (x3 + 1).toNatClampNeg : Int32) (xs (x3 + 2).toNatClampNeg : Int32) hL_that hK_that) (cwV 2 hts (tw_V tw_1533 tw_1534 tw_1535 tw_5 tw_1536) rfl rfl rfl cv_yX12_found_2 ⟨Nat.le_of_ble_eq_true rfl, Nat.le_of_ble_eq_true rfl⟩) ⟨pq_blind, pq_recv hK hP2 hL_that hK_that (by decide +kernel) rfl, pq_pre hK hN hP2 hD2⟩ rfl rfl hl.1 rfl (lv_room (Nat.le_of_ble_eq_true rfl)) dL_law_1669 ⟨Nat.le_trans (Nat.le_add_right _ 4) hc2, Nat.le_trans (Nat.le_add_right _ 345) hs2⟩) hD2 hS hA hP (fun a h1 h2 => hdis a h2 h1) (fun r_2 τ1 ν1 H locs hw hP2 hD2 hP hdis hS => ?_)
  obtain ⟨hu, hfr⟩ := hw
  obtain ⟨hua, hub⟩ := Prod.mk.inj hu
  rw [hua, hub] at hP2 hD2
  rw [hua] at hdis
  have hV2 := vt_12 hSH2 hL_that hK_that
  have hDN := hDN
  have hDK := hDK
  have hVr := vt_4 hSH hRDo.2.1 hRDo.2.2
  have hRD := hRD
  have hTN := hTN
  have hTK := hTK
  have he0 := fst_st (found_v hGN hRN.2.2.1.2.2.1 hRN.1.2.1.1 hRN.1.2.1.2) hfx hfr
  have hRN := hRN
  have hRK := hRK
  have hGN := hGN
  have hGK := hGK
  have hdis : ∀ a, a ∈ τ.1 → a ∉ σ.1 := fun a h1 h2 => hdis a h2 h1
  refine lv_pop hx hb dL_law_1672 rfl ?_
  refine lv_goto (tgt := 1725) hx hb dL_law_1673 (by decide +kernel) ?_
  exact kk _ _ H locs ls (by omega) (by omega) ⟨σ, I, J, ri, rj, rq, tg, τ, I2, J2, si, sj, sq, tg2, nw, kp, tr, rd, ⟨hP, hD, hSH, hG, hFI, hL_this, hK_this⟩, ⟨hP2, hD2, hSH2, hG2, hL_that, hK_that⟩, hdis, hTR, hAP, hRN, hRK, hGN, hGK, hDN, hDK, hRDo, hRD, hTN, hTK, hS⟩ hl
set_option maxHeartbeats 8000000 in
set_option maxRecDepth 100000 in
theorem lw_op_38 {p : Program} {e : Env} {s : State} {m : MethodId} {below : List Frame} {meth : Method} {c : Code} {b : Nat} (l : Launch) (hx : p.tables.exec = Jvm.exec) (hb : c.code = cL_law) (hr : meth.sig.returnType = ret) (hml : c.maxLocals = 4) (hown : s.vm.findClass RL = some m.cls) (hlocks : meth.locks = false) (hts : ∀ w ∈ (Cond.initialized RX11 :: wsL_law), w.before #[Value.ref b] s = true) {L : Nat} (xs : Nat → Int32) (hX : va_X b L xs s s.heap) (hbl : b < s.heap.size) (hM : L ≤ 3584) {D : va_G} {t : pq_T} (hK : va_K D vwCl (pq_ty t) s) (hN : pq_N s) {aK aV : Nat} {vF : Value} (hW0 : pq_W aK aV vF (fun q => s.heap.size ≤ q) s s.heap) {this that : Nat} {n : Nat} {x3 : Int32} (h3 : x3.toInt = 7 * (n : Int)) (hL : 7 * n + 7 ≤ L) {H : Heap} {locs : List Loc} {cells slots : Nat} (hc2 : cells + 4 ≤ room_1.cells) (hs2 : slots + 345 ≤ room_1.slots) (hI : LI s D t this that H locs) {ls : Array Slot} (hl : lv_has ls 4 [(3, .int x3), (2, .ref that), (1, .ref this), (0, .ref b)]) {Q : State → Prop} (kk : ∀ (cells2 slots2 : Nat) (H : Heap) (locs : List Loc) (ls : Array Slot), cells2 ≤ cells + 4 → slots2 ≤ slots + 345 → LI s D t this that H locs → lv_has ls 4 [(3, .int x3), (2, .ref that), (1, .ref this), (0, .ref b)] → W p l e room_1 s m #[Value.ref b] below meth c H locs cells2 slots2 Q (F0 m 1725 ls [])) : W p l e room_1 s m #[Value.ref b] below meth c H locs cells slots Q (F0 m 1676 ls []) := by
  have hA : ∀ q : Nat, s.heap.size ≤ q → s.heap.size ≤ q := fun _ h => h
  obtain ⟨σ, I, J, ri, rj, rq, tg, τ, I2, J2, si, sj, sq, tg2, nw, kp, tr, rd, ⟨hP, hD, hSH, hG, hFI, hL_this, hK_this⟩, ⟨hP2, hD2, hSH2, hG2, hL_that, hK_that⟩, hdis, hTR, hAP, hRN, hRK, hGN, hGK, hDN, hDK, hRDo, hRD, hTN, hTK, hS⟩ := hI
  have hG00 := hG
  have hG20 := hG2
  have hR_rd := hRDo.1
  have hL_rd := hRDo.2.1
  have hK_rd := hRDo.2.2
  obtain ⟨⟨hR_nw, hL_nw, hK_nw⟩, ⟨hR_kp, hL_kp, hK_kp⟩, ⟨hR_tr, hL_tr, hK_tr⟩, -⟩ := id hTR
  refine lv_aload_n hx hb dL_law_1676 rfl (lv_at hl 2 rfl) ?_
  refine lx_i (va_runV (As := []) (rest := []) ⟨hx, hb, hml, hown, hts⟩ (s_X11_image l D t σ I J ri rj rq H.size tg hSH hG this hL_this hK_this nw hR_nw hL_nw hK_nw kp hR_kp hL_kp hK_kp (ap_sym hAP.1)) (cwV 0 hts (tw_V tw_1537 tw_1538 tw_1539 tw_2 tw_1540) rfl rfl rfl cv_yX11_image_0 ⟨Nat.le_of_ble_eq_true rfl, Nat.le_of_ble_eq_true rfl⟩) ⟨pq_blind, pq_recv hK hP hL_this hK_this (by decide +kernel) rfl, pq_pre hK hN hP hD⟩ rfl rfl hl.1 rfl (lv_room (Nat.le_of_ble_eq_true rfl)) dL_law_1677 ⟨Nat.le_trans (Nat.le_add_right _ 4) hc2, Nat.le_trans (Nat.le_add_right _ 345) hs2⟩) hD hS hA hP2 hdis (fun r_1 σ1 μ1 H locs hw hP hD hP2 hdis hS => ?_)
  obtain ⟨I_2, J_3, ri_4, rj_5, rq_6, hu, hgx, hfx, hFx, hr1⟩ := hw
  obtain ⟨hua, hub⟩ := Prod.mk.inj hu
  rw [hua, hub] at hP hD
  rw [hua] at hdis
  have hG := hgx.1
  refine lv_pop hx hb dL_law_1680 rfl ?_
  refine lv_aload_n hx hb dL_law_1681 rfl (lv_at hl 1 rfl) ?_
  refine lx_i (va_runV (As := []) (rest := []) ⟨hx, hb, hml, hown, hts⟩ (s_X12_image l D t τ I2 J2 si sj sq H.size tg2 hSH2 hG2 that hL_that hK_that) (cwV 0 hts (tw_V tw_1541 tw_1542 tw_1543 tw_5 tw_1544) rfl rfl rfl cv_yX12_image_0 ⟨Nat.le_of_ble_eq_true rfl, Nat.le_of_ble_eq_true rfl⟩) ⟨pq_blind, pq_recv hK hP2 hL_that hK_that (by decide +kernel) rfl, pq_pre hK hN hP2 hD2⟩ rfl rfl hl.1 rfl (lv_room (Nat.le_of_ble_eq_true rfl)) dL_law_1682 ⟨Nat.le_trans (Nat.le_add_right _ 4) hc2, Nat.le_trans (Nat.le_add_right _ 345) hs2⟩) hD2 hS hA hP (fun a h1 h2 => hdis a h2 h1) (fun r_7 τ1 ν1 H locs hw hP2 hD2 hP hdis hS => ?_)
  obtain ⟨si_8, hu, hgr, hfr, hFr, hr2⟩ := hw
  obtain ⟨hua, hub⟩ := Prod.mk.inj hu
  rw [hua, hub] at hP2 hD2
  rw [hua] at hdis
  have hG2 := hgr.1
  have hV2 := vt_12 hSH2 hL_that hK_that
  have hVn := vt_10 hSH hL_nw hK_nw
  have hVk := vt_10 hSH hL_kp hK_kp
  have hDK := df_cp hDN (image_d hfx) (image_m hfr).2
  have hDN := (df_rf (df_fr hDN hFx (ap_sym hAP.1)) hgr hV2 (by decide +kernel))
  have hVr := vt_4 hSH hRDo.2.1 hRDo.2.2
  have hRD := (rd_rf (rd_fr hRD hFx hAP.1.2.1 hVr) hgr hV2 (by decide +kernel))
  have hTK := tc_cp hTN (image_t hfx) (image_m hfr).2
  have hTN := (tc_rf (tc_fr hTN hFx (ap_sym hAP.1)) hgr hV2 (by decide +kernel))
  have hq := image_q hfx
  have hqg := image_g hfx
  have hm := image_m hfr
  have he0 := hq.2.trans (hRN.2.2.1.1.trans hm.1.symm)
  have hRK := rl_cp hRN hq.1 hG2 hV2 (Or.inr rfl) hm.2
  have hRN := (rl_rf (rl_fr hRN hFx (ap_sym hAP.1)) hgr hV2 (by decide +kernel))
  have hGK := gr_cp hGN hqg hm.2
  have hGN := (gr_rf (gr_fr hGN hFx (ap_sym hAP.1)) hgr hV2 (by decide +kernel))
  have hdis : ∀ a, a ∈ τ.1 → a ∉ σ.1 := fun a h1 h2 => hdis a h2 h1
  refine lv_pop hx hb dL_law_1685 rfl ?_
  refine lv_goto (tgt := 1725) hx hb dL_law_1686 (by decide +kernel) ?_
  exact kk _ _ H locs ls (by omega) (by omega) ⟨σ, I_2, J_3, ri_4, rj_5, rq_6, tg, τ, I2, J2, si_8, sj, sq, tg2, nw, kp, tr, rd, ⟨hP, hD, hSH, hG, hFI, hL_this, hK_this⟩, ⟨hP2, hD2, hSH2, hG2, hL_that, hK_that⟩, hdis, hTR, hAP, hRN, hRK, hGN, hGK, hDN, hDK, hRDo, hRD, hTN, hTK, hS⟩ hl
set_option maxHeartbeats 8000000 in
set_option maxRecDepth 100000 in
theorem lw_op_39 {p : Program} {e : Env} {s : State} {m : MethodId} {below : List Frame} {meth : Method} {c : Code} {b : Nat} (l : Launch) (hx : p.tables.exec = Jvm.exec) (hb : c.code = cL_law) (hr : meth.sig.returnType = ret) (hml : c.maxLocals = 4) (hown : s.vm.findClass RL = some m.cls) (hlocks : meth.locks = false) (hts : ∀ w ∈ (Cond.initialized RX11 :: wsL_law), w.before #[Value.ref b] s = true) {L : Nat} (xs : Nat → Int32) (hX : va_X b L xs s s.heap) (hbl : b < s.heap.size) (hM : L ≤ 3584) {D : va_G} {t : pq_T} (hK : va_K D vwCl (pq_ty t) s) (hN : pq_N s) {aK aV : Nat} {vF : Value} (hW0 : pq_W aK aV vF (fun q => s.heap.size ≤ q) s s.heap) {this that : Nat} {n : Nat} {x3 : Int32} (h3 : x3.toInt = 7 * (n : Int)) (hL : 7 * n + 7 ≤ L) {H : Heap} {locs : List Loc} {cells slots : Nat} (hc2 : cells + 4 ≤ room_1.cells) (hs2 : slots + 345 ≤ room_1.slots) (hI : LI s D t this that H locs) {ls : Array Slot} (hl : lv_has ls 4 [(3, .int x3), (2, .ref that), (1, .ref this), (0, .ref b)]) {Q : State → Prop} (kk : ∀ (cells2 slots2 : Nat) (H : Heap) (locs : List Loc) (ls : Array Slot), cells2 ≤ cells + 4 → slots2 ≤ slots + 345 → LI s D t this that H locs → lv_has ls 4 [(3, .int x3), (2, .ref that), (1, .ref this), (0, .ref b)] → W p l e room_1 s m #[Value.ref b] below meth c H locs cells2 slots2 Q (F0 m 1725 ls [])) : W p l e room_1 s m #[Value.ref b] below meth c H locs cells slots Q (F0 m 1689 ls []) := by
  have hA : ∀ q : Nat, s.heap.size ≤ q → s.heap.size ≤ q := fun _ h => h
  obtain ⟨σ, I, J, ri, rj, rq, tg, τ, I2, J2, si, sj, sq, tg2, nw, kp, tr, rd, ⟨hP, hD, hSH, hG, hFI, hL_this, hK_this⟩, ⟨hP2, hD2, hSH2, hG2, hL_that, hK_that⟩, hdis, hTR, hAP, hRN, hRK, hGN, hGK, hDN, hDK, hRDo, hRD, hTN, hTK, hS⟩ := hI
  have hG00 := hG
  have hG20 := hG2
  have hR_rd := hRDo.1
  have hL_rd := hRDo.2.1
  have hK_rd := hRDo.2.2
  obtain ⟨⟨hR_nw, hL_nw, hK_nw⟩, ⟨hR_kp, hL_kp, hK_kp⟩, ⟨hR_tr, hL_tr, hK_tr⟩, -⟩ := id hTR
  refine lv_aload_n hx hb dL_law_1689 rfl (lv_at hl 2 rfl) ?_
  refine lx_i (va_runV (As := []) (rest := []) ⟨hx, hb, hml, hown, hts⟩ (s_X11_back l D t σ I J ri rj rq H.size tg hSH hG this hL_this hK_this kp hR_kp hL_kp hK_kp nw hR_nw hL_nw hK_nw hAP.1) (cwV 0 hts (tw_V tw_1545 tw_1546 tw_1547 tw_2 tw_1548) rfl rfl rfl cv_yX11_back_0 ⟨Nat.le_of_ble_eq_true rfl, Nat.le_of_ble_eq_true rfl⟩) ⟨pq_blind, pq_recv hK hP hL_this hK_this (by decide +kernel) rfl, pq_pre hK hN hP hD⟩ rfl rfl hl.1 rfl (lv_room (Nat.le_of_ble_eq_true rfl)) dL_law_1690 ⟨Nat.le_trans (Nat.le_add_right _ 4) hc2, Nat.le_trans (Nat.le_add_right _ 345) hs2⟩) hD hS hA hP2 hdis (fun r_1 σ1 μ1 H locs hw hP hD hP2 hdis hS => ?_)
  obtain ⟨I_2, J_3, ri_4, rj_5, rq_6, hu, hgx, hfx, hFx, hr1⟩ := hw
  obtain ⟨hua, hub⟩ := Prod.mk.inj hu
  rw [hua, hub] at hP hD
  rw [hua] at hdis
  have hG := hgx.1
  refine lv_pop hx hb dL_law_1693 rfl ?_
  refine lv_aload_n hx hb dL_law_1694 rfl (lv_at hl 1 rfl) ?_
  refine lx_i (va_runV (As := []) (rest := []) ⟨hx, hb, hml, hown, hts⟩ (s_X12_back l D t τ I2 J2 si sj sq H.size tg2 hSH2 hG2 that hL_that hK_that) (cwV 0 hts (tw_V tw_1549 tw_1550 tw_1551 tw_5 tw_1552) rfl rfl rfl cv_yX12_back_0 ⟨Nat.le_of_ble_eq_true rfl, Nat.le_of_ble_eq_true rfl⟩) ⟨pq_blind, pq_recv hK hP2 hL_that hK_that (by decide +kernel) rfl, pq_pre hK hN hP2 hD2⟩ rfl rfl hl.1 rfl (lv_room (Nat.le_of_ble_eq_true rfl)) dL_law_1695 ⟨Nat.le_trans (Nat.le_add_right _ 4) hc2, Nat.le_trans (Nat.le_add_right _ 345) hs2⟩) hD2 hS hA hP (fun a h1 h2 => hdis a h2 h1) (fun r_7 τ1 ν1 H locs hw hP2 hD2 hP hdis hS => ?_)
  obtain ⟨si_8, hu, hgr, hfr, hFr, hr2⟩ := hw
  obtain ⟨hua, hub⟩ := Prod.mk.inj hu
  rw [hua, hub] at hP2 hD2
  rw [hua] at hdis
  have hG2 := hgr.1
  have hV2 := vt_12 hSH2 hL_that hK_that
  have hVn := vt_10 hSH hL_nw hK_nw
  have hVk := vt_10 hSH hL_kp hK_kp
  have hDN := df_cp hDK (back_d hfx) (back_m hfr).2
  have hDK := (df_im (df_fr hDK hFx hAP.1) hgr hV2 (by decide +kernel))
  have hVr := vt_4 hSH hRDo.2.1 hRDo.2.2
  have hRD := (rd_rf (rd_fr hRD hFx hAP.1.1 hVr) hgr hV2 (by decide +kernel))
  have hTN := tc_cp hTK (back_t hfx) (back_m hfr).2
  have hTK := (tc_im (tc_fr hTK hFx hAP.1) hgr hV2 (by decide +kernel))
  have hq := back_q hfx
  have hqg := back_g hfx
  have hm := back_m hfr
  have he0 := hq.2.trans (hRK.2.2.1.1.trans hm.1.symm)
  have hRN := rl_cp hRK hq.1 hG2 hV2 (Or.inl rfl) hm.2
  have hRK := (rl_im (rl_fr hRK hFx hAP.1) hgr hV2 (by decide +kernel))
  have hGN := gr_cp hGK hqg hm.2
  have hGK := (gr_im (gr_fr hGK hFx hAP.1) hgr hV2 (by decide +kernel))
  have hdis : ∀ a, a ∈ τ.1 → a ∉ σ.1 := fun a h1 h2 => hdis a h2 h1
  refine lv_pop hx hb dL_law_1698 rfl ?_
  refine lv_goto (tgt := 1725) hx hb dL_law_1699 (by decide +kernel) ?_
  exact kk _ _ H locs ls (by omega) (by omega) ⟨σ, I_2, J_3, ri_4, rj_5, rq_6, tg, τ, I2, J2, si_8, sj, sq, tg2, nw, kp, tr, rd, ⟨hP, hD, hSH, hG, hFI, hL_this, hK_this⟩, ⟨hP2, hD2, hSH2, hG2, hL_that, hK_that⟩, hdis, hTR, hAP, hRN, hRK, hGN, hGK, hDN, hDK, hRDo, hRD, hTN, hTK, hS⟩ hl
set_option maxHeartbeats 8000000 in
set_option maxRecDepth 100000 in
theorem lw_op_40 {p : Program} {e : Env} {s : State} {m : MethodId} {below : List Frame} {meth : Method} {c : Code} {b : Nat} (l : Launch) (hx : p.tables.exec = Jvm.exec) (hb : c.code = cL_law) (hr : meth.sig.returnType = ret) (hml : c.maxLocals = 4) (hown : s.vm.findClass RL = some m.cls) (hlocks : meth.locks = false) (hts : ∀ w ∈ (Cond.initialized RX11 :: wsL_law), w.before #[Value.ref b] s = true) {L : Nat} (xs : Nat → Int32) (hX : va_X b L xs s s.heap) (hbl : b < s.heap.size) (hM : L ≤ 3584) {D : va_G} {t : pq_T} (hK : va_K D vwCl (pq_ty t) s) (hN : pq_N s) {aK aV : Nat} {vF : Value} (hW0 : pq_W aK aV vF (fun q => s.heap.size ≤ q) s s.heap) {this that : Nat} {n : Nat} {x3 : Int32} (h3 : x3.toInt = 7 * (n : Int)) (hL : 7 * n + 7 ≤ L) {H : Heap} {locs : List Loc} {cells slots : Nat} (hc2 : cells + 4 ≤ room_1.cells) (hs2 : slots + 345 ≤ room_1.slots) (hI : LI s D t this that H locs) {ls : Array Slot} (hl : lv_has ls 4 [(3, .int x3), (2, .ref that), (1, .ref this), (0, .ref b)]) {Q : State → Prop} (kk : ∀ (cells2 slots2 : Nat) (H : Heap) (locs : List Loc) (ls : Array Slot), cells2 ≤ cells + 4 → slots2 ≤ slots + 345 → LI s D t this that H locs → lv_has ls 4 [(3, .int x3), (2, .ref that), (1, .ref this), (0, .ref b)] → W p l e room_1 s m #[Value.ref b] below meth c H locs cells2 slots2 Q (F0 m 1725 ls [])) : W p l e room_1 s m #[Value.ref b] below meth c H locs cells slots Q (F0 m 1702 ls []) := by
  have hA : ∀ q : Nat, s.heap.size ≤ q → s.heap.size ≤ q := fun _ h => h
  obtain ⟨σ, I, J, ri, rj, rq, tg, τ, I2, J2, si, sj, sq, tg2, nw, kp, tr, rd, ⟨hP, hD, hSH, hG, hFI, hL_this, hK_this⟩, ⟨hP2, hD2, hSH2, hG2, hL_that, hK_that⟩, hdis, hTR, hAP, hRN, hRK, hGN, hGK, hDN, hDK, hRDo, hRD, hTN, hTK, hS⟩ := hI
  have hG00 := hG
  have hG20 := hG2
  have hR_rd := hRDo.1
  have hL_rd := hRDo.2.1
  have hK_rd := hRDo.2.2
  obtain ⟨⟨hR_nw, hL_nw, hK_nw⟩, ⟨hR_kp, hL_kp, hK_kp⟩, ⟨hR_tr, hL_tr, hK_tr⟩, -⟩ := id hTR
  refine lv_aload_n hx hb dL_law_1702 rfl (lv_at hl 2 rfl) ?_
  refine lv_aload_n hx hb dL_law_1703 rfl (lv_at hl 3 rfl) ?_
  refine lv_iload_n hx hb dL_law_1704 rfl (lv_at hl 0 rfl) ?_
  refine lv_iconst (v := 1) hx hb dL_law_1705 (by decide +kernel) ?_
  refine lv_iadd hx hb dL_law_1706 ?_
  refine va_sld hx hb hX hbl (Nat.not_le.mpr hbl) hS (lw_ix h3 hL hM (rg_w (rg_k (1 : Int32) 1 rfl) (by decide +kernel))) dL_law_1707 ?_
  refine lx_i (va_runV (As := [.int (xs (x3 + 1).toNatClampNeg)]) (rest := []) ⟨hx, hb, hml, hown, hts⟩ (s_X11_about l D t σ I J ri rj rq H.size tg hSH hG this (xs (x3 + 1).toNatClampNeg : Int32) hL_this hK_this nw hR_nw hL_nw hK_nw) (cwV 1 hts (tw_V tw_1553 tw_1554 tw_1555 tw_2 tw_1556) rfl rfl rfl cv_yX11_about_1 ⟨Nat.le_of_ble_eq_true rfl, Nat.le_of_ble_eq_true rfl⟩) ⟨pq_blind, pq_recv hK hP hL_this hK_this (by decide +kernel) rfl, pq_pre hK hN hP hD⟩ rfl rfl hl.1 rfl (lv_room (Nat.le_of_ble_eq_true rfl)) dL_law_1708 ⟨Nat.le_trans (Nat.le_add_right _ 4) hc2, Nat.le_trans (Nat.le_add_right _ 345) hs2⟩) hD hS hA hP2 hdis (fun r_1 σ1 μ1 H locs hw hP hD hP2 hdis hS => ?_)
  have hu := hw
  obtain ⟨hua, hub⟩ := Prod.mk.inj hu
  rw [hua, hub] at hP hD
  rw [hua] at hdis
  refine lv_pop hx hb dL_law_1711 rfl ?_
  refine lv_aload_n hx hb dL_law_1712 rfl (lv_at hl 1 rfl) ?_
  refine lv_aload_n hx hb dL_law_1713 rfl (lv_at hl 3 rfl) ?_
  refine lv_iload_n hx hb dL_law_1714 rfl (lv_at hl 0 rfl) ?_
  refine lv_iconst (v := 1) hx hb dL_law_1715 (by decide +kernel) ?_
  refine lv_iadd hx hb dL_law_1716 ?_
  refine va_sld hx hb hX hbl (Nat.not_le.mpr hbl) hS (lw_ix h3 hL hM (rg_w (rg_k (1 : Int32) 1 rfl) (by decide +kernel))) dL_law_1717 ?_
  refine lx_i (va_runV (As := [.int (xs (x3 + 1).toNatClampNeg)]) (rest := []) ⟨hx, hb, hml, hown, hts⟩ (s_X12_about l D t τ I2 J2 si sj sq H.size tg2 hSH2 hG2 that (xs (x3 + 1).toNatClampNeg : Int32) hL_that hK_that) (cwV 1 hts (tw_V tw_1562 tw_1563 tw_1564 tw_5 tw_1565) rfl rfl rfl cv_yX12_about_1 ⟨Nat.le_of_ble_eq_true rfl, Nat.le_of_ble_eq_true rfl⟩) ⟨pq_blind, pq_recv hK hP2 hL_that hK_that (by decide +kernel) rfl, pq_pre hK hN hP2 hD2⟩ rfl rfl hl.1 rfl (lv_room (Nat.le_of_ble_eq_true rfl)) dL_law_1718 ⟨Nat.le_trans (Nat.le_add_right _ 4) hc2, Nat.le_trans (Nat.le_add_right _ 345) hs2⟩) hD2 hS hA hP (fun a h1 h2 => hdis a h2 h1) (fun r_2 τ1 ν1 H locs hw hP2 hD2 hP hdis hS => ?_)
  obtain ⟨hu, hfr⟩ := hw
  obtain ⟨hua, hub⟩ := Prod.mk.inj hu
  rw [hua, hub] at hP2 hD2
  rw [hua] at hdis
  have hV2 := vt_12 hSH2 hL_that hK_that
  have hDN := hDN
  have hDK := hDK
  have hVr := vt_4 hSH hRDo.2.1 hRDo.2.2
  have hRD := hRD
  have hTN := hTN
  have hTK := hTK
  have hRN := hRN
  have hRK := hRK
  have hGN := hGN
  have hGK := hGK
  have hdis : ∀ a, a ∈ τ.1 → a ∉ σ.1 := fun a h1 h2 => hdis a h2 h1
  refine lv_pop hx hb dL_law_1721 rfl ?_
  refine lv_goto (tgt := 1725) hx hb dL_law_1722 (by decide +kernel) ?_
  exact kk _ _ H locs ls (by omega) (by omega) ⟨σ, I, J, ri, rj, rq, tg, τ, I2, J2, si, sj, sq, tg2, nw, kp, tr, rd, ⟨hP, hD, hSH, hG, hFI, hL_this, hK_this⟩, ⟨hP2, hD2, hSH2, hG2, hL_that, hK_that⟩, hdis, hTR, hAP, hRN, hRK, hGN, hGK, hDN, hDK, hRDo, hRD, hTN, hTK, hS⟩ hl
