set_option maxRecDepth 20000 in
theorem lwi_wsL_law_r1 : ∀ w ∈ wsL_law_r1, w ∈ lw_tbl := fun w h => (goodIn_p wsL_law_r1 [131, 134] (by decide +kernel) (by decide +kernel) w h).1
set_option maxRecDepth 20000 in
theorem lwi_wsL_law_r2 : ∀ w ∈ wsL_law_r2, w ∈ lw_tbl := fun w h => (goodIn_p wsL_law_r2 [139] (by decide +kernel) (by decide +kernel) w h).1
set_option maxRecDepth 20000 in
theorem lwi_wsL_law_r3 : ∀ w ∈ wsL_law_r3, w ∈ lw_tbl := fun w h => (goodIn_p wsL_law_r3 [145] (by decide +kernel) (by decide +kernel) w h).1
set_option maxRecDepth 20000 in
theorem lwi_wsL_law_r4 : ∀ w ∈ wsL_law_r4, w ∈ lw_tbl := fun w h => (goodIn_p wsL_law_r4 [149, 223] (by decide +kernel) (by decide +kernel) w h).1
set_option maxRecDepth 20000 in
theorem lwi_wsL_law_r5 : ∀ w ∈ wsL_law_r5, w ∈ lw_tbl := fun w h => (goodIn_p wsL_law_r5 [229, 334] (by decide +kernel) (by decide +kernel) w h).1
set_option maxRecDepth 20000 in
theorem lwi_wsL_law_r6 : ∀ w ∈ wsL_law_r6, w ∈ lw_tbl := fun w h => (goodIn_p wsL_law_r6 [407, 443, 518] (by decide +kernel) (by decide +kernel) w h).1
set_option maxRecDepth 20000 in
theorem lwi_wsL_law_r7 : ∀ w ∈ wsL_law_r7, w ∈ lw_tbl := fun w h => (goodIn_p wsL_law_r7 [551, 557, 586] (by decide +kernel) (by decide +kernel) w h).1
set_option maxRecDepth 20000 in
theorem lwi_wsL_law_r8 : ∀ w ∈ wsL_law_r8, w ∈ lw_tbl := fun w h => (goodIn_p wsL_law_r8 [1422] (by decide +kernel) (by decide +kernel) w h).1
set_option maxRecDepth 20000 in
theorem lwi_wsL_law_r9 : ∀ w ∈ wsL_law_r9, w ∈ lw_tbl := fun w h => (goodIn_p wsL_law_r9 [1426, 664, 1525, 668, 672] (by decide +kernel) (by decide +kernel) w h).1
set_option maxRecDepth 20000 in
theorem lwi_wsL_law_r10 : ∀ w ∈ wsL_law_r10, w ∈ lw_tbl := fun w h => (goodIn_p wsL_law_r10 [675, 679, 683, 1529, 1533, 1536] (by decide +kernel) (by decide +kernel) w h).1
set_option maxRecDepth 20000 in
theorem lwi_wsL_law_r11 : ∀ w ∈ wsL_law_r11, w ∈ lw_tbl := fun w h => (goodIn_p wsL_law_r11 [687, 690, 693, 697, 1540, 1543] (by decide +kernel) (by decide +kernel) w h).1
set_option maxRecDepth 20000 in
theorem lwi_wsL_law_r12 : ∀ w ∈ wsL_law_r12, w ∈ lw_tbl := fun w h => (goodIn_p wsL_law_r12 [1546, 701, 706, 709, 712, 715, 1550] (by decide +kernel) (by decide +kernel) w h).1
set_option maxRecDepth 20000 in
theorem lwi_wsL_law_r13 : ∀ w ∈ wsL_law_r13, w ∈ lw_tbl := fun w h => (goodIn_p wsL_law_r13 [1554, 1558, 1562, 719] (by decide +kernel) (by decide +kernel) w h).1
set_option maxRecDepth 20000 in
theorem lwi_wsL_law_r14 : ∀ w ∈ wsL_law_r14, w ∈ lw_tbl := fun w h => (goodIn_p wsL_law_r14 [1567, 723, 1571, 727, 731] (by decide +kernel) (by decide +kernel) w h).1
set_option maxRecDepth 20000 in
theorem lwi_wsL_law_r15 : ∀ w ∈ wsL_law_r15, w ∈ lw_tbl := fun w h => (goodIn_p wsL_law_r15 [1575, 1579, 735, 739, 743] (by decide +kernel) (by decide +kernel) w h).1
set_option maxRecDepth 20000 in
theorem lwi_wsL_law_r16 : ∀ w ∈ wsL_law_r16, w ∈ lw_tbl := fun w h => (goodIn_p wsL_law_r16 [1583, 1587, 747, 1591, 752] (by decide +kernel) (by decide +kernel) w h).1
set_option maxRecDepth 20000 in
theorem lwi_wsL_law_r17 : ∀ w ∈ wsL_law_r17, w ∈ lw_tbl := fun w h => (goodIn_p wsL_law_r17 [1595, 756, 760, 1599, 764] (by decide +kernel) (by decide +kernel) w h).1
set_option maxRecDepth 20000 in
theorem lwi_wsL_law_r18 : ∀ w ∈ wsL_law_r18, w ∈ lw_tbl := fun w h => (goodIn_p wsL_law_r18 [768, 772, 776, 780, 1603, 1607] (by decide +kernel) (by decide +kernel) w h).1
set_option maxRecDepth 20000 in
theorem lwi_wsL_law_r19 : ∀ w ∈ wsL_law_r19, w ∈ lw_tbl := fun w h => (goodIn_p wsL_law_r19 [1611, 1615, 1619, 1623, 1627, 784] (by decide +kernel) (by decide +kernel) w h).1
set_option maxRecDepth 20000 in
theorem lwi_wsL_law_r20 : ∀ w ∈ wsL_law_r20, w ∈ lw_tbl := fun w h => (goodIn_p wsL_law_r20 [788, 792, 795, 799, 803] (by decide +kernel) (by decide +kernel) w h).1
set_option maxRecDepth 20000 in
theorem lwi_wsL_law_r21 : ∀ w ∈ wsL_law_r21, w ∈ lw_tbl := fun w h => (goodIn_p wsL_law_r21 [807, 810, 814, 817, 821, 1631] (by decide +kernel) (by decide +kernel) w h).1
set_option maxRecDepth 20000 in
theorem lwi_wsL_law_r22 : ∀ w ∈ wsL_law_r22, w ∈ lw_tbl := fun w h => (goodIn_p wsL_law_r22 [1635, 1639, 1643, 1647, 1651, 1655] (by decide +kernel) (by decide +kernel) w h).1
set_option maxRecDepth 20000 in
theorem lwi_wsL_law_r23 : ∀ w ∈ wsL_law_r23, w ∈ lw_tbl := fun w h => (goodIn_p wsL_law_r23 [1659, 825, 1663, 829, 833] (by decide +kernel) (by decide +kernel) w h).1
set_option maxRecDepth 20000 in
theorem lwi_wsL_law_r24 : ∀ w ∈ wsL_law_r24, w ∈ lw_tbl := fun w h => (goodIn_p wsL_law_r24 [837, 841, 844, 848, 852, 857] (by decide +kernel) (by decide +kernel) w h).1
set_option maxRecDepth 20000 in
theorem lwi_wsL_law_r25 : ∀ w ∈ wsL_law_r25, w ∈ lw_tbl := fun w h => (goodIn_p wsL_law_r25 [861, 864, 869, 872, 1667, 1671] (by decide +kernel) (by decide +kernel) w h).1
set_option maxRecDepth 20000 in
theorem lwi_wsL_law_r26 : ∀ w ∈ wsL_law_r26, w ∈ lw_tbl := fun w h => (goodIn_p wsL_law_r26 [1675, 1679, 1682, 1685, 1690, 921] (by decide +kernel) (by decide +kernel) w h).1
set_option maxRecDepth 20000 in
theorem lwi_wsL_law_r27 : ∀ w ∈ wsL_law_r27, w ∈ lw_tbl := fun w h => (goodIn_p wsL_law_r27 [925, 1694, 1698, 929, 1702, 933] (by decide +kernel) (by decide +kernel) w h).1
set_option maxRecDepth 20000 in
theorem lwi_wsL_law_r28 : ∀ w ∈ wsL_law_r28, w ∈ lw_tbl := fun w h => (goodIn_p wsL_law_r28 [937, 941, 945, 948] (by decide +kernel) (by decide +kernel) w h).1
set_option maxRecDepth 20000 in
theorem lwi_wsL_law_r29 : ∀ w ∈ wsL_law_r29, w ∈ lw_tbl := fun w h => (goodIn_p wsL_law_r29 [952, 956, 960, 965, 969] (by decide +kernel) (by decide +kernel) w h).1
set_option maxRecDepth 20000 in
theorem lwi_wsL_law_r30 : ∀ w ∈ wsL_law_r30, w ∈ lw_tbl := fun w h => (goodIn_p wsL_law_r30 [975, 979, 982, 985, 990] (by decide +kernel) (by decide +kernel) w h).1
set_option maxRecDepth 20000 in
theorem lwi_wsL_law_r31 : ∀ w ∈ wsL_law_r31, w ∈ lw_tbl := fun w h => (goodIn_p wsL_law_r31 [993, 996, 999, 1003, 1012, 1016] (by decide +kernel) (by decide +kernel) w h).1
set_option maxRecDepth 20000 in
theorem lwi_wsL_law_r32 : ∀ w ∈ wsL_law_r32, w ∈ lw_tbl := fun w h => (goodIn_p wsL_law_r32 [1020, 1024, 1029, 1033] (by decide +kernel) (by decide +kernel) w h).1
set_option maxRecDepth 20000 in
theorem lwi_wsL_law_r33 : ∀ w ∈ wsL_law_r33, w ∈ lw_tbl := fun w h => (goodIn_p wsL_law_r33 [1037, 1040, 1044, 1048, 1052] (by decide +kernel) (by decide +kernel) w h).1
set_option maxRecDepth 20000 in
theorem lwi_wsL_law_r34 : ∀ w ∈ wsL_law_r34, w ∈ lw_tbl := fun w h => (goodIn_p wsL_law_r34 [1055, 1059, 1064, 1068, 1072, 1075, 1079] (by decide +kernel) (by decide +kernel) w h).1
set_option maxRecDepth 20000 in
theorem lwi_wsL_law_r35 : ∀ w ∈ wsL_law_r35, w ∈ lw_tbl := fun w h => (goodIn_p wsL_law_r35 [1706, 1710, 1714] (by decide +kernel) (by decide +kernel) w h).1
set_option maxRecDepth 20000 in
theorem lwi_wsL_law_r36 : ∀ w ∈ wsL_law_r36, w ∈ lw_tbl := fun w h => (goodIn_p wsL_law_r36 [1718, 1721, 1725, 1729, 1733, 1736, 1739] (by decide +kernel) (by decide +kernel) w h).1
set_option maxRecDepth 20000 in
theorem lwi_wsL_law_r37 : ∀ w ∈ wsL_law_r37, w ∈ lw_tbl := fun w h => (goodIn_p wsL_law_r37 [1742, 1745, 1750, 1754, 1758, 1762] (by decide +kernel) (by decide +kernel) w h).1
set_option maxRecDepth 20000 in
theorem lwi_wsL_law_r38 : ∀ w ∈ wsL_law_r38, w ∈ lw_tbl := fun w h => (goodIn_p wsL_law_r38 [1766, 1770, 1774, 1778, 1782] (by decide +kernel) (by decide +kernel) w h).1
set_option maxRecDepth 20000 in
theorem lwi_wsL_law_r39 : ∀ w ∈ wsL_law_r39, w ∈ lw_tbl := fun w h => (goodIn_p wsL_law_r39 [1786, 1790, 1794, 1798, 1802, 1807] (by decide +kernel) (by decide +kernel) w h).1
set_option maxRecDepth 20000 in
theorem lwi_wsL_law_r40 : ∀ w ∈ wsL_law_r40, w ∈ lw_tbl := fun w h => (goodIn_p wsL_law_r40 [1811, 1084, 1815, 1088, 1092, 1819] (by decide +kernel) (by decide +kernel) w h).1
set_option maxRecDepth 20000 in
theorem lwi_wsL_law_r41 : ∀ w ∈ wsL_law_r41, w ∈ lw_tbl := fun w h => (goodIn_p wsL_law_r41 [1096, 892, 1823, 1827, 1101, 1105] (by decide +kernel) (by decide +kernel) w h).1
set_option maxRecDepth 20000 in
theorem lwi_wsL_law_r42 : ∀ w ∈ wsL_law_r42, w ∈ lw_tbl := fun w h => (goodIn_p wsL_law_r42 [1831, 1109, 903, 907, 911, 1114] (by decide +kernel) (by decide +kernel) w h).1
set_option maxRecDepth 20000 in
theorem lwi_wsL_law_r43 : ∀ w ∈ wsL_law_r43, w ∈ lw_tbl := fun w h => (goodIn_p wsL_law_r43 [1118, 1835, 1839, 1122, 1843] (by decide +kernel) (by decide +kernel) w h).1
set_option maxRecDepth 20000 in
theorem lwi_wsL_law_r44 : ∀ w ∈ wsL_law_r44, w ∈ lw_tbl := fun w h => (goodIn_p wsL_law_r44 [1127, 1131, 1135, 1139] (by decide +kernel) (by decide +kernel) w h).1
set_option maxRecDepth 20000 in
theorem lwi_wsL_law_r45 : ∀ w ∈ wsL_law_r45, w ∈ lw_tbl := fun w h => (goodIn_p wsL_law_r45 [1144, 1150, 1154, 1158] (by decide +kernel) (by decide +kernel) w h).1
set_option maxRecDepth 20000 in
theorem lwi_wsL_law_r46 : ∀ w ∈ wsL_law_r46, w ∈ lw_tbl := fun w h => (goodIn_p wsL_law_r46 [1162, 1167, 1175, 1179, 1182] (by decide +kernel) (by decide +kernel) w h).1
set_option maxRecDepth 20000 in
theorem lwi_wsL_law_r47 : ∀ w ∈ wsL_law_r47, w ∈ lw_tbl := fun w h => (goodIn_p wsL_law_r47 [1190, 1194, 1198, 1202] (by decide +kernel) (by decide +kernel) w h).1
set_option maxRecDepth 20000 in
theorem lwi_wsL_law_r48 : ∀ w ∈ wsL_law_r48, w ∈ lw_tbl := fun w h => (goodIn_p wsL_law_r48 [1207, 1212, 1216, 1220, 1224] (by decide +kernel) (by decide +kernel) w h).1
set_option maxRecDepth 20000 in
theorem lwi_wsL_law_r49 : ∀ w ∈ wsL_law_r49, w ∈ lw_tbl := fun w h => (goodIn_p wsL_law_r49 [1231, 1236, 1240, 1244, 1248] (by decide +kernel) (by decide +kernel) w h).1
set_option maxRecDepth 20000 in
theorem lwi_wsL_law_r50 : ∀ w ∈ wsL_law_r50, w ∈ lw_tbl := fun w h => (goodIn_p wsL_law_r50 [1253, 1258, 1847, 1851, 1855] (by decide +kernel) (by decide +kernel) w h).1
set_option maxRecDepth 20000 in
theorem lwi_wsL_law_r51 : ∀ w ∈ wsL_law_r51, w ∈ lw_tbl := fun w h => (goodIn_p wsL_law_r51 [1859, 1863, 1867, 1871, 1875, 1879] (by decide +kernel) (by decide +kernel) w h).1
set_option maxRecDepth 20000 in
theorem lwi_wsL_law_r52 : ∀ w ∈ wsL_law_r52, w ∈ lw_tbl := fun w h => (goodIn_p wsL_law_r52 [1883, 1887, 1891, 1895, 1899, 1903] (by decide +kernel) (by decide +kernel) w h).1
set_option maxRecDepth 20000 in
theorem lwi_wsL_law_r53 : ∀ w ∈ wsL_law_r53, w ∈ lw_tbl := fun w h => (goodIn_p wsL_law_r53 [1907, 1911, 1915, 1919, 1923, 1356] (by decide +kernel) (by decide +kernel) w h).1
set_option maxRecDepth 20000 in
theorem lwi_wsL_law_r54 : ∀ w ∈ wsL_law_r54, w ∈ lw_tbl := fun w h => (goodIn_p wsL_law_r54 [1362, 1927, 1367] (by decide +kernel) (by decide +kernel) w h).1
set_option maxRecDepth 20000 in
theorem lwi_wsL_law_r55 : ∀ w ∈ wsL_law_r55, w ∈ lw_tbl := fun w h => (goodIn_p wsL_law_r55 [1931, 1371, 1935, 1376] (by decide +kernel) (by decide +kernel) w h).1
set_option maxRecDepth 20000 in
theorem lwi_wsL_law_r56 : ∀ w ∈ wsL_law_r56, w ∈ lw_tbl := fun w h => (goodIn_p wsL_law_r56 [1939, 876, 1943, 880, 884, 888] (by decide +kernel) (by decide +kernel) w h).1
set_option maxRecDepth 20000 in
theorem lwi_wsL_law_r57 : ∀ w ∈ wsL_law_r57, w ∈ lw_tbl := fun w h => (goodIn_p wsL_law_r57 [896, 916, 1947, 1262, 1266] (by decide +kernel) (by decide +kernel) w h).1
set_option maxRecDepth 20000 in
theorem lwi_wsL_law_r58 : ∀ w ∈ wsL_law_r58, w ∈ lw_tbl := fun w h => (goodIn_p wsL_law_r58 [1271, 1276, 1282, 1287, 1291] (by decide +kernel) (by decide +kernel) w h).1
set_option maxRecDepth 20000 in
theorem lwi_wsL_law_r59 : ∀ w ∈ wsL_law_r59, w ∈ lw_tbl := fun w h => (goodIn_p wsL_law_r59 [1296, 1951, 1304, 1955, 1309] (by decide +kernel) (by decide +kernel) w h).1
set_option maxRecDepth 20000 in
theorem lwi_wsL_law_r60 : ∀ w ∈ wsL_law_r60, w ∈ lw_tbl := fun w h => (goodIn_p wsL_law_r60 [1313, 1959, 1963, 1317, 1321] (by decide +kernel) (by decide +kernel) w h).1
set_option maxRecDepth 20000 in
theorem lwi_wsL_law_r61 : ∀ w ∈ wsL_law_r61, w ∈ lw_tbl := fun w h => (goodIn_p wsL_law_r61 [1326, 1334] (by decide +kernel) (by decide +kernel) w h).1
set_option maxRecDepth 20000 in
theorem lwi_wsL_law_r62 : ∀ w ∈ wsL_law_r62, w ∈ lw_tbl := fun w h => (goodIn_p wsL_law_r62 [1340, 1348, 1352, 1967] (by decide +kernel) (by decide +kernel) w h).1
set_option maxRecDepth 20000 in
theorem lwi_wsL_law_r63 : ∀ w ∈ wsL_law_r63, w ∈ lw_tbl := fun w h => (goodIn_p wsL_law_r63 [1971, 1975, 1388, 1392, 1979] (by decide +kernel) (by decide +kernel) w h).1
set_option maxRecDepth 20000 in
theorem lwi_wsL_law_r64 : ∀ w ∈ wsL_law_r64, w ∈ lw_tbl := fun w h => (goodIn_p wsL_law_r64 [1983, 1396, 1400, 1987, 1404, 1408] (by decide +kernel) (by decide +kernel) w h).1
set_option maxRecDepth 20000 in
theorem lwi_wsL_law_r65 : ∀ w ∈ wsL_law_r65, w ∈ lw_tbl := fun w h => (goodIn_p wsL_law_r65 [1991, 1413, 1995, 1417, 1999, 1380] (by decide +kernel) (by decide +kernel) w h).1
set_option maxRecDepth 20000 in
theorem lwi_wsL_law_r66 : ∀ w ∈ wsL_law_r66, w ∈ lw_tbl := fun w h => (goodIn_p wsL_law_r66 [1383, 2003] (by decide +kernel) (by decide +kernel) w h).1
theorem wsL_law_in : ∀ w ∈ wsL_law, w ∈ lw_tbl := by
  show ∀ w ∈ (wsL_law_r1 ++ (wsL_law_r2 ++ (wsL_law_r3 ++ (wsL_law_r4 ++ (wsL_law_r5 ++ (wsL_law_r6 ++ (wsL_law_r7 ++ (wsL_law_r8 ++ (wsL_law_r9 ++ (wsL_law_r10 ++ (wsL_law_r11 ++ (wsL_law_r12 ++ (wsL_law_r13 ++ (wsL_law_r14 ++ (wsL_law_r15 ++ (wsL_law_r16 ++ (wsL_law_r17 ++ (wsL_law_r18 ++ (wsL_law_r19 ++ (wsL_law_r20 ++ (wsL_law_r21 ++ (wsL_law_r22 ++ (wsL_law_r23 ++ (wsL_law_r24 ++ (wsL_law_r25 ++ (wsL_law_r26 ++ (wsL_law_r27 ++ (wsL_law_r28 ++ (wsL_law_r29 ++ (wsL_law_r30 ++ (wsL_law_r31 ++ (wsL_law_r32 ++ (wsL_law_r33 ++ (wsL_law_r34 ++ (wsL_law_r35 ++ (wsL_law_r36 ++ (wsL_law_r37 ++ (wsL_law_r38 ++ (wsL_law_r39 ++ (wsL_law_r40 ++ (wsL_law_r41 ++ (wsL_law_r42 ++ (wsL_law_r43 ++ (wsL_law_r44 ++ (wsL_law_r45 ++ (wsL_law_r46 ++ (wsL_law_r47 ++ (wsL_law_r48 ++ (wsL_law_r49 ++ (wsL_law_r50 ++ (wsL_law_r51 ++ (wsL_law_r52 ++ (wsL_law_r53 ++ (wsL_law_r54 ++ (wsL_law_r55 ++ (wsL_law_r56 ++ (wsL_law_r57 ++ (wsL_law_r58 ++ (wsL_law_r59 ++ (wsL_law_r60 ++ (wsL_law_r61 ++ (wsL_law_r62 ++ (wsL_law_r63 ++ (wsL_law_r64 ++ (wsL_law_r65 ++ wsL_law_r66))))))))))))))))))))))))))))))))))))))))))))))))))))))))))))))))), w ∈ lw_tbl
  exact List.forall_mem_append.mpr ⟨lwi_wsL_law_r1, List.forall_mem_append.mpr ⟨lwi_wsL_law_r2, List.forall_mem_append.mpr ⟨lwi_wsL_law_r3, List.forall_mem_append.mpr ⟨lwi_wsL_law_r4, List.forall_mem_append.mpr ⟨lwi_wsL_law_r5, List.forall_mem_append.mpr ⟨lwi_wsL_law_r6, List.forall_mem_append.mpr ⟨lwi_wsL_law_r7, List.forall_mem_append.mpr ⟨lwi_wsL_law_r8, List.forall_mem_append.mpr ⟨lwi_wsL_law_r9, List.forall_mem_append.mpr ⟨lwi_wsL_law_r10, List.forall_mem_append.mpr ⟨lwi_wsL_law_r11, List.forall_mem_append.mpr ⟨lwi_wsL_law_r12, List.forall_mem_append.mpr ⟨lwi_wsL_law_r13, List.forall_mem_append.mpr ⟨lwi_wsL_law_r14, List.forall_mem_append.mpr ⟨lwi_wsL_law_r15, List.forall_mem_append.mpr ⟨lwi_wsL_law_r16, List.forall_mem_append.mpr ⟨lwi_wsL_law_r17, List.forall_mem_append.mpr ⟨lwi_wsL_law_r18, List.forall_mem_append.mpr ⟨lwi_wsL_law_r19, List.forall_mem_append.mpr ⟨lwi_wsL_law_r20, List.forall_mem_append.mpr ⟨lwi_wsL_law_r21, List.forall_mem_append.mpr ⟨lwi_wsL_law_r22, List.forall_mem_append.mpr ⟨lwi_wsL_law_r23, List.forall_mem_append.mpr ⟨lwi_wsL_law_r24, List.forall_mem_append.mpr ⟨lwi_wsL_law_r25, List.forall_mem_append.mpr ⟨lwi_wsL_law_r26, List.forall_mem_append.mpr ⟨lwi_wsL_law_r27, List.forall_mem_append.mpr ⟨lwi_wsL_law_r28, List.forall_mem_append.mpr ⟨lwi_wsL_law_r29, List.forall_mem_append.mpr ⟨lwi_wsL_law_r30, List.forall_mem_append.mpr ⟨lwi_wsL_law_r31, List.forall_mem_append.mpr ⟨lwi_wsL_law_r32, List.forall_mem_append.mpr ⟨lwi_wsL_law_r33, List.forall_mem_append.mpr ⟨lwi_wsL_law_r34, List.forall_mem_append.mpr ⟨lwi_wsL_law_r35, List.forall_mem_append.mpr ⟨lwi_wsL_law_r36, List.forall_mem_append.mpr ⟨lwi_wsL_law_r37, List.forall_mem_append.mpr ⟨lwi_wsL_law_r38, List.forall_mem_append.mpr ⟨lwi_wsL_law_r39, List.forall_mem_append.mpr ⟨lwi_wsL_law_r40, List.forall_mem_append.mpr ⟨lwi_wsL_law_r41, List.forall_mem_append.mpr ⟨lwi_wsL_law_r42, List.forall_mem_append.mpr ⟨lwi_wsL_law_r43, List.forall_mem_append.mpr ⟨lwi_wsL_law_r44, List.forall_mem_append.mpr ⟨lwi_wsL_law_r45, List.forall_mem_append.mpr ⟨lwi_wsL_law_r46, List.forall_mem_append.mpr ⟨lwi_wsL_law_r47, List.forall_mem_append.mpr ⟨lwi_wsL_law_r48, List.forall_mem_append.mpr ⟨lwi_wsL_law_r49, List.forall_mem_append.mpr ⟨lwi_wsL_law_r50, List.forall_mem_append.mpr ⟨lwi_wsL_law_r51, List.forall_mem_append.mpr ⟨lwi_wsL_law_r52, List.forall_mem_append.mpr ⟨lwi_wsL_law_r53, List.forall_mem_append.mpr ⟨lwi_wsL_law_r54, List.forall_mem_append.mpr ⟨lwi_wsL_law_r55, List.forall_mem_append.mpr ⟨lwi_wsL_law_r56, List.forall_mem_append.mpr ⟨lwi_wsL_law_r57, List.forall_mem_append.mpr ⟨lwi_wsL_law_r58, List.forall_mem_append.mpr ⟨lwi_wsL_law_r59, List.forall_mem_append.mpr ⟨lwi_wsL_law_r60, List.forall_mem_append.mpr ⟨lwi_wsL_law_r61, List.forall_mem_append.mpr ⟨lwi_wsL_law_r62, List.forall_mem_append.mpr ⟨lwi_wsL_law_r63, List.forall_mem_append.mpr ⟨lwi_wsL_law_r64, List.forall_mem_append.mpr ⟨lwi_wsL_law_r65, lwi_wsL_law_r66⟩⟩⟩⟩⟩⟩⟩⟩⟩⟩⟩⟩⟩⟩⟩⟩⟩⟩⟩⟩⟩⟩⟩⟩⟩⟩⟩⟩⟩⟩⟩⟩⟩⟩⟩⟩⟩⟩⟩⟩⟩⟩⟩⟩⟩⟩⟩⟩⟩⟩⟩⟩⟩⟩⟩⟩⟩⟩⟩⟩⟩⟩⟩⟩⟩
