theorem dX5_toNextOrder_0 : decode cX5_toNextOrder 0 = .ok (.iload_n 1, 1) := by decide +kernel
theorem dX5_toNextOrder_1 : decode cX5_toNextOrder 1 = .ok (.iconst 2, 1) := by decide +kernel
theorem dX5_toNextOrder_2 : decode cX5_toNextOrder 2 = .ok (.isub, 1) := by decide +kernel
theorem dX5_toNextOrder_3 : decode cX5_toNextOrder 3 = .ok (.istore_n 2, 1) := by decide +kernel
theorem dX5_toNextOrder_4 : decode cX5_toNextOrder 4 = .ok (.iload_n 2, 1) := by decide +kernel
theorem dX5_toNextOrder_5 : decode cX5_toNextOrder 5 = .ok (.ifCond .lt 26, 3) := by decide +kernel
theorem dX5_toNextOrder_31 : decode cX5_toNextOrder 31 = .ok (.iload_n 2, 1) := by decide +kernel
theorem dX5_toNextOrder_32 : decode cX5_toNextOrder 32 = .ok (.ifCond .ge 5, 3) := by decide +kernel
theorem dX5_toNextOrder_35 : decode cX5_toNextOrder 35 = .ok (.iconst 0, 1) := by decide +kernel
theorem dX5_toNextOrder_36 : decode cX5_toNextOrder 36 = .ok (.ireturn, 1) := by decide +kernel
theorem dX5_lineUp_0 : decode cX5_lineUp 0 = .ok (.aload_n 0, 1) := by decide +kernel
theorem dX5_lineUp_1 : decode cX5_lineUp 1 = .ok (.iconst 0, 1) := by decide +kernel
theorem tw_1464 : Cond.fieldLink RX5 146 "RingsUnder$RingOrders" "queued" "I" ∈ wsL_law := List.mem_of_getElem? (i := 1464) (by decide +kernel)
theorem dX5_lineUp_2 : decode cX5_lineUp 2 = .ok (.putfield 146, 3) := by decide +kernel
theorem dX5_lineUp_5 : decode cX5_lineUp 5 = .ok (.iconst 0, 1) := by decide +kernel
theorem dX5_lineUp_6 : decode cX5_lineUp 6 = .ok (.istore_n 3, 1) := by decide +kernel
theorem dX5_lineUp_7 : decode cX5_lineUp 7 = .ok (.iload_n 3, 1) := by decide +kernel
theorem dX5_lineUp_8 : decode cX5_lineUp 8 = .ok (.iload_n 2, 1) := by decide +kernel
theorem dX5_lineUp_9 : decode cX5_lineUp 9 = .ok (.if_icmp .ge 73, 3) := by decide +kernel
theorem dX5_lineUp_82 : decode cX5_lineUp 82 = .ok (.return_, 1) := by decide +kernel
theorem dX5_lacksOf_55 : decode cX5_lacksOf 55 = .ok (.iload 5, 2) := by decide +kernel
theorem dX5_lacksOf_57 : decode cX5_lacksOf 57 = .ok (.iload_n 3, 1) := by decide +kernel
theorem dX5_lacksOf_58 : decode cX5_lacksOf 58 = .ok (.if_icmp .ge 135, 3) := by decide +kernel
theorem dX5_lacksOf_61 : decode cX5_lacksOf 61 = .ok (.iload 4, 2) := by decide +kernel
theorem dX5_lacksOf_63 : decode cX5_lacksOf 63 = .ok (.aload_n 0, 1) := by decide +kernel
theorem tw_1441 : Cond.fieldLink RX5 53 "RingsUnder$RingOrders" "least" "I" ∈ wsL_law := List.mem_of_getElem? (i := 1441) (by decide +kernel)
theorem dX5_lacksOf_64 : decode cX5_lacksOf 64 = .ok (.getfield 53, 3) := by decide +kernel
theorem dX5_lacksOf_67 : decode cX5_lacksOf 67 = .ok (.if_icmp .ge 126, 3) := by decide +kernel
theorem dX5_lacksOf_70 : decode cX5_lacksOf 70 = .ok (.aload_n 1, 1) := by decide +kernel
theorem tw_1449 : Cond.fieldLink RX5 93 "RingsUnder$World" "clock" "I" ∈ wsL_law := List.mem_of_getElem? (i := 1449) (by decide +kernel)
theorem dX5_lacksOf_71 : decode cX5_lacksOf 71 = .ok (.getfield 93, 3) := by decide +kernel
theorem dX5_lacksOf_74 : decode cX5_lacksOf 74 = .ok (.iload 5, 2) := by decide +kernel
theorem dX5_lacksOf_76 : decode cX5_lacksOf 76 = .ok (.iadd, 1) := by decide +kernel
theorem dX5_lacksOf_77 : decode cX5_lacksOf 77 = .ok (.istore 6, 2) := by decide +kernel
theorem dX5_lacksOf_79 : decode cX5_lacksOf 79 = .ok (.aload_n 2, 1) := by decide +kernel
theorem tw_1438 : Cond.fieldLink RX5 31 "RingsUnder$World" "land" "LRingsUnder$Land;" ∈ wsL_law := List.mem_of_getElem? (i := 1438) (by decide +kernel)
theorem dX5_lacksOf_80 : decode cX5_lacksOf 80 = .ok (.getfield 31, 3) := by decide +kernel
theorem tw_1458 : Cond.fieldLink RX5 102 "RingsUnder$Land" "wells" "LRingsUnder$Wells;" ∈ wsL_law := List.mem_of_getElem? (i := 1458) (by decide +kernel)
theorem dX5_lacksOf_83 : decode cX5_lacksOf 83 = .ok (.getfield 102, 3) := by decide +kernel
theorem dX5_lacksOf_86 : decode cX5_lacksOf 86 = .ok (.aload_n 2, 1) := by decide +kernel
theorem dX5_lacksOf_87 : decode cX5_lacksOf 87 = .ok (.getfield 31, 3) := by decide +kernel
theorem tw_1460 : Cond.fieldLink RX5 119 "RingsUnder$Land" "cells" "I" ∈ wsL_law := List.mem_of_getElem? (i := 1460) (by decide +kernel)
theorem dX5_lacksOf_90 : decode cX5_lacksOf 90 = .ok (.getfield 119, 3) := by decide +kernel
theorem dX5_lacksOf_93 : decode cX5_lacksOf 93 = .ok (.aload_n 0, 1) := by decide +kernel
theorem tw_145 : Cond.fieldLink RX5 21 "RingsUnder$RingOrders" "dry" "[J" ∈ wsL_law := List.mem_of_getElem? (i := 145) (by decide +kernel)
theorem dX5_lacksOf_94 : decode cX5_lacksOf 94 = .ok (.getfield 21, 3) := by decide +kernel
theorem dX5_lacksOf_97 : decode cX5_lacksOf 97 = .ok (.iload 5, 2) := by decide +kernel
theorem dX5_lacksOf_99 : decode cX5_lacksOf 99 = .ok (.laload, 1) := by decide +kernel
theorem dX5_lacksOf_100 : decode cX5_lacksOf 100 = .ok (.aload_n 1, 1) := by decide +kernel
theorem tw_1461 : Cond.fieldLink RX5 122 "RingsUnder$World" "seas" "LRingsUnder$Seas;" ∈ wsL_law := List.mem_of_getElem? (i := 1461) (by decide +kernel)
theorem dX5_lacksOf_101 : decode cX5_lacksOf 101 = .ok (.getfield 122, 3) := by decide +kernel
theorem tw_1462 : Cond.fieldLink RX5 126 "RingsUnder$Seas" "rain" "[I" ∈ wsL_law := List.mem_of_getElem? (i := 1462) (by decide +kernel)
theorem dX5_lacksOf_104 : decode cX5_lacksOf 104 = .ok (.getfield 126, 3) := by decide +kernel
theorem dX5_lacksOf_107 : decode cX5_lacksOf 107 = .ok (.iload 6, 2) := by decide +kernel
theorem dX5_lacksOf_109 : decode cX5_lacksOf 109 = .ok (.bipush 12, 2) := by decide +kernel
theorem dX5_lacksOf_111 : decode cX5_lacksOf 111 = .ok (.irem, 1) := by decide +kernel
theorem dX5_lacksOf_112 : decode cX5_lacksOf 112 = .ok (.iaload, 1) := by decide +kernel
theorem tw_1471 : Cond.methodLink RX5 131 yX9_fillUp ∈ wsL_law := List.mem_of_getElem? (i := 1471) (by decide +kernel)
theorem dX5_lacksOf_113 : decode cX5_lacksOf 113 = .ok (.invokevirtual 131, 3) := by decide +kernel
theorem dX5_lacksOf_116 : decode cX5_lacksOf 116 = .ok (.iload 4, 2) := by decide +kernel
theorem dX5_lacksOf_118 : decode cX5_lacksOf 118 = .ok (.aload_n 2, 1) := by decide +kernel
theorem tw_1446 : Cond.fieldLink RX5 68 "RingsUnder$World" "folk" "LRingsUnder$Folk;" ∈ wsL_law := List.mem_of_getElem? (i := 1446) (by decide +kernel)
theorem dX5_lacksOf_119 : decode cX5_lacksOf 119 = .ok (.getfield 68, 3) := by decide +kernel
theorem dX5_lacksOf_122 : decode cX5_lacksOf 122 = .ok (.aload_n 2, 1) := by decide +kernel
theorem dX5_lacksOf_123 : decode cX5_lacksOf 123 = .ok (.getfield 31, 3) := by decide +kernel
theorem tw_1472 : Cond.methodLink RX5 135 yX0_drink ∈ wsL_law := List.mem_of_getElem? (i := 1472) (by decide +kernel)
theorem dX5_lacksOf_126 : decode cX5_lacksOf 126 = .ok (.invokevirtual 135, 3) := by decide +kernel
theorem dX5_lacksOf_129 : decode cX5_lacksOf 129 = .ok (.iadd, 1) := by decide +kernel
theorem dX5_lacksOf_130 : decode cX5_lacksOf 130 = .ok (.istore 4, 2) := by decide +kernel
theorem dX5_lacksOf_132 : decode cX5_lacksOf 132 = .ok (.iload 4, 2) := by decide +kernel
theorem dX5_lacksOf_134 : decode cX5_lacksOf 134 = .ok (.aload_n 2, 1) := by decide +kernel
theorem dX5_lacksOf_135 : decode cX5_lacksOf 135 = .ok (.getfield 68, 3) := by decide +kernel
theorem dX5_lacksOf_138 : decode cX5_lacksOf 138 = .ok (.aload_n 0, 1) := by decide +kernel
theorem tw_146 : Cond.fieldLink RX5 25 "RingsUnder$RingOrders" "beds" "[I" ∈ wsL_law := List.mem_of_getElem? (i := 146) (by decide +kernel)
theorem dX5_lacksOf_139 : decode cX5_lacksOf 139 = .ok (.getfield 25, 3) := by decide +kernel
theorem dX5_lacksOf_142 : decode cX5_lacksOf 142 = .ok (.iload 5, 2) := by decide +kernel
theorem dX5_lacksOf_144 : decode cX5_lacksOf 144 = .ok (.iconst 5, 1) := by decide +kernel
theorem dX5_lacksOf_145 : decode cX5_lacksOf 145 = .ok (.imul, 1) := by decide +kernel
theorem tw_1473 : Cond.methodLink RX5 139 yX0_sleep ∈ wsL_law := List.mem_of_getElem? (i := 1473) (by decide +kernel)
theorem dX5_lacksOf_146 : decode cX5_lacksOf 146 = .ok (.invokevirtual 139, 3) := by decide +kernel
theorem dX5_lacksOf_149 : decode cX5_lacksOf 149 = .ok (.iadd, 1) := by decide +kernel
theorem dX5_lacksOf_150 : decode cX5_lacksOf 150 = .ok (.istore 4, 2) := by decide +kernel
theorem dX5_lacksOf_152 : decode cX5_lacksOf 152 = .ok (.aload_n 1, 1) := by decide +kernel
theorem tw_1463 : Cond.fieldLink RX5 143 "RingsUnder$World" "boats" "I" ∈ wsL_law := List.mem_of_getElem? (i := 1463) (by decide +kernel)
theorem dX5_lacksOf_153 : decode cX5_lacksOf 153 = .ok (.getfield 143, 3) := by decide +kernel
theorem dX5_lacksOf_156 : decode cX5_lacksOf 156 = .ok (.ifCond .le 31, 3) := by decide +kernel
theorem dX5_lacksOf_187 : decode cX5_lacksOf 187 = .ok (.iinc 5 1, 3) := by decide +kernel
theorem dX5_lacksOf_190 : decode cX5_lacksOf 190 = .ok (.goto (-135), 3) := by decide +kernel
theorem dX5_lacksOf_0 : decode cX5_lacksOf 0 = .ok (.aload_n 2, 1) := by decide +kernel
theorem dX5_lacksOf_1 : decode cX5_lacksOf 1 = .ok (.getfield 31, 3) := by decide +kernel
theorem dX5_lacksOf_4 : decode cX5_lacksOf 4 = .ok (.getfield 102, 3) := by decide +kernel
theorem dX5_lacksOf_7 : decode cX5_lacksOf 7 = .ok (.aload_n 1, 1) := by decide +kernel
theorem dX5_lacksOf_8 : decode cX5_lacksOf 8 = .ok (.getfield 31, 3) := by decide +kernel
theorem dX5_lacksOf_11 : decode cX5_lacksOf 11 = .ok (.getfield 102, 3) := by decide +kernel
theorem tw_1465 : Cond.methodLink RX5 106 yX9_copyFrom ∈ wsL_law := List.mem_of_getElem? (i := 1465) (by decide +kernel)
theorem dX5_lacksOf_14 : decode cX5_lacksOf 14 = .ok (.invokevirtual 106, 3) := by decide +kernel
theorem dX5_lacksOf_17 : decode cX5_lacksOf 17 = .ok (.aload_n 1, 1) := by decide +kernel
theorem dX5_lacksOf_18 : decode cX5_lacksOf 18 = .ok (.getfield 68, 3) := by decide +kernel
theorem tw_1459 : Cond.fieldLink RX5 112 "RingsUnder$Folk" "place" "[I" ∈ wsL_law := List.mem_of_getElem? (i := 1459) (by decide +kernel)
theorem dX5_lacksOf_21 : decode cX5_lacksOf 21 = .ok (.getfield 112, 3) := by decide +kernel
theorem dX5_lacksOf_24 : decode cX5_lacksOf 24 = .ok (.aload_n 2, 1) := by decide +kernel
theorem dX5_lacksOf_25 : decode cX5_lacksOf 25 = .ok (.getfield 68, 3) := by decide +kernel
theorem dX5_lacksOf_28 : decode cX5_lacksOf 28 = .ok (.getfield 112, 3) := by decide +kernel
theorem dX5_lacksOf_31 : decode cX5_lacksOf 31 = .ok (.invokestatic 60, 3) := by decide +kernel
theorem dX5_lacksOf_34 : decode cX5_lacksOf 34 = .ok (.aload_n 0, 1) := by decide +kernel
theorem dX5_lacksOf_35 : decode cX5_lacksOf 35 = .ok (.aload_n 1, 1) := by decide +kernel
theorem dX5_lacksOf_36 : decode cX5_lacksOf 36 = .ok (.getfield 68, 3) := by decide +kernel
theorem dX5_lacksOf_39 : decode cX5_lacksOf 39 = .ok (.aload_n 1, 1) := by decide +kernel
theorem dX5_lacksOf_40 : decode cX5_lacksOf 40 = .ok (.getfield 31, 3) := by decide +kernel
theorem tw_1439 : Cond.fieldLink RX5 37 "RingsUnder$Land" "rings" "I" ∈ wsL_law := List.mem_of_getElem? (i := 1439) (by decide +kernel)
theorem dX5_lacksOf_43 : decode cX5_lacksOf 43 = .ok (.getfield 37, 3) := by decide +kernel
theorem tw_1466 : Cond.methodLink RX5 115 yX5_lineUp ∈ wsL_law := List.mem_of_getElem? (i := 1466) (by decide +kernel)
theorem tw_1467 : Cond.instanceMethod yX5_lineUp ∈ wsL_law := List.mem_of_getElem? (i := 1467) (by decide +kernel)
theorem tw_1468 : Cond.selects RX5 yX5_lineUp yX5_lineUp ∈ wsL_law := List.mem_of_getElem? (i := 1468) (by decide +kernel)
theorem tw_21 : Cond.initialized RX5 ∈ wsL_law := List.mem_of_getElem? (i := 21) (by decide +kernel)
theorem tw_1469 : Cond.code yX5_lineUp cX5_lineUp 5 none ∈ wsL_law := List.mem_of_getElem? (i := 1469) (by decide +kernel)
theorem dX5_lacksOf_46 : decode cX5_lacksOf 46 = .ok (.invokevirtual 115, 3) := by decide +kernel
theorem dX5_lacksOf_49 : decode cX5_lacksOf 49 = .ok (.iconst 0, 1) := by decide +kernel
theorem dX5_lacksOf_50 : decode cX5_lacksOf 50 = .ok (.istore 4, 2) := by decide +kernel
theorem dX5_lacksOf_52 : decode cX5_lacksOf 52 = .ok (.iconst 0, 1) := by decide +kernel
theorem dX5_lacksOf_53 : decode cX5_lacksOf 53 = .ok (.istore 5, 2) := by decide +kernel
theorem dX5_lacksOf_193 : decode cX5_lacksOf 193 = .ok (.iload 4, 2) := by decide +kernel
theorem dX5_lacksOf_195 : decode cX5_lacksOf 195 = .ok (.ireturn, 1) := by decide +kernel
theorem dX5_foresee_12 : decode cX5_foresee 12 = .ok (.iload 6, 2) := by decide +kernel
theorem dX5_foresee_14 : decode cX5_foresee 14 = .ok (.iload_n 3, 1) := by decide +kernel
theorem dX5_foresee_15 : decode cX5_foresee 15 = .ok (.if_icmp .ge 78, 3) := by decide +kernel
theorem dX5_foresee_18 : decode cX5_foresee 18 = .ok (.aload_n 1, 1) := by decide +kernel
theorem dX5_foresee_19 : decode cX5_foresee 19 = .ok (.iload_n 2, 1) := by decide +kernel
theorem tw_1451 : Cond.methodLink RX5 78 yX10_nature ∈ wsL_law := List.mem_of_getElem? (i := 1451) (by decide +kernel)
theorem dX5_foresee_20 : decode cX5_foresee 20 = .ok (.invokevirtual 78, 3) := by decide +kernel
theorem dX5_foresee_23 : decode cX5_foresee 23 = .ok (.aload_n 0, 1) := by decide +kernel
theorem dX5_foresee_24 : decode cX5_foresee 24 = .ok (.getfield 21, 3) := by decide +kernel
theorem dX5_foresee_27 : decode cX5_foresee 27 = .ok (.iload 6, 2) := by decide +kernel
theorem dX5_foresee_29 : decode cX5_foresee 29 = .ok (.aload_n 1, 1) := by decide +kernel
theorem dX5_foresee_30 : decode cX5_foresee 30 = .ok (.getfield 31, 3) := by decide +kernel
theorem tw_1447 : Cond.fieldLink RX5 82 "RingsUnder$Land" "dry" "J" ∈ wsL_law := List.mem_of_getElem? (i := 1447) (by decide +kernel)
theorem dX5_foresee_33 : decode cX5_foresee 33 = .ok (.getfield 82, 3) := by decide +kernel
theorem dX5_foresee_36 : decode cX5_foresee 36 = .ok (.lastore, 1) := by decide +kernel
theorem dX5_foresee_37 : decode cX5_foresee 37 = .ok (.aload_n 1, 1) := by decide +kernel
theorem dX5_foresee_38 : decode cX5_foresee 38 = .ok (.getfield 31, 3) := by decide +kernel
theorem dX5_foresee_41 : decode cX5_foresee 41 = .ok (.aload_n 0, 1) := by decide +kernel
theorem dX5_foresee_42 : decode cX5_foresee 42 = .ok (.getfield 25, 3) := by decide +kernel
theorem dX5_foresee_45 : decode cX5_foresee 45 = .ok (.iload 6, 2) := by decide +kernel
theorem dX5_foresee_47 : decode cX5_foresee 47 = .ok (.iconst 5, 1) := by decide +kernel
theorem dX5_foresee_48 : decode cX5_foresee 48 = .ok (.imul, 1) := by decide +kernel
theorem tw_1452 : Cond.methodLink RX5 85 yX2_countBeds ∈ wsL_law := List.mem_of_getElem? (i := 1452) (by decide +kernel)
theorem dX5_foresee_49 : decode cX5_foresee 49 = .ok (.invokevirtual 85, 3) := by decide +kernel
theorem dX5_foresee_52 : decode cX5_foresee 52 = .ok (.aload_n 0, 1) := by decide +kernel
theorem tw_147 : Cond.fieldLink RX5 28 "RingsUnder$RingOrders" "may" "[J" ∈ wsL_law := List.mem_of_getElem? (i := 147) (by decide +kernel)
theorem dX5_foresee_53 : decode cX5_foresee 53 = .ok (.getfield 28, 3) := by decide +kernel
theorem dX5_foresee_56 : decode cX5_foresee 56 = .ok (.iload 6, 2) := by decide +kernel
theorem dX5_foresee_58 : decode cX5_foresee 58 = .ok (.aload_n 1, 1) := by decide +kernel
theorem tw_1448 : Cond.fieldLink RX5 89 "RingsUnder$World" "law" "LRingsUnder$Law;" ∈ wsL_law := List.mem_of_getElem? (i := 1448) (by decide +kernel)
theorem dX5_foresee_59 : decode cX5_foresee 59 = .ok (.getfield 89, 3) := by decide +kernel
theorem dX5_foresee_62 : decode cX5_foresee 62 = .ok (.iconst 2, 1) := by decide +kernel
theorem dX5_foresee_63 : decode cX5_foresee 63 = .ok (.aload_n 1, 1) := by decide +kernel
theorem dX5_foresee_64 : decode cX5_foresee 64 = .ok (.getfield 93, 3) := by decide +kernel
theorem dX5_foresee_67 : decode cX5_foresee 67 = .ok (.aload_n 1, 1) := by decide +kernel
theorem dX5_foresee_68 : decode cX5_foresee 68 = .ok (.getfield 68, 3) := by decide +kernel
theorem dX5_foresee_71 : decode cX5_foresee 71 = .ok (.lload 4, 2) := by decide +kernel
theorem tw_1453 : Cond.methodLink RX5 96 yX3_whoIsSo ∈ wsL_law := List.mem_of_getElem? (i := 1453) (by decide +kernel)
theorem dX5_foresee_73 : decode cX5_foresee 73 = .ok (.invokevirtual 96, 3) := by decide +kernel
theorem dX5_foresee_76 : decode cX5_foresee 76 = .ok (.lastore, 1) := by decide +kernel
theorem dX5_foresee_77 : decode cX5_foresee 77 = .ok (.aload_n 1, 1) := by decide +kernel
theorem dX5_foresee_78 : decode cX5_foresee 78 = .ok (.dup, 1) := by decide +kernel
theorem dX5_foresee_79 : decode cX5_foresee 79 = .ok (.getfield 93, 3) := by decide +kernel
theorem dX5_foresee_82 : decode cX5_foresee 82 = .ok (.iconst 1, 1) := by decide +kernel
theorem dX5_foresee_83 : decode cX5_foresee 83 = .ok (.iadd, 1) := by decide +kernel
theorem dX5_foresee_84 : decode cX5_foresee 84 = .ok (.putfield 93, 3) := by decide +kernel
theorem dX5_foresee_87 : decode cX5_foresee 87 = .ok (.iinc 6 1, 3) := by decide +kernel
theorem dX5_foresee_90 : decode cX5_foresee 90 = .ok (.goto (-78), 3) := by decide +kernel
theorem dX5_foresee_0 : decode cX5_foresee 0 = .ok (.aload_n 1, 1) := by decide +kernel
theorem dX5_foresee_1 : decode cX5_foresee 1 = .ok (.getfield 68, 3) := by decide +kernel
theorem tw_1450 : Cond.methodLink RX5 72 yX0_onRings ∈ wsL_law := List.mem_of_getElem? (i := 1450) (by decide +kernel)
theorem tw_1163 : Cond.instanceMethod yX0_onRings ∈ wsL_law := List.mem_of_getElem? (i := 1163) (by decide +kernel)
theorem tw_1164 : Cond.selects RX0 yX0_onRings yX0_onRings ∈ wsL_law := List.mem_of_getElem? (i := 1164) (by decide +kernel)
theorem tw_1165 : Cond.code yX0_onRings cX0_onRings 4 (some .long) ∈ wsL_law := List.mem_of_getElem? (i := 1165) (by decide +kernel)
theorem dX5_foresee_4 : decode cX5_foresee 4 = .ok (.invokevirtual 72, 3) := by decide +kernel
theorem dX5_foresee_7 : decode cX5_foresee 7 = .ok (.lstore 4, 2) := by decide +kernel
theorem dX5_foresee_9 : decode cX5_foresee 9 = .ok (.iconst 0, 1) := by decide +kernel
theorem dX5_foresee_10 : decode cX5_foresee 10 = .ok (.istore 6, 2) := by decide +kernel
theorem dX5_foresee_93 : decode cX5_foresee 93 = .ok (.return_, 1) := by decide +kernel
theorem dX5_seek_0 : decode cX5_seek 0 = .ok (.aload_n 1, 1) := by decide +kernel
theorem dX5_seek_1 : decode cX5_seek 1 = .ok (.getfield 31, 3) := by decide +kernel
theorem dX5_seek_4 : decode cX5_seek 4 = .ok (.getfield 37, 3) := by decide +kernel
theorem dX5_seek_7 : decode cX5_seek 7 = .ok (.istore 5, 2) := by decide +kernel
theorem dX5_seek_9 : decode cX5_seek 9 = .ok (.aload_n 0, 1) := by decide +kernel
theorem dX5_seek_10 : decode cX5_seek 10 = .ok (.aload_n 2, 1) := by decide +kernel
theorem dX5_seek_11 : decode cX5_seek 11 = .ok (.iload_n 3, 1) := by decide +kernel
theorem dX5_seek_12 : decode cX5_seek 12 = .ok (.iload 4, 2) := by decide +kernel
theorem dX5_seek_14 : decode cX5_seek 14 = .ok (.bipush 12, 2) := by decide +kernel
theorem tw_1440 : Cond.methodLink RX5 43 Lib.Math.min.name ∈ wsL_law := List.mem_of_getElem? (i := 1440) (by decide +kernel)
theorem dX5_seek_16 : decode cX5_seek 16 = .ok (.invokestatic 43, 3) := by decide +kernel
theorem tw_1442 : Cond.methodLink RX5 49 yX5_foresee ∈ wsL_law := List.mem_of_getElem? (i := 1442) (by decide +kernel)
theorem tw_1443 : Cond.instanceMethod yX5_foresee ∈ wsL_law := List.mem_of_getElem? (i := 1443) (by decide +kernel)
theorem tw_1444 : Cond.selects RX5 yX5_foresee yX5_foresee ∈ wsL_law := List.mem_of_getElem? (i := 1444) (by decide +kernel)
theorem tw_1445 : Cond.code yX5_foresee cX5_foresee 7 none ∈ wsL_law := List.mem_of_getElem? (i := 1445) (by decide +kernel)
theorem dX5_seek_19 : decode cX5_seek 19 = .ok (.invokevirtual 49, 3) := by decide +kernel
theorem dX5_seek_22 : decode cX5_seek 22 = .ok (.iconst 0, 1) := by decide +kernel
theorem dX5_seek_23 : decode cX5_seek 23 = .ok (.istore 6, 2) := by decide +kernel
theorem dX5_seek_25 : decode cX5_seek 25 = .ok (.iload 6, 2) := by decide +kernel
theorem dX5_seek_27 : decode cX5_seek 27 = .ok (.iload 5, 2) := by decide +kernel
theorem dX5_seek_29 : decode cX5_seek 29 = .ok (.if_icmp .ge 18, 3) := by decide +kernel
theorem dX5_seek_47 : decode cX5_seek 47 = .ok (.aload_n 0, 1) := by decide +kernel
theorem dX5_seek_48 : decode cX5_seek 48 = .ok (.sipush 961, 3) := by decide +kernel
theorem dX5_seek_51 : decode cX5_seek 51 = .ok (.putfield 53, 3) := by decide +kernel
theorem dX5_seek_54 : decode cX5_seek 54 = .ok (.iconst 1, 1) := by decide +kernel
theorem dX5_seek_55 : decode cX5_seek 55 = .ok (.istore 6, 2) := by decide +kernel
theorem dX5_seek_57 : decode cX5_seek 57 = .ok (.iconst 0, 1) := by decide +kernel
theorem dX5_seek_58 : decode cX5_seek 58 = .ok (.istore 7, 2) := by decide +kernel
theorem dX5_seek_60 : decode cX5_seek 60 = .ok (.iload 7, 2) := by decide +kernel
theorem dX5_seek_62 : decode cX5_seek 62 = .ok (.bipush 120, 2) := by decide +kernel
theorem dX5_seek_64 : decode cX5_seek 64 = .ok (.if_icmp .ge 63, 3) := by decide +kernel
theorem dX5_seek_67 : decode cX5_seek 67 = .ok (.iload 6, 2) := by decide +kernel
theorem dX5_seek_69 : decode cX5_seek 69 = .ok (.ifCond .eq 58, 3) := by decide +kernel
theorem dX5_seek_72 : decode cX5_seek 72 = .ok (.aload_n 0, 1) := by decide +kernel
theorem dX5_seek_73 : decode cX5_seek 73 = .ok (.aload_n 1, 1) := by decide +kernel
theorem dX5_seek_74 : decode cX5_seek 74 = .ok (.aload_n 2, 1) := by decide +kernel
theorem dX5_seek_75 : decode cX5_seek 75 = .ok (.iload 4, 2) := by decide +kernel
theorem dX5_seek_77 : decode cX5_seek 77 = .ok (.bipush 12, 2) := by decide +kernel
theorem dX5_seek_79 : decode cX5_seek 79 = .ok (.invokestatic 43, 3) := by decide +kernel
theorem tw_1454 : Cond.methodLink RX5 56 yX5_lacksOf ∈ wsL_law := List.mem_of_getElem? (i := 1454) (by decide +kernel)
theorem tw_1455 : Cond.instanceMethod yX5_lacksOf ∈ wsL_law := List.mem_of_getElem? (i := 1455) (by decide +kernel)
theorem tw_1456 : Cond.selects RX5 yX5_lacksOf yX5_lacksOf ∈ wsL_law := List.mem_of_getElem? (i := 1456) (by decide +kernel)
theorem tw_1457 : Cond.code yX5_lacksOf cX5_lacksOf 7 (some .int) ∈ wsL_law := List.mem_of_getElem? (i := 1457) (by decide +kernel)
theorem dX5_seek_82 : decode cX5_seek 82 = .ok (.invokevirtual 56, 3) := by decide +kernel
theorem dX5_seek_85 : decode cX5_seek 85 = .ok (.istore 8, 2) := by decide +kernel
theorem dX5_seek_87 : decode cX5_seek 87 = .ok (.iload 8, 2) := by decide +kernel
theorem dX5_seek_89 : decode cX5_seek 89 = .ok (.aload_n 0, 1) := by decide +kernel
theorem dX5_seek_90 : decode cX5_seek 90 = .ok (.getfield 53, 3) := by decide +kernel
theorem dX5_seek_93 : decode cX5_seek 93 = .ok (.if_icmp .ge 20, 3) := by decide +kernel
theorem dX5_seek_96 : decode cX5_seek 96 = .ok (.aload_n 0, 1) := by decide +kernel
theorem dX5_seek_97 : decode cX5_seek 97 = .ok (.iload 8, 2) := by decide +kernel
theorem dX5_seek_99 : decode cX5_seek 99 = .ok (.putfield 53, 3) := by decide +kernel
theorem dX5_seek_102 : decode cX5_seek 102 = .ok (.aload_n 0, 1) := by decide +kernel
theorem tw_143 : Cond.fieldLink RX5 15 "RingsUnder$RingOrders" "order" "[I" ∈ wsL_law := List.mem_of_getElem? (i := 143) (by decide +kernel)
theorem dX5_seek_103 : decode cX5_seek 103 = .ok (.getfield 15, 3) := by decide +kernel
theorem dX5_seek_106 : decode cX5_seek 106 = .ok (.aload_n 0, 1) := by decide +kernel
theorem tw_142 : Cond.fieldLink RX5 9 "RingsUnder$RingOrders" "best" "[I" ∈ wsL_law := List.mem_of_getElem? (i := 142) (by decide +kernel)
theorem dX5_seek_107 : decode cX5_seek 107 = .ok (.getfield 9, 3) := by decide +kernel
theorem dX5_seek_110 : decode cX5_seek 110 = .ok (.invokestatic 60, 3) := by decide +kernel
theorem dX5_seek_113 : decode cX5_seek 113 = .ok (.aload_n 0, 1) := by decide +kernel
theorem dX5_seek_114 : decode cX5_seek 114 = .ok (.iload 5, 2) := by decide +kernel
theorem tw_1475 : Cond.methodLink RX5 64 yX5_toNextOrder ∈ wsL_law := List.mem_of_getElem? (i := 1475) (by decide +kernel)
theorem tw_1476 : Cond.instanceMethod yX5_toNextOrder ∈ wsL_law := List.mem_of_getElem? (i := 1476) (by decide +kernel)
theorem tw_1477 : Cond.selects RX5 yX5_toNextOrder yX5_toNextOrder ∈ wsL_law := List.mem_of_getElem? (i := 1477) (by decide +kernel)
theorem tw_1478 : Cond.code yX5_toNextOrder cX5_toNextOrder 6 (some .boolean) ∈ wsL_law := List.mem_of_getElem? (i := 1478) (by decide +kernel)
theorem dX5_seek_116 : decode cX5_seek 116 = .ok (.invokevirtual 64, 3) := by decide +kernel
theorem dX5_seek_119 : decode cX5_seek 119 = .ok (.istore 6, 2) := by decide +kernel
theorem dX5_seek_121 : decode cX5_seek 121 = .ok (.iinc 7 1, 3) := by decide +kernel
theorem dX5_seek_124 : decode cX5_seek 124 = .ok (.goto (-64), 3) := by decide +kernel
theorem dX5_seek_127 : decode cX5_seek 127 = .ok (.return_, 1) := by decide +kernel
theorem dX11_order_0 : decode cX11_order 0 = .ok (.aload_n 0, 1) := by decide +kernel
theorem dX11_order_1 : decode cX11_order 1 = .ok (.iload_n 1, 1) := by decide +kernel
theorem dX11_order_2 : decode cX11_order 2 = .ok (.iload_n 2, 1) := by decide +kernel
theorem dX11_order_3 : decode cX11_order 3 = .ok (.bipush 12, 2) := by decide +kernel
theorem dX11_order_5 : decode cX11_order 5 = .ok (.invokevirtual 260, 3) := by decide +kernel
theorem dX11_order_8 : decode cX11_order 8 = .ok (.ifCond .eq 27, 3) := by decide +kernel
theorem dX11_order_11 : decode cX11_order 11 = .ok (.iload_n 3, 1) := by decide +kernel
theorem dX11_order_12 : decode cX11_order 12 = .ok (.iconst (-1), 1) := by decide +kernel
theorem dX11_order_13 : decode cX11_order 13 = .ok (.aload_n 0, 1) := by decide +kernel
theorem dX11_order_14 : decode cX11_order 14 = .ok (.getfield 10, 3) := by decide +kernel
theorem dX11_order_17 : decode cX11_order 17 = .ok (.getfield 36, 3) := by decide +kernel
theorem dX11_order_20 : decode cX11_order 20 = .ok (.getfield 40, 3) := by decide +kernel
theorem dX11_order_23 : decode cX11_order 23 = .ok (.iconst 1, 1) := by decide +kernel
theorem dX11_order_24 : decode cX11_order 24 = .ok (.isub, 1) := by decide +kernel
theorem dX11_order_25 : decode cX11_order 25 = .ok (.invokestatic 50, 3) := by decide +kernel
theorem dX11_order_28 : decode cX11_order 28 = .ok (.ifCond .eq 7, 3) := by decide +kernel
theorem dX11_order_31 : decode cX11_order 31 = .ok (.iconst 1, 1) := by decide +kernel
theorem dX11_order_32 : decode cX11_order 32 = .ok (.goto 4, 3) := by decide +kernel
theorem dX11_order_36 : decode cX11_order 36 = .ok (.istore 4, 2) := by decide +kernel
theorem dX11_order_38 : decode cX11_order 38 = .ok (.iload 4, 2) := by decide +kernel
theorem dX11_order_40 : decode cX11_order 40 = .ok (.ifCond .ne 5, 3) := by decide +kernel
theorem dX11_order_45 : decode cX11_order 45 = .ok (.aload_n 0, 1) := by decide +kernel
theorem dX11_order_46 : decode cX11_order 46 = .ok (.getfield 19, 3) := by decide +kernel
theorem dX11_order_49 : decode cX11_order 49 = .ok (.aload_n 0, 1) := by decide +kernel
theorem dX11_order_50 : decode cX11_order 50 = .ok (.getfield 10, 3) := by decide +kernel
theorem dX11_order_53 : decode cX11_order 53 = .ok (.invokevirtual 266, 3) := by decide +kernel
theorem dX11_order_56 : decode cX11_order 56 = .ok (.aload_n 0, 1) := by decide +kernel
theorem tw_22 : Cond.fieldLink RX11 25 "RingsUnder" "ringOrders" "LRingsUnder$RingOrders;" ∈ wsL_law := List.mem_of_getElem? (i := 22) (by decide +kernel)
theorem dX11_order_57 : decode cX11_order 57 = .ok (.getfield 25, 3) := by decide +kernel
theorem dX11_order_60 : decode cX11_order 60 = .ok (.aload_n 0, 1) := by decide +kernel
theorem dX11_order_61 : decode cX11_order 61 = .ok (.getfield 10, 3) := by decide +kernel
theorem dX11_order_64 : decode cX11_order 64 = .ok (.aload_n 0, 1) := by decide +kernel
theorem dX11_order_65 : decode cX11_order 65 = .ok (.getfield 19, 3) := by decide +kernel
theorem dX11_order_68 : decode cX11_order 68 = .ok (.iload_n 1, 1) := by decide +kernel
theorem dX11_order_69 : decode cX11_order 69 = .ok (.iload_n 2, 1) := by decide +kernel
theorem tw_1434 : Cond.methodLink RX11 285 yX5_seek ∈ wsL_law := List.mem_of_getElem? (i := 1434) (by decide +kernel)
theorem tw_1435 : Cond.instanceMethod yX5_seek ∈ wsL_law := List.mem_of_getElem? (i := 1435) (by decide +kernel)
theorem tw_1436 : Cond.selects RX5 yX5_seek yX5_seek ∈ wsL_law := List.mem_of_getElem? (i := 1436) (by decide +kernel)
theorem tw_1437 : Cond.code yX5_seek cX5_seek 9 none ∈ wsL_law := List.mem_of_getElem? (i := 1437) (by decide +kernel)
theorem dX11_order_70 : decode cX11_order 70 = .ok (.invokevirtual 285, 3) := by decide +kernel
theorem dX11_order_73 : decode cX11_order 73 = .ok (.iload_n 3, 1) := by decide +kernel
theorem dX11_order_74 : decode cX11_order 74 = .ok (.iconst (-1), 1) := by decide +kernel
theorem dX11_order_75 : decode cX11_order 75 = .ok (.if_icmp .ne 13, 3) := by decide +kernel
theorem dX11_order_78 : decode cX11_order 78 = .ok (.aload_n 0, 1) := by decide +kernel
theorem dX11_order_79 : decode cX11_order 79 = .ok (.getfield 25, 3) := by decide +kernel
theorem tw_1432 : Cond.fieldLink RX11 289 "RingsUnder$RingOrders" "least" "I" ∈ wsL_law := List.mem_of_getElem? (i := 1432) (by decide +kernel)
theorem dX11_order_82 : decode cX11_order 82 = .ok (.getfield 289, 3) := by decide +kernel
theorem dX11_order_85 : decode cX11_order 85 = .ok (.goto 12, 3) := by decide +kernel
theorem dX11_order_97 : decode cX11_order 97 = .ok (.ireturn, 1) := by decide +kernel
theorem dX11_order_35 : decode cX11_order 35 = .ok (.iconst 0, 1) := by decide +kernel
theorem dX11_order_43 : decode cX11_order 43 = .ok (.iconst (-1), 1) := by decide +kernel
theorem dX11_order_44 : decode cX11_order 44 = .ok (.ireturn, 1) := by decide +kernel
set_option maxHeartbeats 4000000 in
set_option maxRecDepth 100000 in
theorem c_X5_toNextOrder (l : Launch) (D : va_G) (t : pq_T) (σ : pq_S) (I : Nat → Nat → Int32) (J : Nat → Nat → Int64) (ri : Nat → Nat → Int32) (rj : Nat → Nat → Int64) (rq : Nat → Nat → Option Nat) (sz : Nat) (this : Nat) (hL_this : this ∈ σ.1) (hK_this : σ.2.1 this = 5) : MetI l yX5_toNextOrder (wa yX5_toNextOrder cX5_toNextOrder 6 (some .boolean)) ({ frames := 0, cells := 0, slots := 0, locals := 0 }) [.ref this, .int 0] D t σ (I, J, ri, rj, rq) sz 0 0 (fun (r : Int32) (u : pq_S × pq_M) => u = (σ, I, J, ri, rj, rq) ∧ ((r = 0))) := by
  refine Met.ofW (cc := cX5_toNextOrder) (maxL := 6) (ret := (some .boolean)) (by decide) rfl ?_
  intro p e s m args below meth c s₁ B hml hv
  obtain ⟨rfl, hsz, hP, hK, hD0, hN⟩ := hv
  have hx := B.exec
  have hb := B.bytes
  have hr := B.returns
  have hts := atoms_spec (ws := (wa yX5_toNextOrder cX5_toNextOrder 6 (some .boolean))) B.pre
  have hown : s.vm.findClass RX5 = some m.cls := findClass_of_methodNamed B.named
  have hlocks := B.notSynchronized
  subst hsz
  have hD : va_D (pq_B t σ (I, J, ri, rj, rq) s.heap.size) (pq_P t σ (I, J, ri, rj, rq)) := hD0.self
  generalize hAe : pq_B t σ (I, J, ri, rj, rq) s.heap.size = A at hD ⊢
  have hA : ∀ q : Nat, s.heap.size ≤ q → A q := fun q h => by rw [← hAe]; exact Or.inr h
  have hS : va_S A s.heap s.heap [] := va_S.rf
  have hl := lv_entry ([.ref this, .int 0]) (n := 6) (Nat.le_of_ble_eq_true rfl)
  rw [lg_entry_eq]
  generalize (lg_sl ([.ref this, .int 0]) ++ List.replicate (6 - (lg_sl ([.ref this, .int 0])).length) Slot.unset).toArray = ls at hl ⊢
  have hl : lv_has ls 6 [(0, .ref this), (1, .int 0)] := hl
  refine lv_iload_n hx hb dX5_toNextOrder_0 rfl (lv_at hl 1 rfl) ?_
  refine lv_iconst (v := 2) hx hb dX5_toNextOrder_1 (by decide) ?_
  refine lv_isub hx hb dX5_toNextOrder_2 ?_
  refine lv_tov (-2) (by decide) ?_
  refine lv_istore_n (lv' := [(2, .int (-2)), (0, .ref this), (1, .int 0)]) hx hb dX5_toNextOrder_3 rfl hl (by decide) rfl (fun ls hl => ?_)
  refine lv_iload_n hx hb dX5_toNextOrder_4 rfl (lv_at hl 0 rfl) ?_
  refine lv_if_lt (tgt := 31) hx hb dX5_toNextOrder_5 (by decide) (fun c_1 => ?_) (fun c_1 => absurd c_1 (by decide))
  refine lv_iload_n hx hb dX5_toNextOrder_31 rfl (lv_at hl 0 rfl) ?_
  refine lv_if_ge (tgt := 37) hx hb dX5_toNextOrder_32 (by decide) (fun c_2 => absurd c_2 (by decide)) (fun c_2 => ?_)
  refine lv_iconst (v := 0) hx hb dX5_toNextOrder_35 (by decide) ?_
  exact W.zret (v := 0) hx hb hr (by decide) (fun t1 ht hW => ⟨⟨0, (σ, I, J, ri, rj, rq), rfl, ⟨rfl, rfl⟩, by rw [ht]; exact hP, va_K.moved hW.alike hK, hD⟩, hS.F ht⟩) hS.2.2 dX5_toNextOrder_36

set_option maxHeartbeats 4000000 in
set_option maxRecDepth 100000 in
theorem c_X5_lineUp (l : Launch) (D : va_G) (t : pq_T) (σ : pq_S) (I : Nat → Nat → Int32) (J : Nat → Nat → Int64) (ri : Nat → Nat → Int32) (rj : Nat → Nat → Int64) (rq : Nat → Nat → Option Nat) (sz : Nat) (this : Nat) (folk : Nat) (hL_this : this ∈ σ.1) (hK_this : σ.2.1 this = 5) (hL_folk : folk ∈ σ.1) (hK_folk : σ.2.1 folk = 0) (hZ : pq_Z I) : MetV l yX5_lineUp (wa yX5_lineUp cX5_lineUp 5 none) ({ frames := 0, cells := 0, slots := 0, locals := 0 }) [.ref this, .ref folk, .int 0] D t σ (I, J, ri, rj, rq) sz 0 0 (fun (u : pq_S × pq_M) => u = (σ, I, J, ri, rj, rq)) := by
  refine Met.ofW (cc := cX5_lineUp) (maxL := 5) (ret := none) (by decide) rfl ?_
  intro p e s m args below meth c s₁ B hml hv
  obtain ⟨rfl, hsz, hP, hK, hD0, hN⟩ := hv
  have hx := B.exec
  have hb := B.bytes
  have hr := B.returns
  have hts := atoms_spec (ws := (wa yX5_lineUp cX5_lineUp 5 none)) B.pre
  have hown : s.vm.findClass RX5 = some m.cls := findClass_of_methodNamed B.named
  have hlocks := B.notSynchronized
  subst hsz
  have hD : va_D (pq_B t σ (I, J, ri, rj, rq) s.heap.size) (pq_P t σ (I, J, ri, rj, rq)) := hD0.self
  generalize hAe : pq_B t σ (I, J, ri, rj, rq) s.heap.size = A at hD ⊢
  have hA : ∀ q : Nat, s.heap.size ≤ q → A q := fun q h => by rw [← hAe]; exact Or.inr h
  have hS : va_S A s.heap s.heap [] := va_S.rf
  have hl := lv_entry ([.ref this, .ref folk, .int 0]) (n := 5) (Nat.le_of_ble_eq_true rfl)
  rw [lg_entry_eq]
  generalize (lg_sl ([.ref this, .ref folk, .int 0]) ++ List.replicate (5 - (lg_sl ([.ref this, .ref folk, .int 0])).length) Slot.unset).toArray = ls at hl ⊢
  have hl : lv_has ls 5 [(0, .ref this), (1, .ref folk), (2, .int 0)] := hl
  refine lv_aload_n hx hb dX5_lineUp_0 rfl (lv_at hl 0 rfl) ?_
  refine lv_iconst (v := 0) hx hb dX5_lineUp_1 (by decide) ?_
  refine pp_i (v := 0) (ty := .int) (C := RX5) (T := TX5) (N := 8) hx hb hts (tw_i inlX5) tyX5 tyX5_ok nmX5 hown hK hP hD hS hL_this hK_this (by decide) rfl 4 164 (by decide) (hts _ (tw_c tw_1464)) rfl (by decide +kernel) rfl rfl (Nat.le_of_ble_eq_true rfl) (ps_164 _ _ _ _ _) dX5_lineUp_2 (fun I_1 H locs eI_1 hP hD hS => ?_)
  have eI_1 : I_1 = I := by rw [eI_1]; exact pq_uc _ _ _ _ (hZ 164 (by decide))
  rw [eI_1] at hP hD
  refine lv_iconst (v := 0) hx hb dX5_lineUp_5 (by decide) ?_
  refine lv_istore_n (lv' := [(3, .int 0), (0, .ref this), (1, .ref folk), (2, .int 0)]) hx hb dX5_lineUp_6 rfl hl (by decide) rfl (fun ls hl => ?_)
  refine lv_iload_n hx hb dX5_lineUp_7 rfl (lv_at hl 0 rfl) ?_
  refine lv_iload_n hx hb dX5_lineUp_8 rfl (lv_at hl 3 rfl) ?_
  refine lv_icmp_ge (tgt := 82) hx hb dX5_lineUp_9 (by decide) (fun c_2 => ?_) (fun c_2 => absurd c_2 (by decide))
  exact W.vret hx hb hr (fun t1 ht hW => ⟨⟨(σ, I, J, ri, rj, rq), rfl, rfl, by rw [ht]; exact hP, va_K.moved hW.alike hK, hD⟩, hS.F ht⟩) hS.2.2 dX5_lineUp_82

set_option maxHeartbeats 4000000 in
set_option maxRecDepth 100000 in
theorem lp_X5_lacksOf_55 (l : Launch) (D : va_G) (t : pq_T) (σ : pq_S) (I : Nat → Nat → Int32) (J : Nat → Nat → Int64) (ri : Nat → Nat → Int32) (rj : Nat → Nat → Int64) (rq : Nat → Nat → Option Nat) (this : Nat) (now : Nat) (trial : Nat) (nn : Nat) (hL_this : this ∈ σ.1) (hK_this : σ.2.1 this = 5) (hL_now : now ∈ σ.1) (hK_now : σ.2.1 now = 10) (hL_trial : trial ∈ σ.1) (hK_trial : σ.2.1 trial = 10) (trial_land : Nat) (hR_trial_land : σ.2.2.1 327 trial = some trial_land) (hL_trial_land : trial_land ∈ σ.1) (hK_trial_land : σ.2.1 trial_land = 2) (trial_land_wells : Nat) (hR_trial_land_wells : σ.2.2.1 78 trial_land = some trial_land_wells) (hL_trial_land_wells : trial_land_wells ∈ σ.1) (hK_trial_land_wells : σ.2.1 trial_land_wells = 9) (this_dry : Nat) (hR_this_dry : σ.2.2.1 165 this = some this_dry) (hL_this_dry : this_dry ∈ σ.1) (hK_this_dry : σ.2.1 this_dry = 14) (hN_this_dry : σ.2.2.2 this_dry = 12) (now_seas : Nat) (hR_now_seas : σ.2.2.1 326 now = some now_seas) (hL_now_seas : now_seas ∈ σ.1) (hK_now_seas : σ.2.1 now_seas = 7) (now_seas_rain : Nat) (hR_now_seas_rain : σ.2.2.1 233 now_seas = some now_seas_rain) (hL_now_seas_rain : now_seas_rain ∈ σ.1) (hK_now_seas_rain : σ.2.1 now_seas_rain = 13) (hN_now_seas_rain : σ.2.2.2 now_seas_rain = 12) (trial_folk : Nat) (hR_trial_folk : σ.2.2.1 328 trial = some trial_folk) (hL_trial_folk : trial_folk ∈ σ.1) (hK_trial_folk : σ.2.1 trial_folk = 0) (trial_land_first : Nat) (hR_trial_land_first : σ.2.2.1 80 trial_land = some trial_land_first) (hL_trial_land_first : trial_land_first ∈ σ.1) (hK_trial_land_first : σ.2.1 trial_land_first = 13) (hN_trial_land_first : σ.2.2.2 trial_land_first = 5) (trial_folk_ofRing : Nat) (hR_trial_folk_ofRing : σ.2.2.1 12 trial_folk = some trial_folk_ofRing) (hL_trial_folk_ofRing : trial_folk_ofRing ∈ σ.1) (hK_trial_folk_ofRing : σ.2.1 trial_folk_ofRing = 13) (hN_trial_folk_ofRing : σ.2.2.2 trial_folk_ofRing = 5) (this_beds : Nat) (hR_this_beds : σ.2.2.1 166 this = some this_beds) (hL_this_beds : this_beds ∈ σ.1) (hK_this_beds : σ.2.1 this_beds = 13) (hN_this_beds : σ.2.2.2 this_beds = 60) (now_land : Nat) (hR_now_land : σ.2.2.1 327 now = some now_land) (hL_now_land : now_land ∈ σ.1) (hK_now_land : σ.2.1 now_land = 2) (now_land_wells : Nat) (hR_now_land_wells : σ.2.2.1 78 now_land = some now_land_wells) (hL_now_land_wells : now_land_wells ∈ σ.1) (hK_now_land_wells : σ.2.1 now_land_wells = 9) (now_land_wells_gathers : Nat) (hR_now_land_wells_gathers : σ.2.2.1 288 now_land_wells = some now_land_wells_gathers) (hL_now_land_wells_gathers : now_land_wells_gathers ∈ σ.1) (hK_now_land_wells_gathers : σ.2.1 now_land_wells_gathers = 13) (hN_now_land_wells_gathers : σ.2.2.2 now_land_wells_gathers = 40) (trial_land_wells_gathers : Nat) (hR_trial_land_wells_gathers : σ.2.2.1 288 trial_land_wells = some trial_land_wells_gathers) (hL_trial_land_wells_gathers : trial_land_wells_gathers ∈ σ.1) (hK_trial_land_wells_gathers : σ.2.1 trial_land_wells_gathers = 13) (hN_trial_land_wells_gathers : σ.2.2.2 trial_land_wells_gathers = 40) (now_land_wells_lens : Nat) (hR_now_land_wells_lens : σ.2.2.1 289 now_land_wells = some now_land_wells_lens) (hL_now_land_wells_lens : now_land_wells_lens ∈ σ.1) (hK_now_land_wells_lens : σ.2.1 now_land_wells_lens = 13) (hN_now_land_wells_lens : σ.2.2.2 now_land_wells_lens = 40) (trial_land_wells_lens : Nat) (hR_trial_land_wells_lens : σ.2.2.1 289 trial_land_wells = some trial_land_wells_lens) (hL_trial_land_wells_lens : trial_land_wells_lens ∈ σ.1) (hK_trial_land_wells_lens : σ.2.1 trial_land_wells_lens = 13) (hN_trial_land_wells_lens : σ.2.2.2 trial_land_wells_lens = 40) (now_land_wells_salt : Nat) (hR_now_land_wells_salt : σ.2.2.1 290 now_land_wells = some now_land_wells_salt) (hL_now_land_wells_salt : now_land_wells_salt ∈ σ.1) (hK_now_land_wells_salt : σ.2.1 now_land_wells_salt = 13) (hN_now_land_wells_salt : σ.2.2.2 now_land_wells_salt = 40) (trial_land_wells_salt : Nat) (hR_trial_land_wells_salt : σ.2.2.1 290 trial_land_wells = some trial_land_wells_salt) (hL_trial_land_wells_salt : trial_land_wells_salt ∈ σ.1) (hK_trial_land_wells_salt : σ.2.1 trial_land_wells_salt = 13) (hN_trial_land_wells_salt : σ.2.2.2 trial_land_wells_salt = 40) (now_folk : Nat) (hR_now_folk : σ.2.2.1 328 now = some now_folk) (hL_now_folk : now_folk ∈ σ.1) (hK_now_folk : σ.2.1 now_folk = 0) (now_folk_place : Nat) (hR_now_folk_place : σ.2.2.1 5 now_folk = some now_folk_place) (hL_now_folk_place : now_folk_place ∈ σ.1) (hK_now_folk_place : σ.2.1 now_folk_place = 13) (hN_now_folk_place : σ.2.2.2 now_folk_place = 40) (trial_folk_place : Nat) (hR_trial_folk_place : σ.2.2.1 5 trial_folk = some trial_folk_place) (hL_trial_folk_place : trial_folk_place ∈ σ.1) (hK_trial_folk_place : σ.2.1 trial_folk_place = 13) (hN_trial_folk_place : σ.2.2.2 trial_folk_place = 40) (hZ : pq_Z I) (hnn : nn ≤ 12) (hCn : I 320 now = 0) (hLe : I 160 this = 961) {p : Program} {e : Env} {s : State} {m : MethodId} {args : Array Value} {below : List Frame} {meth : Method} {c : Code} {cells slots : Nat} {Q : State → Prop} {A : Nat → Prop} (hx : p.tables.exec = Jvm.exec) (hb : c.code = cX5_lacksOf) (hml : c.maxLocals = 7) (hts : ∀ w ∈ (wa yX5_lacksOf cX5_lacksOf 7 (some .int)), w.before args s = true) (hown : s.vm.findClass RX5 = some m.cls) (hK : va_K D vwCl (pq_ty t) s) (hN : pq_N s) (hA : ∀ q : Nat, s.heap.size ≤ q → A q) (hcs : cells = 0 ∧ slots = 0)
    (kk : ∀ (i : Nat) (ri' : Nat → Nat → Int32) (H : Heap) (locs : List Loc) (ls : Array Slot), (i ≤ nn) → va_P D vwCl (pq_P t σ (I, J, ri', rj, rq)) H → va_D A (pq_P t σ (I, J, ri', rj, rq)) → va_S A s.heap H locs → lv_has ls 7 [(5, .int (nI i)), (4, .int 0), (0, .ref this), (1, .ref now), (2, .ref trial), (3, .int (nI nn))] → W p l e ({ frames := 3, cells := 0, slots := 0, locals := 105 } : Room) s m args below meth c H locs cells slots Q (F0 m 193 ls [])) :
    ∀ (n : Nat) (i : Nat) (ri' : Nat → Nat → Int32) (H : Heap) (locs : List Loc) (ls : Array Slot), (i ≤ nn) → (nn - i) < n → va_P D vwCl (pq_P t σ (I, J, ri', rj, rq)) H → va_D A (pq_P t σ (I, J, ri', rj, rq)) → va_S A s.heap H locs → lv_has ls 7 [(5, .int (nI i)), (4, .int 0), (0, .ref this), (1, .ref now), (2, .ref trial), (3, .int (nI nn))] → W p l e ({ frames := 3, cells := 0, slots := 0, locals := 105 } : Room) s m args below meth c H locs cells slots Q (F0 m 55 ls []) := by
  obtain ⟨rfl, rfl⟩ := hcs
  intro n
  induction n with
  | zero => intro i ri' H locs ls hi hm; exact absurd hm (Nat.not_lt_zero _)
  | succ n ih =>
    intro i ri' H locs ls hi hm hP hD hS hl
    refine lv_iload hx hb dX5_lacksOf_55 (lv_at hl 0 rfl) ?_
    refine lv_iload_n hx hb dX5_lacksOf_57 rfl (lv_at hl 5 rfl) ?_
    refine lv_icmp_ge (tgt := 193) hx hb dX5_lacksOf_58 (by decide) (fun c_1 => ?_) (fun c_1 => ?_)
    · have nc_1 := nq_le (a := nn) (b := i) (by omega) (by omega) c_1
      exact kk i ri' _ _ _ hi hP hD hS (lv_sub hl [0, 1, 2, 3, 4, 5] rfl)
    · have nc_1 := nq_nle (a := nn) (b := i) (by omega) (by omega) c_1
      refine lv_iload hx hb dX5_lacksOf_61 (lv_at hl 1 rfl) ?_
      refine lv_aload_n hx hb dX5_lacksOf_63 rfl (lv_at hl 2 rfl) ?_
      refine pg_f (v := .int (I 160 this)) (C := RX5) (T := TX5) (N := 8) hx hb hts (tw_i inlX5) hown hK hP hL_this hK_this (by decide) rfl 0 (by decide) (hts _ (tw_c tw_1441)) rfl dX5_lacksOf_64 ?_
      refine lv_tov 961 hLe ?_
      refine lv_icmp_ge (tgt := 193) hx hb dX5_lacksOf_67 (by decide) (fun c_2 => absurd c_2 (by decide)) (fun c_2 => ?_)
      refine lv_aload_n hx hb dX5_lacksOf_70 rfl (lv_at hl 3 rfl) ?_
      refine pg_f (v := .int (I 320 now)) (C := RX10) (T := TX10) (N := 13) hx hb hts (tw_i inlX10) hown hK hP hL_now hK_now (by decide) rfl 0 (by decide) (hts _ (tw_c tw_1449)) rfl dX5_lacksOf_71 ?_
      refine lv_tov 0 hCn ?_
      refine lv_iload hx hb dX5_lacksOf_74 (lv_at hl 0 rfl) ?_
      refine lv_iadd hx hb dX5_lacksOf_76 ?_
      refine lv_tov (nI i) (Int32.zero_add _) ?_
      refine lv_istore (lv' := [(6, .int (nI i)), (5, .int (nI i)), (4, .int 0), (0, .ref this), (1, .ref now), (2, .ref trial), (3, .int (nI nn))]) hx hb dX5_lacksOf_77 hl (by decide) rfl (fun ls hl => ?_)
      refine lv_aload_n hx hb dX5_lacksOf_79 rfl (lv_at hl 5 rfl) ?_
      refine pg_f (v := .ref trial_land) (C := RX10) (T := TX10) (N := 13) hx hb hts (tw_i inlX10) hown hK hP hL_trial hK_trial (by decide) rfl 7 (by decide) (hts _ (tw_c tw_1438)) (pq_hv rfl hR_trial_land) dX5_lacksOf_80 ?_
      refine pg_f (v := .ref trial_land_wells) (C := RX2) (T := TX2) (N := 20) hx hb hts (tw_i inlX2) hown hK hP hL_trial_land hK_trial_land (by decide) rfl 14 (by decide) (hts _ (tw_c tw_1458)) (pq_hv rfl hR_trial_land_wells) dX5_lacksOf_83 ?_
      refine lv_aload_n hx hb dX5_lacksOf_86 rfl (lv_at hl 5 rfl) ?_
      refine pg_f (v := .ref trial_land) (C := RX10) (T := TX10) (N := 13) hx hb hts (tw_i inlX10) hown hK hP hL_trial hK_trial (by decide) rfl 7 (by decide) (hts _ (tw_c tw_1438)) (pq_hv rfl hR_trial_land) dX5_lacksOf_87 ?_
      refine pg_f (v := .int (I 65 trial_land)) (C := RX2) (T := TX2) (N := 20) hx hb hts (tw_i inlX2) hown hK hP hL_trial_land hK_trial_land (by decide) rfl 1 (by decide) (hts _ (tw_c tw_1460)) rfl dX5_lacksOf_90 ?_
      refine lv_tov 0 (congrFun (hZ 65 (by decide)) trial_land) ?_
      refine lv_aload_n hx hb dX5_lacksOf_93 rfl (lv_at hl 3 rfl) ?_
      refine pg_f (v := .ref this_dry) (C := RX5) (T := TX5) (N := 8) hx hb hts (tw_i inlX5) hown hK hP hL_this hK_this (by decide) rfl 5 (by decide) (hts _ (tw_c tw_145)) (pq_hv rfl hR_this_dry) dX5_lacksOf_94 ?_
      refine lv_iload hx hb dX5_lacksOf_97 (lv_at hl 1 rfl) ?_
      refine pl_l hx hb hK hP hL_this_dry hK_this_dry hN_this_dry (nI_in (c := i) (by omega) (by omega)) dX5_lacksOf_99 ?_
      refine lv_topl (fun x_3 ex_3 => ?_)
      refine lv_aload_n hx hb dX5_lacksOf_100 rfl (lv_at hl 4 rfl) ?_
      refine pg_f (v := .ref now_seas) (C := RX10) (T := TX10) (N := 13) hx hb hts (tw_i inlX10) hown hK hP hL_now hK_now (by decide) rfl 6 (by decide) (hts _ (tw_c tw_1461)) (pq_hv rfl hR_now_seas) dX5_lacksOf_101 ?_
      refine pg_f (v := .ref now_seas_rain) (C := RX7) (T := TX7) (N := 15) hx hb hts (tw_i inlX7) hown hK hP hL_now_seas hK_now_seas (by decide) rfl 9 (by decide) (hts _ (tw_c tw_1462)) (pq_hv rfl hR_now_seas_rain) dX5_lacksOf_104 ?_
      refine lv_iload hx hb dX5_lacksOf_107 (lv_at hl 0 rfl) ?_
      refine lv_bipush (v := 12) hx hb dX5_lacksOf_109 (by decide) ?_
      refine lv_irem hx hb dX5_lacksOf_111 (by decide) ?_
      refine lv_tov (nI (i % 12)) (pk_rem (a := i) (d := 12) (by omega) (by decide) (by decide)) ?_
      refine pl_i hx hb hK hP hL_now_seas_rain hK_now_seas_rain hN_now_seas_rain (nI_in (c := (i % 12)) (by omega) (by omega)) dX5_lacksOf_112 ?_
      refine lv_topi (fun x_4 ex_4 => ?_)
      refine pk_v (va_runV (As := [.int 0, .long x_3, .int x_4]) (rest := []) ⟨hx, hb, hml, hown, hts⟩ (c_X9_fillUp l D t σ I J ri' rj rq H.size trial_land_wells x_3 x_4 hL_trial_land_wells hK_trial_land_wells) (cwV 3 hts (tw_V tw_1471 tw_1084 tw_1085 tw_94 tw_1086) rfl rfl rfl (by decide +kernel) ⟨Nat.le_of_ble_eq_true rfl, Nat.le_of_ble_eq_true rfl⟩) ⟨pq_blind, pq_recv hK hP hL_trial_land_wells hK_trial_land_wells (by decide) rfl, pq_pre hK hN hP hD⟩ rfl rfl hl.1 rfl (lv_room (Nat.le_of_ble_eq_true rfl)) dX5_lacksOf_113 ⟨Nat.le_of_ble_eq_true rfl, Nat.le_of_ble_eq_true rfl⟩) hD hS hA (fun σ1 μ1 H locs hw_6 hP hD hS => ?_)
      have hu_7 := hw_6
      obtain ⟨hu_7a, hu_7b⟩ := Prod.mk.inj hu_7
      rw [hu_7a, hu_7b] at hP hD
      refine lv_iload hx hb dX5_lacksOf_116 (lv_at hl 2 rfl) ?_
      refine lv_aload_n hx hb dX5_lacksOf_118 rfl (lv_at hl 5 rfl) ?_
      refine pg_f (v := .ref trial_folk) (C := RX10) (T := TX10) (N := 13) hx hb hts (tw_i inlX10) hown hK hP hL_trial hK_trial (by decide) rfl 8 (by decide) (hts _ (tw_c tw_1446)) (pq_hv rfl hR_trial_folk) dX5_lacksOf_119 ?_
      refine lv_aload_n hx hb dX5_lacksOf_122 rfl (lv_at hl 5 rfl) ?_
      refine pg_f (v := .ref trial_land) (C := RX10) (T := TX10) (N := 13) hx hb hts (tw_i inlX10) hown hK hP hL_trial hK_trial (by decide) rfl 7 (by decide) (hts _ (tw_c tw_1438)) (pq_hv rfl hR_trial_land) dX5_lacksOf_123 ?_
      refine pk_i (va_runV (As := [.ref trial_land]) (rest := [.int 0]) ⟨hx, hb, hml, hown, hts⟩ (c_X0_drink l D t σ I J ri' rj rq H.size trial_folk trial_land hL_trial_folk hK_trial_folk hL_trial_land hK_trial_land trial_land_first hR_trial_land_first hL_trial_land_first hK_trial_land_first hN_trial_land_first trial_folk_ofRing hR_trial_folk_ofRing hL_trial_folk_ofRing hK_trial_folk_ofRing hN_trial_folk_ofRing hZ) (cwV 1 hts (tw_V tw_1472 tw_1095 tw_1096 tw_45 tw_1097) rfl rfl rfl (by decide +kernel) ⟨Nat.le_of_ble_eq_true rfl, Nat.le_of_ble_eq_true rfl⟩) ⟨pq_blind, pq_recv hK hP hL_trial_folk hK_trial_folk (by decide) rfl, pq_pre hK hN hP hD⟩ rfl rfl hl.1 rfl (lv_room (Nat.le_of_ble_eq_true rfl)) dX5_lacksOf_126 ⟨Nat.le_of_ble_eq_true rfl, Nat.le_of_ble_eq_true rfl⟩) hD hS hA (fun r_9 σ1 μ1 H locs hw_10 hP hD hS => ?_)
      obtain ⟨ri_11, hu_12, hr_13⟩ := hw_10
      obtain ⟨hu_12a, hu_12b⟩ := Prod.mk.inj hu_12
      rw [hu_12a, hu_12b] at hP hD
      subst hr_13
      refine lv_iadd hx hb dX5_lacksOf_129 ?_
      refine lv_tov 0 (by decide) ?_
      refine lv_istore (lv' := [(4, .int 0), (6, .int (nI i)), (5, .int (nI i)), (0, .ref this), (1, .ref now), (2, .ref trial), (3, .int (nI nn))]) hx hb dX5_lacksOf_130 hl (by decide) rfl (fun ls hl => ?_)
      refine lv_iload hx hb dX5_lacksOf_132 (lv_at hl 0 rfl) ?_
      refine lv_aload_n hx hb dX5_lacksOf_134 rfl (lv_at hl 5 rfl) ?_
      refine pg_f (v := .ref trial_folk) (C := RX10) (T := TX10) (N := 13) hx hb hts (tw_i inlX10) hown hK hP hL_trial hK_trial (by decide) rfl 8 (by decide) (hts _ (tw_c tw_1446)) (pq_hv rfl hR_trial_folk) dX5_lacksOf_135 ?_
      refine lv_aload_n hx hb dX5_lacksOf_138 rfl (lv_at hl 3 rfl) ?_
      refine pg_f (v := .ref this_beds) (C := RX5) (T := TX5) (N := 8) hx hb hts (tw_i inlX5) hown hK hP hL_this hK_this (by decide) rfl 6 (by decide) (hts _ (tw_c tw_146)) (pq_hv rfl hR_this_beds) dX5_lacksOf_139 ?_
      refine lv_iload hx hb dX5_lacksOf_142 (lv_at hl 2 rfl) ?_
      refine lv_iconst (v := 5) hx hb dX5_lacksOf_144 (by decide) ?_
      refine lv_imul hx hb dX5_lacksOf_145 ?_
      refine lv_tov (nI (i * 5)) (pk_mul i 5) ?_
      refine pk_i (va_runV (As := [.ref this_beds, .int (nI (i * 5))]) (rest := [.int 0]) ⟨hx, hb, hml, hown, hts⟩ (c_X0_sleep l D t σ I J ri_11 rj rq H.size trial_folk this_beds (i * 5) 60 hL_trial_folk hK_trial_folk hL_this_beds hK_this_beds hN_this_beds trial_folk_ofRing hR_trial_folk_ofRing hL_trial_folk_ofRing hK_trial_folk_ofRing hN_trial_folk_ofRing hZ ⟨by omega, by omega⟩) (cwV 2 hts (tw_V tw_1473 tw_1121 tw_1122 tw_45 tw_1123) rfl rfl rfl (by decide +kernel) ⟨Nat.le_of_ble_eq_true rfl, Nat.le_of_ble_eq_true rfl⟩) ⟨pq_blind, pq_recv hK hP hL_trial_folk hK_trial_folk (by decide) rfl, pq_pre hK hN hP hD⟩ rfl rfl hl.1 rfl (lv_room (Nat.le_of_ble_eq_true rfl)) dX5_lacksOf_146 ⟨Nat.le_of_ble_eq_true rfl, Nat.le_of_ble_eq_true rfl⟩) hD hS hA (fun r_14 σ1 μ1 H locs hw_15 hP hD hS => ?_)
      obtain ⟨ri_16, hu_17, hr_18⟩ := hw_15
      obtain ⟨hu_17a, hu_17b⟩ := Prod.mk.inj hu_17
      rw [hu_17a, hu_17b] at hP hD
      subst hr_18
      refine lv_iadd hx hb dX5_lacksOf_149 ?_
      refine lv_tov 0 (by decide) ?_
      refine lv_istore (lv' := [(4, .int 0), (6, .int (nI i)), (5, .int (nI i)), (0, .ref this), (1, .ref now), (2, .ref trial), (3, .int (nI nn))]) hx hb dX5_lacksOf_150 hl (by decide) rfl (fun ls hl => ?_)
      refine lv_aload_n hx hb dX5_lacksOf_152 rfl (lv_at hl 4 rfl) ?_
      refine pg_f (v := .int (I 322 now)) (C := RX10) (T := TX10) (N := 13) hx hb hts (tw_i inlX10) hown hK hP hL_now hK_now (by decide) rfl 2 (by decide) (hts _ (tw_c tw_1463)) rfl dX5_lacksOf_153 ?_
      refine lv_tov 0 (congrFun (hZ 322 (by decide)) now) ?_
      refine lv_if_le (tgt := 187) hx hb dX5_lacksOf_156 (by decide) (fun c_19 => ?_) (fun c_19 => absurd c_19 (by decide))
      refine lv_iinc (v := (nI (i + 1))) (lv' := [(5, .int (nI (i + 1))), (4, .int 0), (6, .int (nI i)), (0, .ref this), (1, .ref now), (2, .ref trial), (3, .int (nI nn))]) hx hb dX5_lacksOf_187 hl (k := 2) rfl (nI_1 i) (by decide) rfl (fun ls hl => ?_)
      refine lv_goto (tgt := 55) hx hb dX5_lacksOf_190 (by decide) ?_
      exact ih (i + 1) ri_16 _ _ _ (by omega) (by omega) hP hD hS (lv_sub hl [0, 1, 3, 4, 5, 6] rfl)

set_option maxHeartbeats 4000000 in
set_option maxRecDepth 100000 in
theorem c_X5_lacksOf (l : Launch) (D : va_G) (t : pq_T) (σ : pq_S) (I : Nat → Nat → Int32) (J : Nat → Nat → Int64) (ri : Nat → Nat → Int32) (rj : Nat → Nat → Int64) (rq : Nat → Nat → Option Nat) (sz : Nat) (this : Nat) (now : Nat) (trial : Nat) (nn : Nat) (hL_this : this ∈ σ.1) (hK_this : σ.2.1 this = 5) (hL_now : now ∈ σ.1) (hK_now : σ.2.1 now = 10) (hL_trial : trial ∈ σ.1) (hK_trial : σ.2.1 trial = 10) (trial_land : Nat) (hR_trial_land : σ.2.2.1 327 trial = some trial_land) (hL_trial_land : trial_land ∈ σ.1) (hK_trial_land : σ.2.1 trial_land = 2) (trial_land_wells : Nat) (hR_trial_land_wells : σ.2.2.1 78 trial_land = some trial_land_wells) (hL_trial_land_wells : trial_land_wells ∈ σ.1) (hK_trial_land_wells : σ.2.1 trial_land_wells = 9) (this_dry : Nat) (hR_this_dry : σ.2.2.1 165 this = some this_dry) (hL_this_dry : this_dry ∈ σ.1) (hK_this_dry : σ.2.1 this_dry = 14) (hN_this_dry : σ.2.2.2 this_dry = 12) (now_seas : Nat) (hR_now_seas : σ.2.2.1 326 now = some now_seas) (hL_now_seas : now_seas ∈ σ.1) (hK_now_seas : σ.2.1 now_seas = 7) (now_seas_rain : Nat) (hR_now_seas_rain : σ.2.2.1 233 now_seas = some now_seas_rain) (hL_now_seas_rain : now_seas_rain ∈ σ.1) (hK_now_seas_rain : σ.2.1 now_seas_rain = 13) (hN_now_seas_rain : σ.2.2.2 now_seas_rain = 12) (trial_folk : Nat) (hR_trial_folk : σ.2.2.1 328 trial = some trial_folk) (hL_trial_folk : trial_folk ∈ σ.1) (hK_trial_folk : σ.2.1 trial_folk = 0) (trial_land_first : Nat) (hR_trial_land_first : σ.2.2.1 80 trial_land = some trial_land_first) (hL_trial_land_first : trial_land_first ∈ σ.1) (hK_trial_land_first : σ.2.1 trial_land_first = 13) (hN_trial_land_first : σ.2.2.2 trial_land_first = 5) (trial_folk_ofRing : Nat) (hR_trial_folk_ofRing : σ.2.2.1 12 trial_folk = some trial_folk_ofRing) (hL_trial_folk_ofRing : trial_folk_ofRing ∈ σ.1) (hK_trial_folk_ofRing : σ.2.1 trial_folk_ofRing = 13) (hN_trial_folk_ofRing : σ.2.2.2 trial_folk_ofRing = 5) (this_beds : Nat) (hR_this_beds : σ.2.2.1 166 this = some this_beds) (hL_this_beds : this_beds ∈ σ.1) (hK_this_beds : σ.2.1 this_beds = 13) (hN_this_beds : σ.2.2.2 this_beds = 60) (now_land : Nat) (hR_now_land : σ.2.2.1 327 now = some now_land) (hL_now_land : now_land ∈ σ.1) (hK_now_land : σ.2.1 now_land = 2) (now_land_wells : Nat) (hR_now_land_wells : σ.2.2.1 78 now_land = some now_land_wells) (hL_now_land_wells : now_land_wells ∈ σ.1) (hK_now_land_wells : σ.2.1 now_land_wells = 9) (now_land_wells_gathers : Nat) (hR_now_land_wells_gathers : σ.2.2.1 288 now_land_wells = some now_land_wells_gathers) (hL_now_land_wells_gathers : now_land_wells_gathers ∈ σ.1) (hK_now_land_wells_gathers : σ.2.1 now_land_wells_gathers = 13) (hN_now_land_wells_gathers : σ.2.2.2 now_land_wells_gathers = 40) (trial_land_wells_gathers : Nat) (hR_trial_land_wells_gathers : σ.2.2.1 288 trial_land_wells = some trial_land_wells_gathers) (hL_trial_land_wells_gathers : trial_land_wells_gathers ∈ σ.1) (hK_trial_land_wells_gathers : σ.2.1 trial_land_wells_gathers = 13) (hN_trial_land_wells_gathers : σ.2.2.2 trial_land_wells_gathers = 40) (now_land_wells_lens : Nat) (hR_now_land_wells_lens : σ.2.2.1 289 now_land_wells = some now_land_wells_lens) (hL_now_land_wells_lens : now_land_wells_lens ∈ σ.1) (hK_now_land_wells_lens : σ.2.1 now_land_wells_lens = 13) (hN_now_land_wells_lens : σ.2.2.2 now_land_wells_lens = 40) (trial_land_wells_lens : Nat) (hR_trial_land_wells_lens : σ.2.2.1 289 trial_land_wells = some trial_land_wells_lens) (hL_trial_land_wells_lens : trial_land_wells_lens ∈ σ.1) (hK_trial_land_wells_lens : σ.2.1 trial_land_wells_lens = 13) (hN_trial_land_wells_lens : σ.2.2.2 trial_land_wells_lens = 40) (now_land_wells_salt : Nat) (hR_now_land_wells_salt : σ.2.2.1 290 now_land_wells = some now_land_wells_salt) (hL_now_land_wells_salt : now_land_wells_salt ∈ σ.1) (hK_now_land_wells_salt : σ.2.1 now_land_wells_salt = 13) (hN_now_land_wells_salt : σ.2.2.2 now_land_wells_salt = 40) (trial_land_wells_salt : Nat) (hR_trial_land_wells_salt : σ.2.2.1 290 trial_land_wells = some trial_land_wells_salt) (hL_trial_land_wells_salt : trial_land_wells_salt ∈ σ.1) (hK_trial_land_wells_salt : σ.2.1 trial_land_wells_salt = 13) (hN_trial_land_wells_salt : σ.2.2.2 trial_land_wells_salt = 40) (now_folk : Nat) (hR_now_folk : σ.2.2.1 328 now = some now_folk) (hL_now_folk : now_folk ∈ σ.1) (hK_now_folk : σ.2.1 now_folk = 0) (now_folk_place : Nat) (hR_now_folk_place : σ.2.2.1 5 now_folk = some now_folk_place) (hL_now_folk_place : now_folk_place ∈ σ.1) (hK_now_folk_place : σ.2.1 now_folk_place = 13) (hN_now_folk_place : σ.2.2.2 now_folk_place = 40) (trial_folk_place : Nat) (hR_trial_folk_place : σ.2.2.1 5 trial_folk = some trial_folk_place) (hL_trial_folk_place : trial_folk_place ∈ σ.1) (hK_trial_folk_place : σ.2.1 trial_folk_place = 13) (hN_trial_folk_place : σ.2.2.2 trial_folk_place = 40) (hZ : pq_Z I) (hnn : nn ≤ 12) (hCn : I 320 now = 0) (hLe : I 160 this = 961) : MetI l yX5_lacksOf (wa yX5_lacksOf cX5_lacksOf 7 (some .int)) ({ frames := 3, cells := 0, slots := 0, locals := 105 }) [.ref this, .ref now, .ref trial, .int (nI nn)] D t σ (I, J, ri, rj, rq) sz 0 0 (fun (r : Int32) (u : pq_S × pq_M) => ∃ ri' : Nat → Nat → Int32, u = (σ, I, J, ri', rj, rq) ∧ (r = 0)) := by
  refine Met.ofW (cc := cX5_lacksOf) (maxL := 7) (ret := (some .int)) (by decide) rfl ?_
  intro p e s m args below meth c s₁ B hml hv
  obtain ⟨rfl, hsz, hP, hK, hD0, hN⟩ := hv
  have hx := B.exec
  have hb := B.bytes
  have hr := B.returns
  have hts := atoms_spec (ws := (wa yX5_lacksOf cX5_lacksOf 7 (some .int))) B.pre
  have hown : s.vm.findClass RX5 = some m.cls := findClass_of_methodNamed B.named
  have hlocks := B.notSynchronized
  subst hsz
  have hD : va_D (pq_B t σ (I, J, ri, rj, rq) s.heap.size) (pq_P t σ (I, J, ri, rj, rq)) := hD0.self
  generalize hAe : pq_B t σ (I, J, ri, rj, rq) s.heap.size = A at hD ⊢
  have hA : ∀ q : Nat, s.heap.size ≤ q → A q := fun q h => by rw [← hAe]; exact Or.inr h
  have hS : va_S A s.heap s.heap [] := va_S.rf
  have hl := lv_entry ([.ref this, .ref now, .ref trial, .int (nI nn)]) (n := 7) (Nat.le_of_ble_eq_true rfl)
  rw [lg_entry_eq]
  generalize (lg_sl ([.ref this, .ref now, .ref trial, .int (nI nn)]) ++ List.replicate (7 - (lg_sl ([.ref this, .ref now, .ref trial, .int (nI nn)])).length) Slot.unset).toArray = ls at hl ⊢
  have hl : lv_has ls 7 [(0, .ref this), (1, .ref now), (2, .ref trial), (3, .int (nI nn))] := hl
  refine lv_aload_n hx hb dX5_lacksOf_0 rfl (lv_at hl 2 rfl) ?_
  refine pg_f (v := .ref trial_land) (C := RX10) (T := TX10) (N := 13) hx hb hts (tw_i inlX10) hown hK hP hL_trial hK_trial (by decide) rfl 7 (by decide) (hts _ (tw_c tw_1438)) (pq_hv rfl hR_trial_land) dX5_lacksOf_1 ?_
  refine pg_f (v := .ref trial_land_wells) (C := RX2) (T := TX2) (N := 20) hx hb hts (tw_i inlX2) hown hK hP hL_trial_land hK_trial_land (by decide) rfl 14 (by decide) (hts _ (tw_c tw_1458)) (pq_hv rfl hR_trial_land_wells) dX5_lacksOf_4 ?_
  refine lv_aload_n hx hb dX5_lacksOf_7 rfl (lv_at hl 1 rfl) ?_
  refine pg_f (v := .ref now_land) (C := RX10) (T := TX10) (N := 13) hx hb hts (tw_i inlX10) hown hK hP hL_now hK_now (by decide) rfl 7 (by decide) (hts _ (tw_c tw_1438)) (pq_hv rfl hR_now_land) dX5_lacksOf_8 ?_
  refine pg_f (v := .ref now_land_wells) (C := RX2) (T := TX2) (N := 20) hx hb hts (tw_i inlX2) hown hK hP hL_now_land hK_now_land (by decide) rfl 14 (by decide) (hts _ (tw_c tw_1458)) (pq_hv rfl hR_now_land_wells) dX5_lacksOf_11 ?_
  refine pk_v (va_runV (As := [.ref now_land_wells]) (rest := []) ⟨hx, hb, hml, hown, hts⟩ (c_X9_copyFrom l D t σ I J ri rj rq (Array.size s.heap) trial_land_wells now_land_wells hL_trial_land_wells hK_trial_land_wells hL_now_land_wells hK_now_land_wells now_land_wells_gathers hR_now_land_wells_gathers hL_now_land_wells_gathers hK_now_land_wells_gathers hN_now_land_wells_gathers trial_land_wells_gathers hR_trial_land_wells_gathers hL_trial_land_wells_gathers hK_trial_land_wells_gathers hN_trial_land_wells_gathers now_land_wells_lens hR_now_land_wells_lens hL_now_land_wells_lens hK_now_land_wells_lens hN_now_land_wells_lens trial_land_wells_lens hR_trial_land_wells_lens hL_trial_land_wells_lens hK_trial_land_wells_lens hN_trial_land_wells_lens now_land_wells_salt hR_now_land_wells_salt hL_now_land_wells_salt hK_now_land_wells_salt hN_now_land_wells_salt trial_land_wells_salt hR_trial_land_wells_salt hL_trial_land_wells_salt hK_trial_land_wells_salt hN_trial_land_wells_salt) (cwV 1 hts (tw_V tw_1465 tw_1377 tw_1378 tw_94 tw_1379) rfl rfl rfl (by decide +kernel) ⟨Nat.le_of_ble_eq_true rfl, Nat.le_of_ble_eq_true rfl⟩) ⟨pq_blind, pq_recv hK hP hL_trial_land_wells hK_trial_land_wells (by decide) rfl, pq_pre hK hN hP hD⟩ rfl rfl hl.1 rfl (lv_room (Nat.le_of_ble_eq_true rfl)) dX5_lacksOf_14 ⟨Nat.le_of_ble_eq_true rfl, Nat.le_of_ble_eq_true rfl⟩) hD hS hA (fun σ1 μ1 H locs hw_2 hP hD hS => ?_)
  obtain ⟨ri_3, hu_4⟩ := hw_2
  obtain ⟨hu_4a, hu_4b⟩ := Prod.mk.inj hu_4
  rw [hu_4a, hu_4b] at hP hD
  refine lv_aload_n hx hb dX5_lacksOf_17 rfl (lv_at hl 1 rfl) ?_
  refine pg_f (v := .ref now_folk) (C := RX10) (T := TX10) (N := 13) hx hb hts (tw_i inlX10) hown hK hP hL_now hK_now (by decide) rfl 8 (by decide) (hts _ (tw_c tw_1446)) (pq_hv rfl hR_now_folk) dX5_lacksOf_18 ?_
  refine pg_f (v := .ref now_folk_place) (C := RX0) (T := TX0) (N := 16) hx hb hts (tw_i inlX0) hown hK hP hL_now_folk hK_now_folk (by decide) rfl 5 (by decide) (hts _ (tw_c tw_1459)) (pq_hv rfl hR_now_folk_place) dX5_lacksOf_21 ?_
  refine lv_aload_n hx hb dX5_lacksOf_24 rfl (lv_at hl 2 rfl) ?_
  refine pg_f (v := .ref trial_folk) (C := RX10) (T := TX10) (N := 13) hx hb hts (tw_i inlX10) hown hK hP hL_trial hK_trial (by decide) rfl 8 (by decide) (hts _ (tw_c tw_1446)) (pq_hv rfl hR_trial_folk) dX5_lacksOf_25 ?_
  refine pg_f (v := .ref trial_folk_place) (C := RX0) (T := TX0) (N := 16) hx hb hts (tw_i inlX0) hown hK hP hL_trial_folk hK_trial_folk (by decide) rfl 5 (by decide) (hts _ (tw_c tw_1459)) (pq_hv rfl hR_trial_folk_place) dX5_lacksOf_28 ?_
  refine pk_v (va_runSN (As := [.ref now_folk_place, .ref trial_folk_place]) (rest := []) ⟨hx, hb, hml, hown, hts⟩ (c_X11_copy l D t σ I J ri_3 rj rq H.size now_folk_place trial_folk_place 40 hL_now_folk_place hK_now_folk_place hN_now_folk_place hL_trial_folk_place hK_trial_folk_place hN_trial_folk_place (by omega)) ⟨va_cnB (host := "RingsUnder") 2 hts (tw_W tw_1102) rfl rfl rfl (nl_23 hN) (hts _ (tw_c tw_2)) (by decide +kernel) ⟨Nat.le_of_ble_eq_true rfl, Nat.le_of_ble_eq_true rfl⟩, hts (.static yX11_copy) (by decide +kernel), trivial⟩ ⟨pq_blind, pq_pre hK hN hP hD⟩ rfl rfl hl.1 rfl (lv_room (Nat.le_of_ble_eq_true rfl)) dX5_lacksOf_31 ⟨Nat.le_of_ble_eq_true rfl, Nat.le_of_ble_eq_true rfl⟩) hD hS hA (fun σ1 μ1 H locs hw_7 hP hD hS => ?_)
  obtain ⟨ri_8, hu_9⟩ := hw_7
  obtain ⟨hu_9a, hu_9b⟩ := Prod.mk.inj hu_9
  rw [hu_9a, hu_9b] at hP hD
  refine lv_aload_n hx hb dX5_lacksOf_34 rfl (lv_at hl 0 rfl) ?_
  refine lv_aload_n hx hb dX5_lacksOf_35 rfl (lv_at hl 1 rfl) ?_
  refine pg_f (v := .ref now_folk) (C := RX10) (T := TX10) (N := 13) hx hb hts (tw_i inlX10) hown hK hP hL_now hK_now (by decide) rfl 8 (by decide) (hts _ (tw_c tw_1446)) (pq_hv rfl hR_now_folk) dX5_lacksOf_36 ?_
  refine lv_aload_n hx hb dX5_lacksOf_39 rfl (lv_at hl 1 rfl) ?_
  refine pg_f (v := .ref now_land) (C := RX10) (T := TX10) (N := 13) hx hb hts (tw_i inlX10) hown hK hP hL_now hK_now (by decide) rfl 7 (by decide) (hts _ (tw_c tw_1438)) (pq_hv rfl hR_now_land) dX5_lacksOf_40 ?_
  refine pg_f (v := .int (I 64 now_land)) (C := RX2) (T := TX2) (N := 20) hx hb hts (tw_i inlX2) hown hK hP hL_now_land hK_now_land (by decide) rfl 0 (by decide) (hts _ (tw_c tw_1439)) rfl dX5_lacksOf_43 ?_
  refine lv_tov 0 (congrFun (hZ 64 (by decide)) now_land) ?_
  refine pk_v (va_runV (As := [.ref now_folk, .int 0]) (rest := []) ⟨hx, hb, hml, hown, hts⟩ (c_X5_lineUp l D t σ I J ri_8 rj rq H.size this now_folk hL_this hK_this hL_now_folk hK_now_folk hZ) (cwV 2 hts (tw_V tw_1466 tw_1467 tw_1468 tw_21 tw_1469) rfl rfl rfl (by decide +kernel) ⟨Nat.le_of_ble_eq_true rfl, Nat.le_of_ble_eq_true rfl⟩) ⟨pq_blind, pq_recv hK hP hL_this hK_this (by decide) rfl, pq_pre hK hN hP hD⟩ rfl rfl hl.1 rfl (lv_room (Nat.le_of_ble_eq_true rfl)) dX5_lacksOf_46 ⟨Nat.le_of_ble_eq_true rfl, Nat.le_of_ble_eq_true rfl⟩) hD hS hA (fun σ1 μ1 H locs hw_12 hP hD hS => ?_)
  have hu_13 := hw_12
  obtain ⟨hu_13a, hu_13b⟩ := Prod.mk.inj hu_13
  rw [hu_13a, hu_13b] at hP hD
  refine lv_iconst (v := 0) hx hb dX5_lacksOf_49 (by decide) ?_
  refine lv_istore (lv' := [(4, .int 0), (0, .ref this), (1, .ref now), (2, .ref trial), (3, .int (nI nn))]) hx hb dX5_lacksOf_50 hl (by decide) rfl (fun ls hl => ?_)
  refine lv_iconst (v := 0) hx hb dX5_lacksOf_52 (by decide) ?_
  refine lv_istore (lv' := [(5, .int 0), (4, .int 0), (0, .ref this), (1, .ref now), (2, .ref trial), (3, .int (nI nn))]) hx hb dX5_lacksOf_53 hl (by decide) rfl (fun ls hl => ?_)
  refine lp_X5_lacksOf_55 l D t σ I J ri rj rq this now trial nn hL_this hK_this hL_now hK_now hL_trial hK_trial trial_land hR_trial_land hL_trial_land hK_trial_land trial_land_wells hR_trial_land_wells hL_trial_land_wells hK_trial_land_wells this_dry hR_this_dry hL_this_dry hK_this_dry hN_this_dry now_seas hR_now_seas hL_now_seas hK_now_seas now_seas_rain hR_now_seas_rain hL_now_seas_rain hK_now_seas_rain hN_now_seas_rain trial_folk hR_trial_folk hL_trial_folk hK_trial_folk trial_land_first hR_trial_land_first hL_trial_land_first hK_trial_land_first hN_trial_land_first trial_folk_ofRing hR_trial_folk_ofRing hL_trial_folk_ofRing hK_trial_folk_ofRing hN_trial_folk_ofRing this_beds hR_this_beds hL_this_beds hK_this_beds hN_this_beds now_land hR_now_land hL_now_land hK_now_land now_land_wells hR_now_land_wells hL_now_land_wells hK_now_land_wells now_land_wells_gathers hR_now_land_wells_gathers hL_now_land_wells_gathers hK_now_land_wells_gathers hN_now_land_wells_gathers trial_land_wells_gathers hR_trial_land_wells_gathers hL_trial_land_wells_gathers hK_trial_land_wells_gathers hN_trial_land_wells_gathers now_land_wells_lens hR_now_land_wells_lens hL_now_land_wells_lens hK_now_land_wells_lens hN_now_land_wells_lens trial_land_wells_lens hR_trial_land_wells_lens hL_trial_land_wells_lens hK_trial_land_wells_lens hN_trial_land_wells_lens now_land_wells_salt hR_now_land_wells_salt hL_now_land_wells_salt hK_now_land_wells_salt hN_now_land_wells_salt trial_land_wells_salt hR_trial_land_wells_salt hL_trial_land_wells_salt hK_trial_land_wells_salt hN_trial_land_wells_salt now_folk hR_now_folk hL_now_folk hK_now_folk now_folk_place hR_now_folk_place hL_now_folk_place hK_now_folk_place hN_now_folk_place trial_folk_place hR_trial_folk_place hL_trial_folk_place hK_trial_folk_place hN_trial_folk_place hZ hnn hCn hLe hx hb hml hts hown hK hN hA ⟨rfl, rfl⟩ (fun i_16 ri_15 H locs ls hi_17 hP hD hS hl => ?_) _ 0 ri_8 _ _ _ (Nat.zero_le _) (Nat.lt_succ_self _) hP hD hS (lv_sub hl [0, 1, 2, 3, 4, 5] rfl)
  refine lv_iload hx hb dX5_lacksOf_193 (lv_at hl 1 rfl) ?_
  exact W.iret (v := 0) hx hb hr (fun t1 ht hW => ⟨⟨0, (σ, I, J, ri_15, rj, rq), rfl, ⟨ri_15, rfl, rfl⟩, by rw [ht]; exact hP, va_K.moved hW.alike hK, hD⟩, hS.F ht⟩) hS.2.2 dX5_lacksOf_195

set_option maxHeartbeats 4000000 in
set_option maxRecDepth 100000 in
theorem lp_X5_foresee_12 (l : Launch) (D : va_G) (t : pq_T) (σ : pq_S) (I : Nat → Nat → Int32) (J : Nat → Nat → Int64) (ri : Nat → Nat → Int32) (rj : Nat → Nat → Int64) (rq : Nat → Nat → Option Nat) (this : Nat) (trial : Nat) (rise : Int32) (nn : Nat) (hL_this : this ∈ σ.1) (hK_this : σ.2.1 this = 5) (hL_trial : trial ∈ σ.1) (hK_trial : σ.2.1 trial = 10) (trial_seas : Nat) (hR_trial_seas : σ.2.2.1 326 trial = some trial_seas) (hL_trial_seas : trial_seas ∈ σ.1) (hK_trial_seas : σ.2.1 trial_seas = 7) (trial_land : Nat) (hR_trial_land : σ.2.2.1 327 trial = some trial_land) (hL_trial_land : trial_land ∈ σ.1) (hK_trial_land : σ.2.1 trial_land = 2) (trial_seas_warm : Nat) (hR_trial_seas_warm : σ.2.2.1 231 trial_seas = some trial_seas_warm) (hL_trial_seas_warm : trial_seas_warm ∈ σ.1) (hK_trial_seas_warm : σ.2.1 trial_seas_warm = 13) (hN_trial_seas_warm : σ.2.2.2 trial_seas_warm = 12) (trial_seas_drift : Nat) (hR_trial_seas_drift : σ.2.2.1 232 trial_seas = some trial_seas_drift) (hL_trial_seas_drift : trial_seas_drift ∈ σ.1) (hK_trial_seas_drift : σ.2.1 trial_seas_drift = 13) (hN_trial_seas_drift : σ.2.2.2 trial_seas_drift = 12) (trial_seas_high : Nat) (hR_trial_seas_high : σ.2.2.1 230 trial_seas = some trial_seas_high) (hL_trial_seas_high : trial_seas_high ∈ σ.1) (hK_trial_seas_high : σ.2.1 trial_seas_high = 13) (hN_trial_seas_high : σ.2.2.2 trial_seas_high = 12) (trial_seas_low : Nat) (hR_trial_seas_low : σ.2.2.1 229 trial_seas = some trial_seas_low) (hL_trial_seas_low : trial_seas_low ∈ σ.1) (hK_trial_seas_low : σ.2.1 trial_seas_low = 13) (hN_trial_seas_low : σ.2.2.2 trial_seas_low = 12) (trial_land_rocks : Nat) (hR_trial_land_rocks : σ.2.2.1 68 trial_land = some trial_land_rocks) (hL_trial_land_rocks : trial_land_rocks ∈ σ.1) (hK_trial_land_rocks : σ.2.1 trial_land_rocks = 14) (hN_trial_land_rocks : σ.2.2.2 trial_land_rocks = 600) (this_dry : Nat) (hR_this_dry : σ.2.2.1 165 this = some this_dry) (hL_this_dry : this_dry ∈ σ.1) (hK_this_dry : σ.2.1 this_dry = 14) (hN_this_dry : σ.2.2.2 this_dry = 12) (this_beds : Nat) (hR_this_beds : σ.2.2.1 166 this = some this_beds) (hL_this_beds : this_beds ∈ σ.1) (hK_this_beds : σ.2.1 this_beds = 13) (hN_this_beds : σ.2.2.2 this_beds = 60) (this_may : Nat) (hR_this_may : σ.2.2.1 167 this = some this_may) (hL_this_may : this_may ∈ σ.1) (hK_this_may : σ.2.1 this_may = 14) (hN_this_may : σ.2.2.2 this_may = 12) (trial_law : Nat) (hR_trial_law : σ.2.2.1 329 trial = some trial_law) (hL_trial_law : trial_law ∈ σ.1) (hK_trial_law : σ.2.1 trial_law = 3) (trial_folk : Nat) (hR_trial_folk : σ.2.2.1 328 trial = some trial_folk) (hL_trial_folk : trial_folk ∈ σ.1) (hK_trial_folk : σ.2.1 trial_folk = 0) (hZ : pq_Z I) (hnn : nn ≤ 12) (hCt : I 320 trial = 0) {p : Program} {e : Env} {s : State} {m : MethodId} {args : Array Value} {below : List Frame} {meth : Method} {c : Code} {cells slots : Nat} {Q : State → Prop} {A : Nat → Prop} (hx : p.tables.exec = Jvm.exec) (hb : c.code = cX5_foresee) (hml : c.maxLocals = 7) (hts : ∀ w ∈ (wa yX5_foresee cX5_foresee 7 none), w.before args s = true) (hown : s.vm.findClass RX5 = some m.cls) (hK : va_K D vwCl (pq_ty t) s) (hN : pq_N s) (hA : ∀ q : Nat, s.heap.size ≤ q → A q) (hcs : cells = 0 ∧ slots = 0)
    (kk : ∀ (i : Nat) (I' : Nat → Nat → Int32) (J' : Nat → Nat → Int64) (ri' : Nat → Nat → Int32) (rj' : Nat → Nat → Int64) (H : Heap) (locs : List Loc) (ls : Array Slot), (i ≤ nn) → (pq_Z I') → (I' 320 trial = nI i) → (∀ f, f ∉ ([320] : List Nat) → I' f = I f) → (∀ b, b ≠ trial → I' 320 b = I 320 b) → va_P D vwCl (pq_P t σ (I', J', ri', rj', rq)) H → va_D A (pq_P t σ (I', J', ri', rj', rq)) → va_S A s.heap H locs → lv_has ls 7 [(6, .int (nI i)), (4, .long 0), (0, .ref this), (1, .ref trial), (2, .int rise), (3, .int (nI nn))] → W p l e ({ frames := 3, cells := 0, slots := 0, locals := 71 } : Room) s m args below meth c H locs cells slots Q (F0 m 93 ls [])) :
    ∀ (n : Nat) (i : Nat) (I' : Nat → Nat → Int32) (J' : Nat → Nat → Int64) (ri' : Nat → Nat → Int32) (rj' : Nat → Nat → Int64) (H : Heap) (locs : List Loc) (ls : Array Slot), (i ≤ nn) → (pq_Z I') → (I' 320 trial = nI i) → (∀ f, f ∉ ([320] : List Nat) → I' f = I f) → (∀ b, b ≠ trial → I' 320 b = I 320 b) → (nn - i) < n → va_P D vwCl (pq_P t σ (I', J', ri', rj', rq)) H → va_D A (pq_P t σ (I', J', ri', rj', rq)) → va_S A s.heap H locs → lv_has ls 7 [(6, .int (nI i)), (4, .long 0), (0, .ref this), (1, .ref trial), (2, .int rise), (3, .int (nI nn))] → W p l e ({ frames := 3, cells := 0, slots := 0, locals := 71 } : Room) s m args below meth c H locs cells slots Q (F0 m 12 ls []) := by
  obtain ⟨rfl, rfl⟩ := hcs
  intro n
  induction n with
  | zero => intro i I' J' ri' rj' H locs ls hi hZ' hC' hf ho hm; exact absurd hm (Nat.not_lt_zero _)
  | succ n ih =>
    intro i I' J' ri' rj' H locs ls hi hZ' hC' hf ho hm hP hD hS hl
    refine lv_iload hx hb dX5_foresee_12 (lv_at hl 0 rfl) ?_
    refine lv_iload_n hx hb dX5_foresee_14 rfl (lv_at hl 5 rfl) ?_
    refine lv_icmp_ge (tgt := 93) hx hb dX5_foresee_15 (by decide) (fun c_1 => ?_) (fun c_1 => ?_)
    · have nc_1 := nq_le (a := nn) (b := i) (by omega) (by omega) c_1
      exact kk i I' J' ri' rj' _ _ _ hi hZ' hC' hf ho hP hD hS (lv_sub hl [0, 1, 2, 3, 4, 5] rfl)
    · have nc_1 := nq_nle (a := nn) (b := i) (by omega) (by omega) c_1
      refine lv_aload_n hx hb dX5_foresee_18 rfl (lv_at hl 3 rfl) ?_
      refine lv_iload_n hx hb dX5_foresee_19 rfl (lv_at hl 4 rfl) ?_
      refine pk_v (va_runV (As := [.int rise]) (rest := []) ⟨hx, hb, hml, hown, hts⟩ (c_X10_nature l D t σ I' J' ri' rj' rq H.size trial rise hL_trial hK_trial trial_seas hR_trial_seas hL_trial_seas hK_trial_seas trial_land hR_trial_land hL_trial_land hK_trial_land trial_seas_warm hR_trial_seas_warm hL_trial_seas_warm hK_trial_seas_warm hN_trial_seas_warm trial_seas_drift hR_trial_seas_drift hL_trial_seas_drift hK_trial_seas_drift hN_trial_seas_drift trial_seas_high hR_trial_seas_high hL_trial_seas_high hK_trial_seas_high hN_trial_seas_high trial_seas_low hR_trial_seas_low hL_trial_seas_low hK_trial_seas_low hN_trial_seas_low trial_land_rocks hR_trial_land_rocks hL_trial_land_rocks hK_trial_land_rocks hN_trial_land_rocks hZ' i (by omega) hC') (cwV 1 hts (tw_V tw_1451 tw_1048 tw_1049 tw_15 tw_1050) rfl rfl rfl (by decide +kernel) ⟨Nat.le_of_ble_eq_true rfl, Nat.le_of_ble_eq_true rfl⟩) ⟨pq_blind, pq_recv hK hP hL_trial hK_trial (by decide) rfl, pq_pre hK hN hP hD⟩ rfl rfl hl.1 rfl (lv_room (Nat.le_of_ble_eq_true rfl)) dX5_foresee_20 ⟨Nat.le_of_ble_eq_true rfl, Nat.le_of_ble_eq_true rfl⟩) hD hS hA (fun σ1 μ1 H locs hw_3 hP hD hS => ?_)
      obtain ⟨J_4, rj_5, hu_6⟩ := hw_3
      obtain ⟨hu_6a, hu_6b⟩ := Prod.mk.inj hu_6
      rw [hu_6a, hu_6b] at hP hD
      refine lv_aload_n hx hb dX5_foresee_23 rfl (lv_at hl 2 rfl) ?_
      refine pg_f (v := .ref this_dry) (C := RX5) (T := TX5) (N := 8) hx hb hts (tw_i inlX5) hown hK hP hL_this hK_this (by decide) rfl 5 (by decide) (hts _ (tw_c tw_145)) (pq_hv rfl hR_this_dry) dX5_foresee_24 ?_
      refine lv_iload hx hb dX5_foresee_27 (lv_at hl 0 rfl) ?_
      refine lv_aload_n hx hb dX5_foresee_29 rfl (lv_at hl 3 rfl) ?_
      refine pg_f (v := .ref trial_land) (C := RX10) (T := TX10) (N := 13) hx hb hts (tw_i inlX10) hown hK hP hL_trial hK_trial (by decide) rfl 7 (by decide) (hts _ (tw_c tw_1438)) (pq_hv rfl hR_trial_land) dX5_foresee_30 ?_
      refine pg_f (v := .long (J_4 67 trial_land)) (C := RX2) (T := TX2) (N := 20) hx hb hts (tw_i inlX2) hown hK hP hL_trial_land hK_trial_land (by decide) rfl 3 (by decide) (hts _ (tw_c tw_1447)) rfl dX5_foresee_33 ?_
      refine pt_l hx hb hK hP hD hS hL_this_dry hK_this_dry hN_this_dry (nI_in (c := i) (by omega) (by omega)) dX5_foresee_36 (fun r_8 H locs er_8 hP hD hS => ?_)
      refine lv_aload_n hx hb dX5_foresee_37 rfl (lv_at hl 3 rfl) ?_
      refine pg_f (v := .ref trial_land) (C := RX10) (T := TX10) (N := 13) hx hb hts (tw_i inlX10) hown hK hP hL_trial hK_trial (by decide) rfl 7 (by decide) (hts _ (tw_c tw_1438)) (pq_hv rfl hR_trial_land) dX5_foresee_38 ?_
      refine lv_aload_n hx hb dX5_foresee_41 rfl (lv_at hl 2 rfl) ?_
      refine pg_f (v := .ref this_beds) (C := RX5) (T := TX5) (N := 8) hx hb hts (tw_i inlX5) hown hK hP hL_this hK_this (by decide) rfl 6 (by decide) (hts _ (tw_c tw_146)) (pq_hv rfl hR_this_beds) dX5_foresee_42 ?_
      refine lv_iload hx hb dX5_foresee_45 (lv_at hl 0 rfl) ?_
      refine lv_iconst (v := 5) hx hb dX5_foresee_47 (by decide) ?_
      refine lv_imul hx hb dX5_foresee_48 ?_
      refine lv_tov (nI (i * 5)) (pk_mul i 5) ?_
      refine pk_v (va_runV (As := [.ref this_beds, .int (nI (i * 5))]) (rest := []) ⟨hx, hb, hml, hown, hts⟩ (c_X2_countBeds l D t σ I' J_4 ri' r_8 rq H.size trial_land this_beds (i * 5) 60 hL_trial_land hK_trial_land hL_this_beds hK_this_beds hN_this_beds hZ' ⟨by omega, by omega⟩) (cwV 2 hts (tw_V tw_1452 tw_1091 tw_1092 tw_41 tw_1093) rfl rfl rfl (by decide +kernel) ⟨Nat.le_of_ble_eq_true rfl, Nat.le_of_ble_eq_true rfl⟩) ⟨pq_blind, pq_recv hK hP hL_trial_land hK_trial_land (by decide) rfl, pq_pre hK hN hP hD⟩ rfl rfl hl.1 rfl (lv_room (Nat.le_of_ble_eq_true rfl)) dX5_foresee_49 ⟨Nat.le_of_ble_eq_true rfl, Nat.le_of_ble_eq_true rfl⟩) hD hS hA (fun σ1 μ1 H locs hw_10 hP hD hS => ?_)
      obtain ⟨ri_11, hu_12⟩ := hw_10
      obtain ⟨hu_12a, hu_12b⟩ := Prod.mk.inj hu_12
      rw [hu_12a, hu_12b] at hP hD
      refine lv_aload_n hx hb dX5_foresee_52 rfl (lv_at hl 2 rfl) ?_
      refine pg_f (v := .ref this_may) (C := RX5) (T := TX5) (N := 8) hx hb hts (tw_i inlX5) hown hK hP hL_this hK_this (by decide) rfl 7 (by decide) (hts _ (tw_c tw_147)) (pq_hv rfl hR_this_may) dX5_foresee_53 ?_
      refine lv_iload hx hb dX5_foresee_56 (lv_at hl 0 rfl) ?_
      refine lv_aload_n hx hb dX5_foresee_58 rfl (lv_at hl 3 rfl) ?_
      refine pg_f (v := .ref trial_law) (C := RX10) (T := TX10) (N := 13) hx hb hts (tw_i inlX10) hown hK hP hL_trial hK_trial (by decide) rfl 9 (by decide) (hts _ (tw_c tw_1448)) (pq_hv rfl hR_trial_law) dX5_foresee_59 ?_
      refine lv_iconst (v := 2) hx hb dX5_foresee_62 (by decide) ?_
      refine lv_aload_n hx hb dX5_foresee_63 rfl (lv_at hl 3 rfl) ?_
      refine pg_f (v := .int (I' 320 trial)) (C := RX10) (T := TX10) (N := 13) hx hb hts (tw_i inlX10) hown hK hP hL_trial hK_trial (by decide) rfl 0 (by decide) (hts _ (tw_c tw_1449)) rfl dX5_foresee_64 ?_
      refine lv_tov (nI i) hC' ?_
      refine lv_aload_n hx hb dX5_foresee_67 rfl (lv_at hl 3 rfl) ?_
      refine pg_f (v := .ref trial_folk) (C := RX10) (T := TX10) (N := 13) hx hb hts (tw_i inlX10) hown hK hP hL_trial hK_trial (by decide) rfl 8 (by decide) (hts _ (tw_c tw_1446)) (pq_hv rfl hR_trial_folk) dX5_foresee_68 ?_
      refine lv_lload hx hb dX5_foresee_71 (lv_at hl 1 rfl) ?_
      refine pk_l (va_runV (As := [.int 2, .int (nI i), .ref trial_folk, .long 0]) (rest := [.int (nI i), .ref this_may]) ⟨hx, hb, hml, hown, hts⟩ (c_X3_whoIsSo l D t σ I' J_4 ri_11 r_8 rq H.size trial_law (2 : Int32) (nI i) trial_folk (0 : Int64) hL_trial_law hK_trial_law hL_trial_folk hK_trial_folk hZ') (cwV 4 hts (tw_V tw_1453 tw_964 tw_965 tw_49 tw_966) rfl rfl rfl (by decide +kernel) ⟨Nat.le_of_ble_eq_true rfl, Nat.le_of_ble_eq_true rfl⟩) ⟨pq_blind, pq_recv hK hP hL_trial_law hK_trial_law (by decide) rfl, pq_pre hK hN hP hD⟩ rfl rfl hl.1 rfl (lv_room (Nat.le_of_ble_eq_true rfl)) dX5_foresee_73 ⟨Nat.le_of_ble_eq_true rfl, Nat.le_of_ble_eq_true rfl⟩) hD hS hA (fun r_14 σ1 μ1 H locs hw_15 hP hD hS => ?_)
      obtain ⟨hu_16, hr_17⟩ := hw_15
      obtain ⟨hu_16a, hu_16b⟩ := Prod.mk.inj hu_16
      rw [hu_16a, hu_16b] at hP hD
      refine lv_tovl (0 : Int64) hr_17 ?_
      refine pt_l hx hb hK hP hD hS hL_this_may hK_this_may hN_this_may (nI_in (c := i) (by omega) (by omega)) dX5_foresee_76 (fun r_18 H locs er_18 hP hD hS => ?_)
      refine lv_aload_n hx hb dX5_foresee_77 rfl (lv_at hl 3 rfl) ?_
      refine lv_dup hx hb dX5_foresee_78 rfl ?_
      refine pg_f (v := .int (I' 320 trial)) (C := RX10) (T := TX10) (N := 13) hx hb hts (tw_i inlX10) hown hK hP hL_trial hK_trial (by decide) rfl 0 (by decide) (hts _ (tw_c tw_1449)) rfl dX5_foresee_79 ?_
      refine lv_tov (nI i) hC' ?_
      refine lv_iconst (v := 1) hx hb dX5_foresee_82 (by decide) ?_
      refine lv_iadd hx hb dX5_foresee_83 ?_
      refine lv_tov (nI (i + 1)) (nI_add i 1) ?_
      refine pp_i (v := (nI (i + 1))) (ty := .int) (C := RX10) (T := TX10) (N := 13) hx hb hts (tw_i inlX10) tyX10 tyX10_ok nmX10 hown hK hP hD hS hL_trial hK_trial (by decide) rfl 0 320 (by decide) (hts _ (tw_c tw_1449)) rfl (by decide +kernel) rfl rfl (Nat.le_of_ble_eq_true rfl) (ps_320 _ _ _ _ _) dX5_foresee_84 (fun I_19 H locs eI_19 hP hD hS => ?_)
      refine lv_iinc (v := (nI (i + 1))) (lv' := [(6, .int (nI (i + 1))), (4, .long 0), (0, .ref this), (1, .ref trial), (2, .int rise), (3, .int (nI nn))]) hx hb dX5_foresee_87 hl (k := 0) rfl (nI_1 i) (by decide) rfl (fun ls hl => ?_)
      refine lv_goto (tgt := 12) hx hb dX5_foresee_90 (by decide) ?_
      exact ih (i + 1) I_19 J_4 ri_11 r_18 _ _ _ (by omega) (pq_Zp hZ' eI_19 (by decide)) (by rw [eI_19]; exact pq_us _ _ _ _) (fun f hg => by rw [eI_19, pq_uf _ _ _ (by intro q; subst q; exact hg (by decide)), hf f (fun q => hg (by revert q; simp only [List.mem_cons, List.not_mem_nil, or_false]; omega))]) (fun b hb => by rw [eI_19, pq_ua _ _ _ _ hb]; exact ho b hb) (by omega) hP hD hS (lv_sub hl [0, 1, 2, 3, 4, 5] rfl)

set_option maxHeartbeats 4000000 in
set_option maxRecDepth 100000 in
theorem c_X5_foresee (l : Launch) (D : va_G) (t : pq_T) (σ : pq_S) (I : Nat → Nat → Int32) (J : Nat → Nat → Int64) (ri : Nat → Nat → Int32) (rj : Nat → Nat → Int64) (rq : Nat → Nat → Option Nat) (sz : Nat) (this : Nat) (trial : Nat) (rise : Int32) (nn : Nat) (hL_this : this ∈ σ.1) (hK_this : σ.2.1 this = 5) (hL_trial : trial ∈ σ.1) (hK_trial : σ.2.1 trial = 10) (trial_seas : Nat) (hR_trial_seas : σ.2.2.1 326 trial = some trial_seas) (hL_trial_seas : trial_seas ∈ σ.1) (hK_trial_seas : σ.2.1 trial_seas = 7) (trial_land : Nat) (hR_trial_land : σ.2.2.1 327 trial = some trial_land) (hL_trial_land : trial_land ∈ σ.1) (hK_trial_land : σ.2.1 trial_land = 2) (trial_seas_warm : Nat) (hR_trial_seas_warm : σ.2.2.1 231 trial_seas = some trial_seas_warm) (hL_trial_seas_warm : trial_seas_warm ∈ σ.1) (hK_trial_seas_warm : σ.2.1 trial_seas_warm = 13) (hN_trial_seas_warm : σ.2.2.2 trial_seas_warm = 12) (trial_seas_drift : Nat) (hR_trial_seas_drift : σ.2.2.1 232 trial_seas = some trial_seas_drift) (hL_trial_seas_drift : trial_seas_drift ∈ σ.1) (hK_trial_seas_drift : σ.2.1 trial_seas_drift = 13) (hN_trial_seas_drift : σ.2.2.2 trial_seas_drift = 12) (trial_seas_high : Nat) (hR_trial_seas_high : σ.2.2.1 230 trial_seas = some trial_seas_high) (hL_trial_seas_high : trial_seas_high ∈ σ.1) (hK_trial_seas_high : σ.2.1 trial_seas_high = 13) (hN_trial_seas_high : σ.2.2.2 trial_seas_high = 12) (trial_seas_low : Nat) (hR_trial_seas_low : σ.2.2.1 229 trial_seas = some trial_seas_low) (hL_trial_seas_low : trial_seas_low ∈ σ.1) (hK_trial_seas_low : σ.2.1 trial_seas_low = 13) (hN_trial_seas_low : σ.2.2.2 trial_seas_low = 12) (trial_land_rocks : Nat) (hR_trial_land_rocks : σ.2.2.1 68 trial_land = some trial_land_rocks) (hL_trial_land_rocks : trial_land_rocks ∈ σ.1) (hK_trial_land_rocks : σ.2.1 trial_land_rocks = 14) (hN_trial_land_rocks : σ.2.2.2 trial_land_rocks = 600) (this_dry : Nat) (hR_this_dry : σ.2.2.1 165 this = some this_dry) (hL_this_dry : this_dry ∈ σ.1) (hK_this_dry : σ.2.1 this_dry = 14) (hN_this_dry : σ.2.2.2 this_dry = 12) (this_beds : Nat) (hR_this_beds : σ.2.2.1 166 this = some this_beds) (hL_this_beds : this_beds ∈ σ.1) (hK_this_beds : σ.2.1 this_beds = 13) (hN_this_beds : σ.2.2.2 this_beds = 60) (this_may : Nat) (hR_this_may : σ.2.2.1 167 this = some this_may) (hL_this_may : this_may ∈ σ.1) (hK_this_may : σ.2.1 this_may = 14) (hN_this_may : σ.2.2.2 this_may = 12) (trial_law : Nat) (hR_trial_law : σ.2.2.1 329 trial = some trial_law) (hL_trial_law : trial_law ∈ σ.1) (hK_trial_law : σ.2.1 trial_law = 3) (trial_folk : Nat) (hR_trial_folk : σ.2.2.1 328 trial = some trial_folk) (hL_trial_folk : trial_folk ∈ σ.1) (hK_trial_folk : σ.2.1 trial_folk = 0) (hZ : pq_Z I) (hnn : nn ≤ 12) (hCt : I 320 trial = 0) : MetV l yX5_foresee (wa yX5_foresee cX5_foresee 7 none) ({ frames := 3, cells := 0, slots := 0, locals := 71 }) [.ref this, .ref trial, .int rise, .int (nI nn)] D t σ (I, J, ri, rj, rq) sz 0 0 (fun (u : pq_S × pq_M) => ∃ I' : Nat → Nat → Int32, ∃ J' : Nat → Nat → Int64, ∃ ri' : Nat → Nat → Int32, ∃ rj' : Nat → Nat → Int64, u = (σ, I', J', ri', rj', rq) ∧ (∀ f, f ∉ ([320] : List Nat) → I' f = I f) ∧ (∀ b, b ≠ trial → I' 320 b = I 320 b)) := by
  refine Met.ofW (cc := cX5_foresee) (maxL := 7) (ret := none) (by decide) rfl ?_
  intro p e s m args below meth c s₁ B hml hv
  obtain ⟨rfl, hsz, hP, hK, hD0, hN⟩ := hv
  have hx := B.exec
  have hb := B.bytes
  have hr := B.returns
  have hts := atoms_spec (ws := (wa yX5_foresee cX5_foresee 7 none)) B.pre
  have hown : s.vm.findClass RX5 = some m.cls := findClass_of_methodNamed B.named
  have hlocks := B.notSynchronized
  subst hsz
  have hD : va_D (pq_B t σ (I, J, ri, rj, rq) s.heap.size) (pq_P t σ (I, J, ri, rj, rq)) := hD0.self
  generalize hAe : pq_B t σ (I, J, ri, rj, rq) s.heap.size = A at hD ⊢
  have hA : ∀ q : Nat, s.heap.size ≤ q → A q := fun q h => by rw [← hAe]; exact Or.inr h
  have hS : va_S A s.heap s.heap [] := va_S.rf
  have hl := lv_entry ([.ref this, .ref trial, .int rise, .int (nI nn)]) (n := 7) (Nat.le_of_ble_eq_true rfl)
  rw [lg_entry_eq]
  generalize (lg_sl ([.ref this, .ref trial, .int rise, .int (nI nn)]) ++ List.replicate (7 - (lg_sl ([.ref this, .ref trial, .int rise, .int (nI nn)])).length) Slot.unset).toArray = ls at hl ⊢
  have hl : lv_has ls 7 [(0, .ref this), (1, .ref trial), (2, .int rise), (3, .int (nI nn))] := hl
  refine lv_aload_n hx hb dX5_foresee_0 rfl (lv_at hl 1 rfl) ?_
  refine pg_f (v := .ref trial_folk) (C := RX10) (T := TX10) (N := 13) hx hb hts (tw_i inlX10) hown hK hP hL_trial hK_trial (by decide) rfl 8 (by decide) (hts _ (tw_c tw_1446)) (pq_hv rfl hR_trial_folk) dX5_foresee_1 ?_
  refine pk_l (va_runV (As := []) (rest := []) ⟨hx, hb, hml, hown, hts⟩ (c_X0_onRings l D t σ I J ri rj rq (Array.size s.heap) trial_folk hL_trial_folk hK_trial_folk hZ) (cwV 0 hts (tw_V tw_1450 tw_1163 tw_1164 tw_45 tw_1165) rfl rfl rfl (by decide +kernel) ⟨Nat.le_of_ble_eq_true rfl, Nat.le_of_ble_eq_true rfl⟩) ⟨pq_blind, pq_recv hK hP hL_trial_folk hK_trial_folk (by decide) rfl, pq_pre hK hN hP hD⟩ rfl rfl hl.1 rfl (lv_room (Nat.le_of_ble_eq_true rfl)) dX5_foresee_4 ⟨Nat.le_of_ble_eq_true rfl, Nat.le_of_ble_eq_true rfl⟩) hD hS hA (fun r_1 σ1 μ1 H locs hw_2 hP hD hS => ?_)
  obtain ⟨hu_3, hr_4⟩ := hw_2
  obtain ⟨hu_3a, hu_3b⟩ := Prod.mk.inj hu_3
  rw [hu_3a, hu_3b] at hP hD
  subst hr_4
  refine lv_lstore (lv' := [(4, .long 0), (0, .ref this), (1, .ref trial), (2, .int rise), (3, .int (nI nn))]) hx hb dX5_foresee_7 hl (by decide) rfl (fun ls hl => ?_)
  refine lv_iconst (v := 0) hx hb dX5_foresee_9 (by decide) ?_
  refine lv_istore (lv' := [(6, .int 0), (4, .long 0), (0, .ref this), (1, .ref trial), (2, .int rise), (3, .int (nI nn))]) hx hb dX5_foresee_10 hl (by decide) rfl (fun ls hl => ?_)
  refine lp_X5_foresee_12 l D t σ I J ri rj rq this trial rise nn hL_this hK_this hL_trial hK_trial trial_seas hR_trial_seas hL_trial_seas hK_trial_seas trial_land hR_trial_land hL_trial_land hK_trial_land trial_seas_warm hR_trial_seas_warm hL_trial_seas_warm hK_trial_seas_warm hN_trial_seas_warm trial_seas_drift hR_trial_seas_drift hL_trial_seas_drift hK_trial_seas_drift hN_trial_seas_drift trial_seas_high hR_trial_seas_high hL_trial_seas_high hK_trial_seas_high hN_trial_seas_high trial_seas_low hR_trial_seas_low hL_trial_seas_low hK_trial_seas_low hN_trial_seas_low trial_land_rocks hR_trial_land_rocks hL_trial_land_rocks hK_trial_land_rocks hN_trial_land_rocks this_dry hR_this_dry hL_this_dry hK_this_dry hN_this_dry this_beds hR_this_beds hL_this_beds hK_this_beds hN_this_beds this_may hR_this_may hL_this_may hK_this_may hN_this_may trial_law hR_trial_law hL_trial_law hK_trial_law trial_folk hR_trial_folk hL_trial_folk hK_trial_folk hZ hnn hCt hx hb hml hts hown hK hN hA ⟨rfl, rfl⟩ (fun i_9 I_5 J_6 ri_7 rj_8 H locs ls hi_10 hZ'_11 hC'_12 hf_13 ho_14 hP hD hS hl => ?_) _ 0 I J ri rj _ _ _ (Nat.zero_le _) hZ (Eq.trans (b := (0 : Int32)) hCt nI_0.symm) (fun f hf => rfl) (fun b hb => rfl) (Nat.lt_succ_self _) hP hD hS (lv_sub hl [0, 1, 2, 3, 4, 5] rfl)
  exact W.vret hx hb hr (fun t1 ht hW => ⟨⟨(σ, I_5, J_6, ri_7, rj_8, rq), rfl, ⟨I_5, J_6, ri_7, rj_8, rfl, (fun f hg => by rw [hf_13 f (fun q => hg (by revert q; simp only [List.mem_cons, List.not_mem_nil, or_false]; omega))]), ho_14⟩, by rw [ht]; exact hP, va_K.moved hW.alike hK, hD⟩, hS.F ht⟩) hS.2.2 dX5_foresee_93

set_option maxHeartbeats 4000000 in
set_option maxRecDepth 100000 in
theorem c_X5_seek (l : Launch) (D : va_G) (t : pq_T) (σ : pq_S) (I : Nat → Nat → Int32) (J : Nat → Nat → Int64) (ri : Nat → Nat → Int32) (rj : Nat → Nat → Int64) (rq : Nat → Nat → Option Nat) (sz : Nat) (this : Nat) (now : Nat) (trial : Nat) (rise : Int32) (nn : Nat) (hL_this : this ∈ σ.1) (hK_this : σ.2.1 this = 5) (hL_now : now ∈ σ.1) (hK_now : σ.2.1 now = 10) (hL_trial : trial ∈ σ.1) (hK_trial : σ.2.1 trial = 10) (now_land : Nat) (hR_now_land : σ.2.2.1 327 now = some now_land) (hL_now_land : now_land ∈ σ.1) (hK_now_land : σ.2.1 now_land = 2) (trial_seas : Nat) (hR_trial_seas : σ.2.2.1 326 trial = some trial_seas) (hL_trial_seas : trial_seas ∈ σ.1) (hK_trial_seas : σ.2.1 trial_seas = 7) (trial_land : Nat) (hR_trial_land : σ.2.2.1 327 trial = some trial_land) (hL_trial_land : trial_land ∈ σ.1) (hK_trial_land : σ.2.1 trial_land = 2) (trial_seas_warm : Nat) (hR_trial_seas_warm : σ.2.2.1 231 trial_seas = some trial_seas_warm) (hL_trial_seas_warm : trial_seas_warm ∈ σ.1) (hK_trial_seas_warm : σ.2.1 trial_seas_warm = 13) (hN_trial_seas_warm : σ.2.2.2 trial_seas_warm = 12) (trial_seas_drift : Nat) (hR_trial_seas_drift : σ.2.2.1 232 trial_seas = some trial_seas_drift) (hL_trial_seas_drift : trial_seas_drift ∈ σ.1) (hK_trial_seas_drift : σ.2.1 trial_seas_drift = 13) (hN_trial_seas_drift : σ.2.2.2 trial_seas_drift = 12) (trial_seas_high : Nat) (hR_trial_seas_high : σ.2.2.1 230 trial_seas = some trial_seas_high) (hL_trial_seas_high : trial_seas_high ∈ σ.1) (hK_trial_seas_high : σ.2.1 trial_seas_high = 13) (hN_trial_seas_high : σ.2.2.2 trial_seas_high = 12) (trial_seas_low : Nat) (hR_trial_seas_low : σ.2.2.1 229 trial_seas = some trial_seas_low) (hL_trial_seas_low : trial_seas_low ∈ σ.1) (hK_trial_seas_low : σ.2.1 trial_seas_low = 13) (hN_trial_seas_low : σ.2.2.2 trial_seas_low = 12) (trial_land_rocks : Nat) (hR_trial_land_rocks : σ.2.2.1 68 trial_land = some trial_land_rocks) (hL_trial_land_rocks : trial_land_rocks ∈ σ.1) (hK_trial_land_rocks : σ.2.1 trial_land_rocks = 14) (hN_trial_land_rocks : σ.2.2.2 trial_land_rocks = 600) (this_dry : Nat) (hR_this_dry : σ.2.2.1 165 this = some this_dry) (hL_this_dry : this_dry ∈ σ.1) (hK_this_dry : σ.2.1 this_dry = 14) (hN_this_dry : σ.2.2.2 this_dry = 12) (this_beds : Nat) (hR_this_beds : σ.2.2.1 166 this = some this_beds) (hL_this_beds : this_beds ∈ σ.1) (hK_this_beds : σ.2.1 this_beds = 13) (hN_this_beds : σ.2.2.2 this_beds = 60) (this_may : Nat) (hR_this_may : σ.2.2.1 167 this = some this_may) (hL_this_may : this_may ∈ σ.1) (hK_this_may : σ.2.1 this_may = 14) (hN_this_may : σ.2.2.2 this_may = 12) (trial_law : Nat) (hR_trial_law : σ.2.2.1 329 trial = some trial_law) (hL_trial_law : trial_law ∈ σ.1) (hK_trial_law : σ.2.1 trial_law = 3) (trial_folk : Nat) (hR_trial_folk : σ.2.2.1 328 trial = some trial_folk) (hL_trial_folk : trial_folk ∈ σ.1) (hK_trial_folk : σ.2.1 trial_folk = 0) (trial_land_wells : Nat) (hR_trial_land_wells : σ.2.2.1 78 trial_land = some trial_land_wells) (hL_trial_land_wells : trial_land_wells ∈ σ.1) (hK_trial_land_wells : σ.2.1 trial_land_wells = 9) (now_seas : Nat) (hR_now_seas : σ.2.2.1 326 now = some now_seas) (hL_now_seas : now_seas ∈ σ.1) (hK_now_seas : σ.2.1 now_seas = 7) (now_seas_rain : Nat) (hR_now_seas_rain : σ.2.2.1 233 now_seas = some now_seas_rain) (hL_now_seas_rain : now_seas_rain ∈ σ.1) (hK_now_seas_rain : σ.2.1 now_seas_rain = 13) (hN_now_seas_rain : σ.2.2.2 now_seas_rain = 12) (trial_land_first : Nat) (hR_trial_land_first : σ.2.2.1 80 trial_land = some trial_land_first) (hL_trial_land_first : trial_land_first ∈ σ.1) (hK_trial_land_first : σ.2.1 trial_land_first = 13) (hN_trial_land_first : σ.2.2.2 trial_land_first = 5) (trial_folk_ofRing : Nat) (hR_trial_folk_ofRing : σ.2.2.1 12 trial_folk = some trial_folk_ofRing) (hL_trial_folk_ofRing : trial_folk_ofRing ∈ σ.1) (hK_trial_folk_ofRing : σ.2.1 trial_folk_ofRing = 13) (hN_trial_folk_ofRing : σ.2.2.2 trial_folk_ofRing = 5) (now_land_wells : Nat) (hR_now_land_wells : σ.2.2.1 78 now_land = some now_land_wells) (hL_now_land_wells : now_land_wells ∈ σ.1) (hK_now_land_wells : σ.2.1 now_land_wells = 9) (now_land_wells_gathers : Nat) (hR_now_land_wells_gathers : σ.2.2.1 288 now_land_wells = some now_land_wells_gathers) (hL_now_land_wells_gathers : now_land_wells_gathers ∈ σ.1) (hK_now_land_wells_gathers : σ.2.1 now_land_wells_gathers = 13) (hN_now_land_wells_gathers : σ.2.2.2 now_land_wells_gathers = 40) (trial_land_wells_gathers : Nat) (hR_trial_land_wells_gathers : σ.2.2.1 288 trial_land_wells = some trial_land_wells_gathers) (hL_trial_land_wells_gathers : trial_land_wells_gathers ∈ σ.1) (hK_trial_land_wells_gathers : σ.2.1 trial_land_wells_gathers = 13) (hN_trial_land_wells_gathers : σ.2.2.2 trial_land_wells_gathers = 40) (now_land_wells_lens : Nat) (hR_now_land_wells_lens : σ.2.2.1 289 now_land_wells = some now_land_wells_lens) (hL_now_land_wells_lens : now_land_wells_lens ∈ σ.1) (hK_now_land_wells_lens : σ.2.1 now_land_wells_lens = 13) (hN_now_land_wells_lens : σ.2.2.2 now_land_wells_lens = 40) (trial_land_wells_lens : Nat) (hR_trial_land_wells_lens : σ.2.2.1 289 trial_land_wells = some trial_land_wells_lens) (hL_trial_land_wells_lens : trial_land_wells_lens ∈ σ.1) (hK_trial_land_wells_lens : σ.2.1 trial_land_wells_lens = 13) (hN_trial_land_wells_lens : σ.2.2.2 trial_land_wells_lens = 40) (now_land_wells_salt : Nat) (hR_now_land_wells_salt : σ.2.2.1 290 now_land_wells = some now_land_wells_salt) (hL_now_land_wells_salt : now_land_wells_salt ∈ σ.1) (hK_now_land_wells_salt : σ.2.1 now_land_wells_salt = 13) (hN_now_land_wells_salt : σ.2.2.2 now_land_wells_salt = 40) (trial_land_wells_salt : Nat) (hR_trial_land_wells_salt : σ.2.2.1 290 trial_land_wells = some trial_land_wells_salt) (hL_trial_land_wells_salt : trial_land_wells_salt ∈ σ.1) (hK_trial_land_wells_salt : σ.2.1 trial_land_wells_salt = 13) (hN_trial_land_wells_salt : σ.2.2.2 trial_land_wells_salt = 40) (now_folk : Nat) (hR_now_folk : σ.2.2.1 328 now = some now_folk) (hL_now_folk : now_folk ∈ σ.1) (hK_now_folk : σ.2.1 now_folk = 0) (now_folk_place : Nat) (hR_now_folk_place : σ.2.2.1 5 now_folk = some now_folk_place) (hL_now_folk_place : now_folk_place ∈ σ.1) (hK_now_folk_place : σ.2.1 now_folk_place = 13) (hN_now_folk_place : σ.2.2.2 now_folk_place = 40) (trial_folk_place : Nat) (hR_trial_folk_place : σ.2.2.1 5 trial_folk = some trial_folk_place) (hL_trial_folk_place : trial_folk_place ∈ σ.1) (hK_trial_folk_place : σ.2.1 trial_folk_place = 13) (hN_trial_folk_place : σ.2.2.2 trial_folk_place = 40) (this_order : Nat) (hR_this_order : σ.2.2.1 162 this = some this_order) (hL_this_order : this_order ∈ σ.1) (hK_this_order : σ.2.1 this_order = 13) (hN_this_order : σ.2.2.2 this_order = 5) (this_best : Nat) (hR_this_best : σ.2.2.1 161 this = some this_best) (hL_this_best : this_best ∈ σ.1) (hK_this_best : σ.2.1 this_best = 13) (hN_this_best : σ.2.2.2 this_best = 5) (hZ : pq_Z I) (hnn : nn ≤ 12) (hCt : I 320 trial = 0) (hCn : I 320 now = 0) (hnt : now ≠ trial) : MetV l yX5_seek (wa yX5_seek cX5_seek 9 none) ({ frames := 4, cells := 0, slots := 0, locals := 131 }) [.ref this, .ref now, .ref trial, .int rise, .int (nI nn)] D t σ (I, J, ri, rj, rq) sz 0 0 (fun (u : pq_S × pq_M) => ∃ I' : Nat → Nat → Int32, ∃ J' : Nat → Nat → Int64, ∃ ri' : Nat → Nat → Int32, ∃ rj' : Nat → Nat → Int64, u = (σ, I', J', ri', rj', rq) ∧ (∀ f, f ∉ ([160, 320] : List Nat) → I' f = I f) ∧ (I' 160 this = 0)) := by
  refine Met.ofW (cc := cX5_seek) (maxL := 9) (ret := none) (by decide) rfl ?_
  intro p e s m args below meth c s₁ B hml hv
  obtain ⟨rfl, hsz, hP, hK, hD0, hN⟩ := hv
  have hx := B.exec
  have hb := B.bytes
  have hr := B.returns
  have hts := atoms_spec (ws := (wa yX5_seek cX5_seek 9 none)) B.pre
  have hown : s.vm.findClass RX5 = some m.cls := findClass_of_methodNamed B.named
  have hlocks := B.notSynchronized
  subst hsz
  have hD : va_D (pq_B t σ (I, J, ri, rj, rq) s.heap.size) (pq_P t σ (I, J, ri, rj, rq)) := hD0.self
  generalize hAe : pq_B t σ (I, J, ri, rj, rq) s.heap.size = A at hD ⊢
  have hA : ∀ q : Nat, s.heap.size ≤ q → A q := fun q h => by rw [← hAe]; exact Or.inr h
  have hS : va_S A s.heap s.heap [] := va_S.rf
  have hl := lv_entry ([.ref this, .ref now, .ref trial, .int rise, .int (nI nn)]) (n := 9) (Nat.le_of_ble_eq_true rfl)
  rw [lg_entry_eq]
  generalize (lg_sl ([.ref this, .ref now, .ref trial, .int rise, .int (nI nn)]) ++ List.replicate (9 - (lg_sl ([.ref this, .ref now, .ref trial, .int rise, .int (nI nn)])).length) Slot.unset).toArray = ls at hl ⊢
  have hl : lv_has ls 9 [(0, .ref this), (1, .ref now), (2, .ref trial), (3, .int rise), (4, .int (nI nn))] := hl
  refine lv_aload_n hx hb dX5_seek_0 rfl (lv_at hl 1 rfl) ?_
  refine pg_f (v := .ref now_land) (C := RX10) (T := TX10) (N := 13) hx hb hts (tw_i inlX10) hown hK hP hL_now hK_now (by decide) rfl 7 (by decide) (hts _ (tw_c tw_1438)) (pq_hv rfl hR_now_land) dX5_seek_1 ?_
  refine pg_f (v := .int (I 64 now_land)) (C := RX2) (T := TX2) (N := 20) hx hb hts (tw_i inlX2) hown hK hP hL_now_land hK_now_land (by decide) rfl 0 (by decide) (hts _ (tw_c tw_1439)) rfl dX5_seek_4 ?_
  refine lv_tov 0 (congrFun (hZ 64 (by decide)) now_land) ?_
  refine lv_istore (lv' := [(5, .int 0), (0, .ref this), (1, .ref now), (2, .ref trial), (3, .int rise), (4, .int (nI nn))]) hx hb dX5_seek_7 hl (by decide) rfl (fun ls hl => ?_)
  refine lv_aload_n hx hb dX5_seek_9 rfl (lv_at hl 1 rfl) ?_
  refine lv_aload_n hx hb dX5_seek_10 rfl (lv_at hl 3 rfl) ?_
  refine lv_iload_n hx hb dX5_seek_11 rfl (lv_at hl 4 rfl) ?_
  refine lv_iload hx hb dX5_seek_12 (lv_at hl 5 rfl) ?_
  refine lv_bipush (v := 12) hx hb dX5_seek_14 (by decide) ?_
  refine va_mmin hx hb (hml.trans hl.1.symm) hown (hts _ (tw_c tw_1440)) (hts _ (tw_c tw_467)) (hts _ (tw_c tw_276)) (hts _ (tw_c tw_468)) (Nat.le_of_ble_eq_true rfl) (Nat.le_of_ble_eq_true rfl) (Nat.zero_le _) (Nat.zero_le _) dX5_seek_16 ?_
  refine lv_tov (nI nn) (if_neg (nI_nlt (a := 12) (b := nn) (by omega) (by omega))) ?_
  refine pk_v (va_runV (As := [.ref trial, .int rise, .int (nI nn)]) (rest := []) ⟨hx, hb, hml, hown, hts⟩ (c_X5_foresee l D t σ I J ri rj rq (Array.size s.heap) this trial rise nn hL_this hK_this hL_trial hK_trial trial_seas hR_trial_seas hL_trial_seas hK_trial_seas trial_land hR_trial_land hL_trial_land hK_trial_land trial_seas_warm hR_trial_seas_warm hL_trial_seas_warm hK_trial_seas_warm hN_trial_seas_warm trial_seas_drift hR_trial_seas_drift hL_trial_seas_drift hK_trial_seas_drift hN_trial_seas_drift trial_seas_high hR_trial_seas_high hL_trial_seas_high hK_trial_seas_high hN_trial_seas_high trial_seas_low hR_trial_seas_low hL_trial_seas_low hK_trial_seas_low hN_trial_seas_low trial_land_rocks hR_trial_land_rocks hL_trial_land_rocks hK_trial_land_rocks hN_trial_land_rocks this_dry hR_this_dry hL_this_dry hK_this_dry hN_this_dry this_beds hR_this_beds hL_this_beds hK_this_beds hN_this_beds this_may hR_this_may hL_this_may hK_this_may hN_this_may trial_law hR_trial_law hL_trial_law hK_trial_law trial_folk hR_trial_folk hL_trial_folk hK_trial_folk hZ (by omega) hCt) (cwV 3 hts (tw_V tw_1442 tw_1443 tw_1444 tw_21 tw_1445) rfl rfl rfl (by decide +kernel) ⟨Nat.le_of_ble_eq_true rfl, Nat.le_of_ble_eq_true rfl⟩) ⟨pq_blind, pq_recv hK hP hL_this hK_this (by decide) rfl, pq_pre hK hN hP hD⟩ rfl rfl hl.1 rfl (lv_room (Nat.le_of_ble_eq_true rfl)) dX5_seek_19 ⟨Nat.le_of_ble_eq_true rfl, Nat.le_of_ble_eq_true rfl⟩) hD hS hA (fun σ1 μ1 H locs hw_3 hP hD hS => ?_)
  obtain ⟨I_4, J_5, ri_6, rj_7, hu_8, hu_8f, hu_8p0⟩ := hw_3
  obtain ⟨hu_8a, hu_8b⟩ := Prod.mk.inj hu_8
  rw [hu_8a, hu_8b] at hP hD
  refine lv_iconst (v := 0) hx hb dX5_seek_22 (by decide) ?_
  refine lv_istore (lv' := [(6, .int 0), (5, .int 0), (0, .ref this), (1, .ref now), (2, .ref trial), (3, .int rise), (4, .int (nI nn))]) hx hb dX5_seek_23 hl (by decide) rfl (fun ls hl => ?_)
  refine lv_iload hx hb dX5_seek_25 (lv_at hl 0 rfl) ?_
  refine lv_iload hx hb dX5_seek_27 (lv_at hl 1 rfl) ?_
  refine lv_icmp_ge (tgt := 47) hx hb dX5_seek_29 (by decide) (fun c_10 => ?_) (fun c_10 => absurd c_10 (by decide))
  refine lv_aload_n hx hb dX5_seek_47 rfl (lv_at hl 2 rfl) ?_
  refine lv_sipush (v := 961) hx hb dX5_seek_48 (by decide) ?_
  refine pp_i (v := 961) (ty := .int) (C := RX5) (T := TX5) (N := 8) hx hb hts (tw_i inlX5) tyX5 tyX5_ok nmX5 hown hK hP hD hS hL_this hK_this (by decide) rfl 0 160 (by decide) (hts _ (tw_c tw_1441)) rfl (by decide +kernel) rfl rfl (Nat.le_of_ble_eq_true rfl) (ps_160 _ _ _ _ _) dX5_seek_51 (fun I_11 H locs eI_11 hP hD hS => ?_)
  refine lv_iconst (v := 1) hx hb dX5_seek_54 (by decide) ?_
  refine lv_istore (lv' := [(6, .int 1), (5, .int 0), (0, .ref this), (1, .ref now), (2, .ref trial), (3, .int rise), (4, .int (nI nn))]) hx hb dX5_seek_55 hl (by decide) rfl (fun ls hl => ?_)
  refine lv_iconst (v := 0) hx hb dX5_seek_57 (by decide) ?_
  refine lv_istore (lv' := [(7, .int 0), (6, .int 1), (5, .int 0), (0, .ref this), (1, .ref now), (2, .ref trial), (3, .int rise), (4, .int (nI nn))]) hx hb dX5_seek_58 hl (by decide) rfl (fun ls hl => ?_)
  refine lv_iload hx hb dX5_seek_60 (lv_at hl 0 rfl) ?_
  refine lv_bipush (v := 120) hx hb dX5_seek_62 (by decide) ?_
  refine lv_icmp_ge (tgt := 127) hx hb dX5_seek_64 (by decide) (fun c_12 => absurd c_12 (by decide)) (fun c_12 => ?_)
  refine lv_iload hx hb dX5_seek_67 (lv_at hl 1 rfl) ?_
  refine lv_if_eq (tgt := 127) hx hb dX5_seek_69 (by decide) (fun c_13 => absurd c_13 (by decide)) (fun c_13 => ?_)
  refine lv_aload_n hx hb dX5_seek_72 rfl (lv_at hl 3 rfl) ?_
  refine lv_aload_n hx hb dX5_seek_73 rfl (lv_at hl 4 rfl) ?_
  refine lv_aload_n hx hb dX5_seek_74 rfl (lv_at hl 5 rfl) ?_
  refine lv_iload hx hb dX5_seek_75 (lv_at hl 7 rfl) ?_
  refine lv_bipush (v := 12) hx hb dX5_seek_77 (by decide) ?_
  refine va_mmin hx hb (hml.trans hl.1.symm) hown (hts _ (tw_c tw_1440)) (hts _ (tw_c tw_467)) (hts _ (tw_c tw_276)) (hts _ (tw_c tw_468)) (Nat.le_of_ble_eq_true rfl) (Nat.le_of_ble_eq_true rfl) (Nat.zero_le _) (Nat.zero_le _) dX5_seek_79 ?_
  refine lv_tov (nI nn) (if_neg (nI_nlt (a := 12) (b := nn) (by omega) (by omega))) ?_
  refine pk_i (va_runV (As := [.ref now, .ref trial, .int (nI nn)]) (rest := []) ⟨hx, hb, hml, hown, hts⟩ (c_X5_lacksOf l D t σ I_11 J_5 ri_6 rj_7 rq H.size this now trial nn hL_this hK_this hL_now hK_now hL_trial hK_trial trial_land hR_trial_land hL_trial_land hK_trial_land trial_land_wells hR_trial_land_wells hL_trial_land_wells hK_trial_land_wells this_dry hR_this_dry hL_this_dry hK_this_dry hN_this_dry now_seas hR_now_seas hL_now_seas hK_now_seas now_seas_rain hR_now_seas_rain hL_now_seas_rain hK_now_seas_rain hN_now_seas_rain trial_folk hR_trial_folk hL_trial_folk hK_trial_folk trial_land_first hR_trial_land_first hL_trial_land_first hK_trial_land_first hN_trial_land_first trial_folk_ofRing hR_trial_folk_ofRing hL_trial_folk_ofRing hK_trial_folk_ofRing hN_trial_folk_ofRing this_beds hR_this_beds hL_this_beds hK_this_beds hN_this_beds now_land hR_now_land hL_now_land hK_now_land now_land_wells hR_now_land_wells hL_now_land_wells hK_now_land_wells now_land_wells_gathers hR_now_land_wells_gathers hL_now_land_wells_gathers hK_now_land_wells_gathers hN_now_land_wells_gathers trial_land_wells_gathers hR_trial_land_wells_gathers hL_trial_land_wells_gathers hK_trial_land_wells_gathers hN_trial_land_wells_gathers now_land_wells_lens hR_now_land_wells_lens hL_now_land_wells_lens hK_now_land_wells_lens hN_now_land_wells_lens trial_land_wells_lens hR_trial_land_wells_lens hL_trial_land_wells_lens hK_trial_land_wells_lens hN_trial_land_wells_lens now_land_wells_salt hR_now_land_wells_salt hL_now_land_wells_salt hK_now_land_wells_salt hN_now_land_wells_salt trial_land_wells_salt hR_trial_land_wells_salt hL_trial_land_wells_salt hK_trial_land_wells_salt hN_trial_land_wells_salt now_folk hR_now_folk hL_now_folk hK_now_folk now_folk_place hR_now_folk_place hL_now_folk_place hK_now_folk_place hN_now_folk_place trial_folk_place hR_trial_folk_place hL_trial_folk_place hK_trial_folk_place hN_trial_folk_place (pq_Zp (pq_Zf hZ hu_8f (by decide)) eI_11 (by decide)) (by omega) (by rw [eI_11, pq_uf _ _ _ (by decide)]; exact ((hu_8p0 now hnt).trans hCn)) (by rw [eI_11]; exact pq_us _ _ _ _)) (cwV 3 hts (tw_V tw_1454 tw_1455 tw_1456 tw_21 tw_1457) rfl rfl rfl (by decide +kernel) ⟨Nat.le_of_ble_eq_true rfl, Nat.le_of_ble_eq_true rfl⟩) ⟨pq_blind, pq_recv hK hP hL_this hK_this (by decide) rfl, pq_pre hK hN hP hD⟩ rfl rfl hl.1 rfl (lv_room (Nat.le_of_ble_eq_true rfl)) dX5_seek_82 ⟨Nat.le_of_ble_eq_true rfl, Nat.le_of_ble_eq_true rfl⟩) hD hS hA (fun r_15 σ1 μ1 H locs hw_16 hP hD hS => ?_)
  obtain ⟨ri_17, hu_18, hr_19⟩ := hw_16
  obtain ⟨hu_18a, hu_18b⟩ := Prod.mk.inj hu_18
  rw [hu_18a, hu_18b] at hP hD
  refine lv_tov (0 : Int32) hr_19 ?_
  refine lv_istore (lv' := [(8, .int 0), (7, .int 0), (6, .int 1), (5, .int 0), (0, .ref this), (1, .ref now), (2, .ref trial), (3, .int rise), (4, .int (nI nn))]) hx hb dX5_seek_85 hl (by decide) rfl (fun ls hl => ?_)
  refine lv_iload hx hb dX5_seek_87 (lv_at hl 0 rfl) ?_
  refine lv_aload_n hx hb dX5_seek_89 rfl (lv_at hl 4 rfl) ?_
  refine pg_f (v := .int (I_11 160 this)) (C := RX5) (T := TX5) (N := 8) hx hb hts (tw_i inlX5) hown hK hP hL_this hK_this (by decide) rfl 0 (by decide) (hts _ (tw_c tw_1441)) rfl dX5_seek_90 ?_
  refine lv_tov 961 (by rw [eI_11]; exact pq_us _ _ _ _) ?_
  refine lv_icmp_ge (tgt := 113) hx hb dX5_seek_93 (by decide) (fun c_20 => absurd c_20 (by decide)) (fun c_20 => ?_)
  refine lv_aload_n hx hb dX5_seek_96 rfl (lv_at hl 4 rfl) ?_
  refine lv_iload hx hb dX5_seek_97 (lv_at hl 0 rfl) ?_
  refine pp_i (v := 0) (ty := .int) (C := RX5) (T := TX5) (N := 8) hx hb hts (tw_i inlX5) tyX5 tyX5_ok nmX5 hown hK hP hD hS hL_this hK_this (by decide) rfl 0 160 (by decide) (hts _ (tw_c tw_1441)) rfl (by decide +kernel) rfl rfl (Nat.le_of_ble_eq_true rfl) (ps_160 _ _ _ _ _) dX5_seek_99 (fun I_21 H locs eI_21 hP hD hS => ?_)
  refine lv_aload_n hx hb dX5_seek_102 rfl (lv_at hl 4 rfl) ?_
  refine pg_f (v := .ref this_order) (C := RX5) (T := TX5) (N := 8) hx hb hts (tw_i inlX5) hown hK hP hL_this hK_this (by decide) rfl 2 (by decide) (hts _ (tw_c tw_143)) (pq_hv rfl hR_this_order) dX5_seek_103 ?_
  refine lv_aload_n hx hb dX5_seek_106 rfl (lv_at hl 4 rfl) ?_
  refine pg_f (v := .ref this_best) (C := RX5) (T := TX5) (N := 8) hx hb hts (tw_i inlX5) hown hK hP hL_this hK_this (by decide) rfl 1 (by decide) (hts _ (tw_c tw_142)) (pq_hv rfl hR_this_best) dX5_seek_107 ?_
  refine pk_v (va_runSN (As := [.ref this_order, .ref this_best]) (rest := []) ⟨hx, hb, hml, hown, hts⟩ (c_X11_copy l D t σ I_21 J_5 ri_17 rj_7 rq H.size this_order this_best 5 hL_this_order hK_this_order hN_this_order hL_this_best hK_this_best hN_this_best (by omega)) ⟨va_cnB (host := "RingsUnder") 2 hts (tw_W tw_1102) rfl rfl rfl (nl_23 hN) (hts _ (tw_c tw_2)) (by decide +kernel) ⟨Nat.le_of_ble_eq_true rfl, Nat.le_of_ble_eq_true rfl⟩, hts (.static yX11_copy) (by decide +kernel), trivial⟩ ⟨pq_blind, pq_pre hK hN hP hD⟩ rfl rfl hl.1 rfl (lv_room (Nat.le_of_ble_eq_true rfl)) dX5_seek_110 ⟨Nat.le_of_ble_eq_true rfl, Nat.le_of_ble_eq_true rfl⟩) hD hS hA (fun σ1 μ1 H locs hw_23 hP hD hS => ?_)
  obtain ⟨ri_24, hu_25⟩ := hw_23
  obtain ⟨hu_25a, hu_25b⟩ := Prod.mk.inj hu_25
  rw [hu_25a, hu_25b] at hP hD
  refine lv_aload_n hx hb dX5_seek_113 rfl (lv_at hl 4 rfl) ?_
  refine lv_iload hx hb dX5_seek_114 (lv_at hl 3 rfl) ?_
  refine pk_i (va_runV (As := [.int 0]) (rest := []) ⟨hx, hb, hml, hown, hts⟩ (c_X5_toNextOrder l D t σ I_21 J_5 ri_24 rj_7 rq H.size this hL_this hK_this) (cwV 1 hts (tw_V tw_1475 tw_1476 tw_1477 tw_21 tw_1478) rfl rfl rfl (by decide +kernel) ⟨Nat.le_of_ble_eq_true rfl, Nat.le_of_ble_eq_true rfl⟩) ⟨pq_blind, pq_recv hK hP hL_this hK_this (by decide) rfl, pq_pre hK hN hP hD⟩ rfl rfl hl.1 rfl (lv_room (Nat.le_of_ble_eq_true rfl)) dX5_seek_116 ⟨Nat.le_of_ble_eq_true rfl, Nat.le_of_ble_eq_true rfl⟩) hD hS hA (fun r_27 σ1 μ1 H locs hw_28 hP hD hS => ?_)
  obtain ⟨hu_29, hr_30⟩ := hw_28
  obtain ⟨hu_29a, hu_29b⟩ := Prod.mk.inj hu_29
  rw [hu_29a, hu_29b] at hP hD
  subst hr_30
  refine lv_istore (lv' := [(6, .int 0), (8, .int 0), (7, .int 0), (5, .int 0), (0, .ref this), (1, .ref now), (2, .ref trial), (3, .int rise), (4, .int (nI nn))]) hx hb dX5_seek_119 hl (by decide) rfl (fun ls hl => ?_)
  refine lv_iinc (v := 1) (lv' := [(7, .int 1), (6, .int 0), (8, .int 0), (5, .int 0), (0, .ref this), (1, .ref now), (2, .ref trial), (3, .int rise), (4, .int (nI nn))]) hx hb dX5_seek_121 hl (k := 2) rfl (by decide) (by decide) rfl (fun ls hl => ?_)
  refine lv_goto (tgt := 60) hx hb dX5_seek_124 (by decide) ?_
  refine lv_iload hx hb dX5_seek_60 (lv_at hl 0 rfl) ?_
  refine lv_bipush (v := 120) hx hb dX5_seek_62 (by decide) ?_
  refine lv_icmp_ge (tgt := 127) hx hb dX5_seek_64 (by decide) (fun c_31 => absurd c_31 (by decide)) (fun c_31 => ?_)
  refine lv_iload hx hb dX5_seek_67 (lv_at hl 1 rfl) ?_
  refine lv_if_eq (tgt := 127) hx hb dX5_seek_69 (by decide) (fun c_32 => ?_) (fun c_32 => absurd c_32 (by decide))
  exact W.vret hx hb hr (fun t1 ht hW => ⟨⟨(σ, I_21, J_5, ri_24, rj_7, rq), rfl, ⟨I_21, J_5, ri_24, rj_7, rfl, (fun f hg => by rw [eI_21, pq_uf _ _ _ (by intro q; subst q; exact hg (by decide)), eI_11, pq_uf _ _ _ (by intro q; subst q; exact hg (by decide)), hu_8f f (fun q => hg (by revert q; simp only [List.mem_cons, List.not_mem_nil, or_false]; omega))]), (by rw [eI_21]; exact pq_us _ _ _ _)⟩, by rw [ht]; exact hP, va_K.moved hW.alike hK, hD⟩, hS.F ht⟩) hS.2.2 dX5_seek_127

def sp_order (rise n what : Int32) : Int32 := if (0 ≤ rise ∧ rise ≤ 2 ∧ 1 ≤ n ∧ n ≤ 12) ∧ ((-1) ≤ what ∧ what ≤ (-1)) then 0 else (-1)

set_option maxHeartbeats 4000000 in
set_option maxRecDepth 100000 in
theorem c_X11_order (l : Launch) (D : va_G) (t : pq_T) (σ : pq_S) (I : Nat → Nat → Int32) (J : Nat → Nat → Int64) (ri : Nat → Nat → Int32) (rj : Nat → Nat → Int64) (rq : Nat → Nat → Option Nat) (sz : Nat) (this : Nat) (rise : Int32) (n : Int32) (what : Int32) (hL_this : this ∈ σ.1) (hK_this : σ.2.1 this = 11) (this_now : Nat) (hR_this_now : σ.2.2.1 352 this = some this_now) (hL_this_now : this_now ∈ σ.1) (hK_this_now : σ.2.1 this_now = 10) (this_now_seas : Nat) (hR_this_now_seas : σ.2.2.1 326 this_now = some this_now_seas) (hL_this_now_seas : this_now_seas ∈ σ.1) (hK_this_now_seas : σ.2.1 this_now_seas = 7) (this_trial : Nat) (hR_this_trial : σ.2.2.1 354 this = some this_trial) (hL_this_trial : this_trial ∈ σ.1) (hK_this_trial : σ.2.1 this_trial = 10) (this_now_land : Nat) (hR_this_now_land : σ.2.2.1 327 this_now = some this_now_land) (hL_this_now_land : this_now_land ∈ σ.1) (hK_this_now_land : σ.2.1 this_now_land = 2) (this_now_holder : Nat) (hR_this_now_holder : σ.2.2.1 325 this_now = some this_now_holder) (hL_this_now_holder : this_now_holder ∈ σ.1) (hK_this_now_holder : σ.2.1 this_now_holder = 13) (hN_this_now_holder : σ.2.2.2 this_now_holder = 40) (this_trial_holder : Nat) (hR_this_trial_holder : σ.2.2.1 325 this_trial = some this_trial_holder) (hL_this_trial_holder : this_trial_holder ∈ σ.1) (hK_this_trial_holder : σ.2.1 this_trial_holder = 13) (hN_this_trial_holder : σ.2.2.2 this_trial_holder = 40) (this_trial_seas : Nat) (hR_this_trial_seas : σ.2.2.1 326 this_trial = some this_trial_seas) (hL_this_trial_seas : this_trial_seas ∈ σ.1) (hK_this_trial_seas : σ.2.1 this_trial_seas = 7) (this_now_seas_rise : Nat) (hR_this_now_seas_rise : σ.2.2.1 225 this_now_seas = some this_now_seas_rise) (hL_this_now_seas_rise : this_now_seas_rise ∈ σ.1) (hK_this_now_seas_rise : σ.2.1 this_now_seas_rise = 13) (hN_this_now_seas_rise : σ.2.2.2 this_now_seas_rise = 200) (this_trial_seas_rise : Nat) (hR_this_trial_seas_rise : σ.2.2.1 225 this_trial_seas = some this_trial_seas_rise) (hL_this_trial_seas_rise : this_trial_seas_rise ∈ σ.1) (hK_this_trial_seas_rise : σ.2.1 this_trial_seas_rise = 13) (hN_this_trial_seas_rise : σ.2.2.2 this_trial_seas_rise = 200) (this_now_seas_month : Nat) (hR_this_now_seas_month : σ.2.2.1 226 this_now_seas = some this_now_seas_month) (hL_this_now_seas_month : this_now_seas_month ∈ σ.1) (hK_this_now_seas_month : σ.2.1 this_now_seas_month = 13) (hN_this_now_seas_month : σ.2.2.2 this_now_seas_month = 200) (this_trial_seas_month : Nat) (hR_this_trial_seas_month : σ.2.2.1 226 this_trial_seas = some this_trial_seas_month) (hL_this_trial_seas_month : this_trial_seas_month ∈ σ.1) (hK_this_trial_seas_month : σ.2.1 this_trial_seas_month = 13) (hN_this_trial_seas_month : σ.2.2.2 this_trial_seas_month = 200) (this_now_seas_value : Nat) (hR_this_now_seas_value : σ.2.2.1 227 this_now_seas = some this_now_seas_value) (hL_this_now_seas_value : this_now_seas_value ∈ σ.1) (hK_this_now_seas_value : σ.2.1 this_now_seas_value = 13) (hN_this_now_seas_value : σ.2.2.2 this_now_seas_value = 200) (this_trial_seas_value : Nat) (hR_this_trial_seas_value : σ.2.2.1 227 this_trial_seas = some this_trial_seas_value) (hL_this_trial_seas_value : this_trial_seas_value ∈ σ.1) (hK_this_trial_seas_value : σ.2.1 this_trial_seas_value = 13) (hN_this_trial_seas_value : σ.2.2.2 this_trial_seas_value = 200) (this_now_seas_told : Nat) (hR_this_now_seas_told : σ.2.2.1 228 this_now_seas = some this_now_seas_told) (hL_this_now_seas_told : this_now_seas_told ∈ σ.1) (hK_this_now_seas_told : σ.2.1 this_now_seas_told = 13) (hN_this_now_seas_told : σ.2.2.2 this_now_seas_told = 200) (this_trial_seas_told : Nat) (hR_this_trial_seas_told : σ.2.2.1 228 this_trial_seas = some this_trial_seas_told) (hL_this_trial_seas_told : this_trial_seas_told ∈ σ.1) (hK_this_trial_seas_told : σ.2.1 this_trial_seas_told = 13) (hN_this_trial_seas_told : σ.2.2.2 this_trial_seas_told = 200) (this_now_seas_low : Nat) (hR_this_now_seas_low : σ.2.2.1 229 this_now_seas = some this_now_seas_low) (hL_this_now_seas_low : this_now_seas_low ∈ σ.1) (hK_this_now_seas_low : σ.2.1 this_now_seas_low = 13) (hN_this_now_seas_low : σ.2.2.2 this_now_seas_low = 12) (this_trial_seas_low : Nat) (hR_this_trial_seas_low : σ.2.2.1 229 this_trial_seas = some this_trial_seas_low) (hL_this_trial_seas_low : this_trial_seas_low ∈ σ.1) (hK_this_trial_seas_low : σ.2.1 this_trial_seas_low = 13) (hN_this_trial_seas_low : σ.2.2.2 this_trial_seas_low = 12) (this_now_seas_high : Nat) (hR_this_now_seas_high : σ.2.2.1 230 this_now_seas = some this_now_seas_high) (hL_this_now_seas_high : this_now_seas_high ∈ σ.1) (hK_this_now_seas_high : σ.2.1 this_now_seas_high = 13) (hN_this_now_seas_high : σ.2.2.2 this_now_seas_high = 12) (this_trial_seas_high : Nat) (hR_this_trial_seas_high : σ.2.2.1 230 this_trial_seas = some this_trial_seas_high) (hL_this_trial_seas_high : this_trial_seas_high ∈ σ.1) (hK_this_trial_seas_high : σ.2.1 this_trial_seas_high = 13) (hN_this_trial_seas_high : σ.2.2.2 this_trial_seas_high = 12) (this_now_seas_warm : Nat) (hR_this_now_seas_warm : σ.2.2.1 231 this_now_seas = some this_now_seas_warm) (hL_this_now_seas_warm : this_now_seas_warm ∈ σ.1) (hK_this_now_seas_warm : σ.2.1 this_now_seas_warm = 13) (hN_this_now_seas_warm : σ.2.2.2 this_now_seas_warm = 12) (this_trial_seas_warm : Nat) (hR_this_trial_seas_warm : σ.2.2.1 231 this_trial_seas = some this_trial_seas_warm) (hL_this_trial_seas_warm : this_trial_seas_warm ∈ σ.1) (hK_this_trial_seas_warm : σ.2.1 this_trial_seas_warm = 13) (hN_this_trial_seas_warm : σ.2.2.2 this_trial_seas_warm = 12) (this_now_seas_drift : Nat) (hR_this_now_seas_drift : σ.2.2.1 232 this_now_seas = some this_now_seas_drift) (hL_this_now_seas_drift : this_now_seas_drift ∈ σ.1) (hK_this_now_seas_drift : σ.2.1 this_now_seas_drift = 13) (hN_this_now_seas_drift : σ.2.2.2 this_now_seas_drift = 12) (this_trial_seas_drift : Nat) (hR_this_trial_seas_drift : σ.2.2.1 232 this_trial_seas = some this_trial_seas_drift) (hL_this_trial_seas_drift : this_trial_seas_drift ∈ σ.1) (hK_this_trial_seas_drift : σ.2.1 this_trial_seas_drift = 13) (hN_this_trial_seas_drift : σ.2.2.2 this_trial_seas_drift = 12) (this_now_seas_rain : Nat) (hR_this_now_seas_rain : σ.2.2.1 233 this_now_seas = some this_now_seas_rain) (hL_this_now_seas_rain : this_now_seas_rain ∈ σ.1) (hK_this_now_seas_rain : σ.2.1 this_now_seas_rain = 13) (hN_this_now_seas_rain : σ.2.2.2 this_now_seas_rain = 12) (this_trial_seas_rain : Nat) (hR_this_trial_seas_rain : σ.2.2.1 233 this_trial_seas = some this_trial_seas_rain) (hL_this_trial_seas_rain : this_trial_seas_rain ∈ σ.1) (hK_this_trial_seas_rain : σ.2.1 this_trial_seas_rain = 13) (hN_this_trial_seas_rain : σ.2.2.2 this_trial_seas_rain = 12) (this_trial_land : Nat) (hR_this_trial_land : σ.2.2.1 327 this_trial = some this_trial_land) (hL_this_trial_land : this_trial_land ∈ σ.1) (hK_this_trial_land : σ.2.1 this_trial_land = 2) (this_now_land_rocks : Nat) (hR_this_now_land_rocks : σ.2.2.1 68 this_now_land = some this_now_land_rocks) (hL_this_now_land_rocks : this_now_land_rocks ∈ σ.1) (hK_this_now_land_rocks : σ.2.1 this_now_land_rocks = 14) (hN_this_now_land_rocks : σ.2.2.2 this_now_land_rocks = 600) (this_trial_land_rocks : Nat) (hR_this_trial_land_rocks : σ.2.2.1 68 this_trial_land = some this_trial_land_rocks) (hL_this_trial_land_rocks : this_trial_land_rocks ∈ σ.1) (hK_this_trial_land_rocks : σ.2.1 this_trial_land_rocks = 14) (hN_this_trial_land_rocks : σ.2.2.2 this_trial_land_rocks = 600) (this_now_land_ring : Nat) (hR_this_now_land_ring : σ.2.2.1 69 this_now_land = some this_now_land_ring) (hL_this_now_land_ring : this_now_land_ring ∈ σ.1) (hK_this_now_land_ring : σ.2.1 this_now_land_ring = 13) (hN_this_now_land_ring : σ.2.2.2 this_now_land_ring = 40) (this_trial_land_ring : Nat) (hR_this_trial_land_ring : σ.2.2.1 69 this_trial_land = some this_trial_land_ring) (hL_this_trial_land_ring : this_trial_land_ring ∈ σ.1) (hK_this_trial_land_ring : σ.2.1 this_trial_land_ring = 13) (hN_this_trial_land_ring : σ.2.2.2 this_trial_land_ring = 40) (this_now_land_height : Nat) (hR_this_now_land_height : σ.2.2.1 70 this_now_land = some this_now_land_height) (hL_this_now_land_height : this_now_land_height ∈ σ.1) (hK_this_now_land_height : σ.2.1 this_now_land_height = 13) (hN_this_now_land_height : σ.2.2.2 this_now_land_height = 40) (this_trial_land_height : Nat) (hR_this_trial_land_height : σ.2.2.1 70 this_trial_land = some this_trial_land_height) (hL_this_trial_land_height : this_trial_land_height ∈ σ.1) (hK_this_trial_land_height : σ.2.1 this_trial_land_height = 13) (hN_this_trial_land_height : σ.2.2.2 this_trial_land_height = 40) (this_now_land_x : Nat) (hR_this_now_land_x : σ.2.2.1 71 this_now_land = some this_now_land_x) (hL_this_now_land_x : this_now_land_x ∈ σ.1) (hK_this_now_land_x : σ.2.1 this_now_land_x = 13) (hN_this_now_land_x : σ.2.2.2 this_now_land_x = 40) (this_trial_land_x : Nat) (hR_this_trial_land_x : σ.2.2.1 71 this_trial_land = some this_trial_land_x) (hL_this_trial_land_x : this_trial_land_x ∈ σ.1) (hK_this_trial_land_x : σ.2.1 this_trial_land_x = 13) (hN_this_trial_land_x : σ.2.2.2 this_trial_land_x = 40) (this_now_land_y : Nat) (hR_this_now_land_y : σ.2.2.1 72 this_now_land = some this_now_land_y) (hL_this_now_land_y : this_now_land_y ∈ σ.1) (hK_this_now_land_y : σ.2.1 this_now_land_y = 13) (hN_this_now_land_y : σ.2.2.2 this_now_land_y = 40) (this_trial_land_y : Nat) (hR_this_trial_land_y : σ.2.2.1 72 this_trial_land = some this_trial_land_y) (hL_this_trial_land_y : this_trial_land_y ∈ σ.1) (hK_this_trial_land_y : σ.2.1 this_trial_land_y = 13) (hN_this_trial_land_y : σ.2.2.2 this_trial_land_y = 40) (this_now_land_sand : Nat) (hR_this_now_land_sand : σ.2.2.1 73 this_now_land = some this_now_land_sand) (hL_this_now_land_sand : this_now_land_sand ∈ σ.1) (hK_this_now_land_sand : σ.2.1 this_now_land_sand = 13) (hN_this_now_land_sand : σ.2.2.2 this_now_land_sand = 40) (this_trial_land_sand : Nat) (hR_this_trial_land_sand : σ.2.2.1 73 this_trial_land = some this_trial_land_sand) (hL_this_trial_land_sand : this_trial_land_sand ∈ σ.1) (hK_this_trial_land_sand : σ.2.1 this_trial_land_sand = 13) (hN_this_trial_land_sand : σ.2.2.2 this_trial_land_sand = 40) (this_now_land_reef : Nat) (hR_this_now_land_reef : σ.2.2.1 74 this_now_land = some this_now_land_reef) (hL_this_now_land_reef : this_now_land_reef ∈ σ.1) (hK_this_now_land_reef : σ.2.1 this_now_land_reef = 13) (hN_this_now_land_reef : σ.2.2.2 this_now_land_reef = 40) (this_trial_land_reef : Nat) (hR_this_trial_land_reef : σ.2.2.1 74 this_trial_land = some this_trial_land_reef) (hL_this_trial_land_reef : this_trial_land_reef ∈ σ.1) (hK_this_trial_land_reef : σ.2.1 this_trial_land_reef = 13) (hN_this_trial_land_reef : σ.2.2.2 this_trial_land_reef = 40) (this_now_land_wall : Nat) (hR_this_now_land_wall : σ.2.2.1 75 this_now_land = some this_now_land_wall) (hL_this_now_land_wall : this_now_land_wall ∈ σ.1) (hK_this_now_land_wall : σ.2.1 this_now_land_wall = 13) (hN_this_now_land_wall : σ.2.2.2 this_now_land_wall = 40) (this_trial_land_wall : Nat) (hR_this_trial_land_wall : σ.2.2.1 75 this_trial_land = some this_trial_land_wall) (hL_this_trial_land_wall : this_trial_land_wall ∈ σ.1) (hK_this_trial_land_wall : σ.2.1 this_trial_land_wall = 13) (hN_this_trial_land_wall : σ.2.2.2 this_trial_land_wall = 40) (this_now_land_beds : Nat) (hR_this_now_land_beds : σ.2.2.1 76 this_now_land = some this_now_land_beds) (hL_this_now_land_beds : this_now_land_beds ∈ σ.1) (hK_this_now_land_beds : σ.2.1 this_now_land_beds = 13) (hN_this_now_land_beds : σ.2.2.2 this_now_land_beds = 40) (this_trial_land_beds : Nat) (hR_this_trial_land_beds : σ.2.2.1 76 this_trial_land = some this_trial_land_beds) (hL_this_trial_land_beds : this_trial_land_beds ∈ σ.1) (hK_this_trial_land_beds : σ.2.1 this_trial_land_beds = 13) (hN_this_trial_land_beds : σ.2.2.2 this_trial_land_beds = 40) (this_now_land_under : Nat) (hR_this_now_land_under : σ.2.2.1 77 this_now_land = some this_now_land_under) (hL_this_now_land_under : this_now_land_under ∈ σ.1) (hK_this_now_land_under : σ.2.1 this_now_land_under = 13) (hN_this_now_land_under : σ.2.2.2 this_now_land_under = 40) (this_trial_land_under : Nat) (hR_this_trial_land_under : σ.2.2.1 77 this_trial_land = some this_trial_land_under) (hL_this_trial_land_under : this_trial_land_under ∈ σ.1) (hK_this_trial_land_under : σ.2.1 this_trial_land_under = 13) (hN_this_trial_land_under : σ.2.2.2 this_trial_land_under = 40) (this_trial_land_wells : Nat) (hR_this_trial_land_wells : σ.2.2.1 78 this_trial_land = some this_trial_land_wells) (hL_this_trial_land_wells : this_trial_land_wells ∈ σ.1) (hK_this_trial_land_wells : σ.2.1 this_trial_land_wells = 9) (this_now_land_wells : Nat) (hR_this_now_land_wells : σ.2.2.1 78 this_now_land = some this_now_land_wells) (hL_this_now_land_wells : this_now_land_wells ∈ σ.1) (hK_this_now_land_wells : σ.2.1 this_now_land_wells = 9) (this_now_land_wells_gathers : Nat) (hR_this_now_land_wells_gathers : σ.2.2.1 288 this_now_land_wells = some this_now_land_wells_gathers) (hL_this_now_land_wells_gathers : this_now_land_wells_gathers ∈ σ.1) (hK_this_now_land_wells_gathers : σ.2.1 this_now_land_wells_gathers = 13) (hN_this_now_land_wells_gathers : σ.2.2.2 this_now_land_wells_gathers = 40) (this_trial_land_wells_gathers : Nat) (hR_this_trial_land_wells_gathers : σ.2.2.1 288 this_trial_land_wells = some this_trial_land_wells_gathers) (hL_this_trial_land_wells_gathers : this_trial_land_wells_gathers ∈ σ.1) (hK_this_trial_land_wells_gathers : σ.2.1 this_trial_land_wells_gathers = 13) (hN_this_trial_land_wells_gathers : σ.2.2.2 this_trial_land_wells_gathers = 40) (this_now_land_wells_lens : Nat) (hR_this_now_land_wells_lens : σ.2.2.1 289 this_now_land_wells = some this_now_land_wells_lens) (hL_this_now_land_wells_lens : this_now_land_wells_lens ∈ σ.1) (hK_this_now_land_wells_lens : σ.2.1 this_now_land_wells_lens = 13) (hN_this_now_land_wells_lens : σ.2.2.2 this_now_land_wells_lens = 40) (this_trial_land_wells_lens : Nat) (hR_this_trial_land_wells_lens : σ.2.2.1 289 this_trial_land_wells = some this_trial_land_wells_lens) (hL_this_trial_land_wells_lens : this_trial_land_wells_lens ∈ σ.1) (hK_this_trial_land_wells_lens : σ.2.1 this_trial_land_wells_lens = 13) (hN_this_trial_land_wells_lens : σ.2.2.2 this_trial_land_wells_lens = 40) (this_now_land_wells_salt : Nat) (hR_this_now_land_wells_salt : σ.2.2.1 290 this_now_land_wells = some this_now_land_wells_salt) (hL_this_now_land_wells_salt : this_now_land_wells_salt ∈ σ.1) (hK_this_now_land_wells_salt : σ.2.1 this_now_land_wells_salt = 13) (hN_this_now_land_wells_salt : σ.2.2.2 this_now_land_wells_salt = 40) (this_trial_land_wells_salt : Nat) (hR_this_trial_land_wells_salt : σ.2.2.1 290 this_trial_land_wells = some this_trial_land_wells_salt) (hL_this_trial_land_wells_salt : this_trial_land_wells_salt ∈ σ.1) (hK_this_trial_land_wells_salt : σ.2.1 this_trial_land_wells_salt = 13) (hN_this_trial_land_wells_salt : σ.2.2.2 this_trial_land_wells_salt = 40) (this_now_land_next : Nat) (hR_this_now_land_next : σ.2.2.1 79 this_now_land = some this_now_land_next) (hL_this_now_land_next : this_now_land_next ∈ σ.1) (hK_this_now_land_next : σ.2.1 this_now_land_next = 13) (hN_this_now_land_next : σ.2.2.2 this_now_land_next = 40) (this_trial_land_next : Nat) (hR_this_trial_land_next : σ.2.2.1 79 this_trial_land = some this_trial_land_next) (hL_this_trial_land_next : this_trial_land_next ∈ σ.1) (hK_this_trial_land_next : σ.2.1 this_trial_land_next = 13) (hN_this_trial_land_next : σ.2.2.2 this_trial_land_next = 40) (this_now_land_first : Nat) (hR_this_now_land_first : σ.2.2.1 80 this_now_land = some this_now_land_first) (hL_this_now_land_first : this_now_land_first ∈ σ.1) (hK_this_now_land_first : σ.2.1 this_now_land_first = 13) (hN_this_now_land_first : σ.2.2.2 this_now_land_first = 5) (this_trial_land_first : Nat) (hR_this_trial_land_first : σ.2.2.1 80 this_trial_land = some this_trial_land_first) (hL_this_trial_land_first : this_trial_land_first ∈ σ.1) (hK_this_trial_land_first : σ.2.1 this_trial_land_first = 13) (hN_this_trial_land_first : σ.2.2.2 this_trial_land_first = 5) (this_trial_folk : Nat) (hR_this_trial_folk : σ.2.2.1 328 this_trial = some this_trial_folk) (hL_this_trial_folk : this_trial_folk ∈ σ.1) (hK_this_trial_folk : σ.2.1 this_trial_folk = 0) (this_now_folk : Nat) (hR_this_now_folk : σ.2.2.1 328 this_now = some this_now_folk) (hL_this_now_folk : this_now_folk ∈ σ.1) (hK_this_now_folk : σ.2.1 this_now_folk = 0) (this_now_folk_kin : Nat) (hR_this_now_folk_kin : σ.2.2.1 1 this_now_folk = some this_now_folk_kin) (hL_this_now_folk_kin : this_now_folk_kin ∈ σ.1) (hK_this_now_folk_kin : σ.2.1 this_now_folk_kin = 13) (hN_this_now_folk_kin : σ.2.2.2 this_now_folk_kin = 40) (this_trial_folk_kin : Nat) (hR_this_trial_folk_kin : σ.2.2.1 1 this_trial_folk = some this_trial_folk_kin) (hL_this_trial_folk_kin : this_trial_folk_kin ∈ σ.1) (hK_this_trial_folk_kin : σ.2.1 this_trial_folk_kin = 13) (hN_this_trial_folk_kin : σ.2.2.2 this_trial_folk_kin = 40) (this_now_folk_age : Nat) (hR_this_now_folk_age : σ.2.2.1 2 this_now_folk = some this_now_folk_age) (hL_this_now_folk_age : this_now_folk_age ∈ σ.1) (hK_this_now_folk_age : σ.2.1 this_now_folk_age = 13) (hN_this_now_folk_age : σ.2.2.2 this_now_folk_age = 40) (this_trial_folk_age : Nat) (hR_this_trial_folk_age : σ.2.2.1 2 this_trial_folk = some this_trial_folk_age) (hL_this_trial_folk_age : this_trial_folk_age ∈ σ.1) (hK_this_trial_folk_age : σ.2.1 this_trial_folk_age = 13) (hN_this_trial_folk_age : σ.2.2.2 this_trial_folk_age = 40) (this_now_folk_craft : Nat) (hR_this_now_folk_craft : σ.2.2.1 3 this_now_folk = some this_now_folk_craft) (hL_this_now_folk_craft : this_now_folk_craft ∈ σ.1) (hK_this_now_folk_craft : σ.2.1 this_now_folk_craft = 13) (hN_this_now_folk_craft : σ.2.2.2 this_now_folk_craft = 40) (this_trial_folk_craft : Nat) (hR_this_trial_folk_craft : σ.2.2.1 3 this_trial_folk = some this_trial_folk_craft) (hL_this_trial_folk_craft : this_trial_folk_craft ∈ σ.1) (hK_this_trial_folk_craft : σ.2.1 this_trial_folk_craft = 13) (hN_this_trial_folk_craft : σ.2.2.2 this_trial_folk_craft = 40) (this_now_folk_send : Nat) (hR_this_now_folk_send : σ.2.2.1 4 this_now_folk = some this_now_folk_send) (hL_this_now_folk_send : this_now_folk_send ∈ σ.1) (hK_this_now_folk_send : σ.2.1 this_now_folk_send = 13) (hN_this_now_folk_send : σ.2.2.2 this_now_folk_send = 40) (this_trial_folk_send : Nat) (hR_this_trial_folk_send : σ.2.2.1 4 this_trial_folk = some this_trial_folk_send) (hL_this_trial_folk_send : this_trial_folk_send ∈ σ.1) (hK_this_trial_folk_send : σ.2.1 this_trial_folk_send = 13) (hN_this_trial_folk_send : σ.2.2.2 this_trial_folk_send = 40) (this_now_folk_place : Nat) (hR_this_now_folk_place : σ.2.2.1 5 this_now_folk = some this_now_folk_place) (hL_this_now_folk_place : this_now_folk_place ∈ σ.1) (hK_this_now_folk_place : σ.2.1 this_now_folk_place = 13) (hN_this_now_folk_place : σ.2.2.2 this_now_folk_place = 40) (this_trial_folk_place : Nat) (hR_this_trial_folk_place : σ.2.2.1 5 this_trial_folk = some this_trial_folk_place) (hL_this_trial_folk_place : this_trial_folk_place ∈ σ.1) (hK_this_trial_folk_place : σ.2.1 this_trial_folk_place = 13) (hN_this_trial_folk_place : σ.2.2.2 this_trial_folk_place = 40) (this_now_folk_thirst : Nat) (hR_this_now_folk_thirst : σ.2.2.1 6 this_now_folk = some this_now_folk_thirst) (hL_this_now_folk_thirst : this_now_folk_thirst ∈ σ.1) (hK_this_now_folk_thirst : σ.2.1 this_now_folk_thirst = 13) (hN_this_now_folk_thirst : σ.2.2.2 this_now_folk_thirst = 40) (this_trial_folk_thirst : Nat) (hR_this_trial_folk_thirst : σ.2.2.1 6 this_trial_folk = some this_trial_folk_thirst) (hL_this_trial_folk_thirst : this_trial_folk_thirst ∈ σ.1) (hK_this_trial_folk_thirst : σ.2.1 this_trial_folk_thirst = 13) (hN_this_trial_folk_thirst : σ.2.2.2 this_trial_folk_thirst = 40) (this_now_folk_noBed : Nat) (hR_this_now_folk_noBed : σ.2.2.1 7 this_now_folk = some this_now_folk_noBed) (hL_this_now_folk_noBed : this_now_folk_noBed ∈ σ.1) (hK_this_now_folk_noBed : σ.2.1 this_now_folk_noBed = 13) (hN_this_now_folk_noBed : σ.2.2.2 this_now_folk_noBed = 40) (this_trial_folk_noBed : Nat) (hR_this_trial_folk_noBed : σ.2.2.1 7 this_trial_folk = some this_trial_folk_noBed) (hL_this_trial_folk_noBed : this_trial_folk_noBed ∈ σ.1) (hK_this_trial_folk_noBed : σ.2.1 this_trial_folk_noBed = 13) (hN_this_trial_folk_noBed : σ.2.2.2 this_trial_folk_noBed = 40) (this_now_folk_went : Nat) (hR_this_now_folk_went : σ.2.2.1 8 this_now_folk = some this_now_folk_went) (hL_this_now_folk_went : this_now_folk_went ∈ σ.1) (hK_this_now_folk_went : σ.2.1 this_now_folk_went = 13) (hN_this_now_folk_went : σ.2.2.2 this_now_folk_went = 40) (this_trial_folk_went : Nat) (hR_this_trial_folk_went : σ.2.2.1 8 this_trial_folk = some this_trial_folk_went) (hL_this_trial_folk_went : this_trial_folk_went ∈ σ.1) (hK_this_trial_folk_went : σ.2.1 this_trial_folk_went = 13) (hN_this_trial_folk_went : σ.2.2.2 this_trial_folk_went = 40) (this_now_folk_vote : Nat) (hR_this_now_folk_vote : σ.2.2.1 9 this_now_folk = some this_now_folk_vote) (hL_this_now_folk_vote : this_now_folk_vote ∈ σ.1) (hK_this_now_folk_vote : σ.2.1 this_now_folk_vote = 13) (hN_this_now_folk_vote : σ.2.2.2 this_now_folk_vote = 40) (this_trial_folk_vote : Nat) (hR_this_trial_folk_vote : σ.2.2.1 9 this_trial_folk = some this_trial_folk_vote) (hL_this_trial_folk_vote : this_trial_folk_vote ∈ σ.1) (hK_this_trial_folk_vote : σ.2.1 this_trial_folk_vote = 13) (hN_this_trial_folk_vote : σ.2.2.2 this_trial_folk_vote = 40) (this_now_folk_lotBeds : Nat) (hR_this_now_folk_lotBeds : σ.2.2.1 11 this_now_folk = some this_now_folk_lotBeds) (hL_this_now_folk_lotBeds : this_now_folk_lotBeds ∈ σ.1) (hK_this_now_folk_lotBeds : σ.2.1 this_now_folk_lotBeds = 13) (hN_this_now_folk_lotBeds : σ.2.2.2 this_now_folk_lotBeds = 5) (this_trial_folk_lotBeds : Nat) (hR_this_trial_folk_lotBeds : σ.2.2.1 11 this_trial_folk = some this_trial_folk_lotBeds) (hL_this_trial_folk_lotBeds : this_trial_folk_lotBeds ∈ σ.1) (hK_this_trial_folk_lotBeds : σ.2.1 this_trial_folk_lotBeds = 13) (hN_this_trial_folk_lotBeds : σ.2.2.2 this_trial_folk_lotBeds = 5) (this_trial_law : Nat) (hR_this_trial_law : σ.2.2.1 329 this_trial = some this_trial_law) (hL_this_trial_law : this_trial_law ∈ σ.1) (hK_this_trial_law : σ.2.1 this_trial_law = 3) (this_now_law : Nat) (hR_this_now_law : σ.2.2.1 329 this_now = some this_now_law) (hL_this_now_law : this_now_law ∈ σ.1) (hK_this_now_law : σ.2.1 this_now_law = 3) (this_trial_law_texts : Nat) (hR_this_trial_law_texts : σ.2.2.1 97 this_trial_law = some this_trial_law_texts) (hL_this_trial_law_texts : this_trial_law_texts ∈ σ.1) (hK_this_trial_law_texts : σ.2.1 this_trial_law_texts = 16) (hN_this_trial_law_texts : σ.2.2.2 this_trial_law_texts = 10) (this_now_law_texts : Nat) (hR_this_now_law_texts : σ.2.2.1 97 this_now_law = some this_now_law_texts) (hL_this_now_law_texts : this_now_law_texts ∈ σ.1) (hK_this_now_law_texts : σ.2.1 this_now_law_texts = 16) (hN_this_now_law_texts : σ.2.2.2 this_now_law_texts = 10) (this_now_law_forceText : Nat) (hR_this_now_law_forceText : σ.2.2.1 99 this_now_law = some this_now_law_forceText) (hL_this_now_law_forceText : this_now_law_forceText ∈ σ.1) (hK_this_now_law_forceText : σ.2.1 this_now_law_forceText = 13) (hN_this_now_law_forceText : σ.2.2.2 this_now_law_forceText = 30) (this_trial_law_forceText : Nat) (hR_this_trial_law_forceText : σ.2.2.1 99 this_trial_law = some this_trial_law_forceText) (hL_this_trial_law_forceText : this_trial_law_forceText ∈ σ.1) (hK_this_trial_law_forceText : σ.2.1 this_trial_law_forceText = 13) (hN_this_trial_law_forceText : σ.2.2.2 this_trial_law_forceText = 30) (this_now_law_forceFrom : Nat) (hR_this_now_law_forceFrom : σ.2.2.1 100 this_now_law = some this_now_law_forceFrom) (hL_this_now_law_forceFrom : this_now_law_forceFrom ∈ σ.1) (hK_this_now_law_forceFrom : σ.2.1 this_now_law_forceFrom = 13) (hN_this_now_law_forceFrom : σ.2.2.2 this_now_law_forceFrom = 30) (this_trial_law_forceFrom : Nat) (hR_this_trial_law_forceFrom : σ.2.2.1 100 this_trial_law = some this_trial_law_forceFrom) (hL_this_trial_law_forceFrom : this_trial_law_forceFrom ∈ σ.1) (hK_this_trial_law_forceFrom : σ.2.1 this_trial_law_forceFrom = 13) (hN_this_trial_law_forceFrom : σ.2.2.2 this_trial_law_forceFrom = 30) (this_now_law_forceTo : Nat) (hR_this_now_law_forceTo : σ.2.2.1 101 this_now_law = some this_now_law_forceTo) (hL_this_now_law_forceTo : this_now_law_forceTo ∈ σ.1) (hK_this_now_law_forceTo : σ.2.1 this_now_law_forceTo = 13) (hN_this_now_law_forceTo : σ.2.2.2 this_now_law_forceTo = 30) (this_trial_law_forceTo : Nat) (hR_this_trial_law_forceTo : σ.2.2.1 101 this_trial_law = some this_trial_law_forceTo) (hL_this_trial_law_forceTo : this_trial_law_forceTo ∈ σ.1) (hK_this_trial_law_forceTo : σ.2.1 this_trial_law_forceTo = 13) (hN_this_trial_law_forceTo : σ.2.2.2 this_trial_law_forceTo = 30) (this_trial_graves : Nat) (hR_this_trial_graves : σ.2.2.1 330 this_trial = some this_trial_graves) (hL_this_trial_graves : this_trial_graves ∈ σ.1) (hK_this_trial_graves : σ.2.1 this_trial_graves = 1) (this_now_graves : Nat) (hR_this_now_graves : σ.2.2.1 330 this_now = some this_now_graves) (hL_this_now_graves : this_now_graves ∈ σ.1) (hK_this_now_graves : σ.2.1 this_now_graves = 1) (this_now_graves_cell : Nat) (hR_this_now_graves_cell : σ.2.2.1 33 this_now_graves = some this_now_graves_cell) (hL_this_now_graves_cell : this_now_graves_cell ∈ σ.1) (hK_this_now_graves_cell : σ.2.1 this_now_graves_cell = 13) (hN_this_now_graves_cell : σ.2.2.2 this_now_graves_cell = 30) (this_trial_graves_cell : Nat) (hR_this_trial_graves_cell : σ.2.2.1 33 this_trial_graves = some this_trial_graves_cell) (hL_this_trial_graves_cell : this_trial_graves_cell ∈ σ.1) (hK_this_trial_graves_cell : σ.2.1 this_trial_graves_cell = 13) (hN_this_trial_graves_cell : σ.2.2.2 this_trial_graves_cell = 30) (this_now_graves_lay : Nat) (hR_this_now_graves_lay : σ.2.2.1 34 this_now_graves = some this_now_graves_lay) (hL_this_now_graves_lay : this_now_graves_lay ∈ σ.1) (hK_this_now_graves_lay : σ.2.1 this_now_graves_lay = 14) (hN_this_now_graves_lay : σ.2.2.2 this_now_graves_lay = 30) (this_trial_graves_lay : Nat) (hR_this_trial_graves_lay : σ.2.2.1 34 this_trial_graves = some this_trial_graves_lay) (hL_this_trial_graves_lay : this_trial_graves_lay ∈ σ.1) (hK_this_trial_graves_lay : σ.2.1 this_trial_graves_lay = 14) (hN_this_trial_graves_lay : σ.2.2.2 this_trial_graves_lay = 30) (this_ringOrders : Nat) (hR_this_ringOrders : σ.2.2.1 355 this = some this_ringOrders) (hL_this_ringOrders : this_ringOrders ∈ σ.1) (hK_this_ringOrders : σ.2.1 this_ringOrders = 5) (this_ringOrders_dry : Nat) (hR_this_ringOrders_dry : σ.2.2.1 165 this_ringOrders = some this_ringOrders_dry) (hL_this_ringOrders_dry : this_ringOrders_dry ∈ σ.1) (hK_this_ringOrders_dry : σ.2.1 this_ringOrders_dry = 14) (hN_this_ringOrders_dry : σ.2.2.2 this_ringOrders_dry = 12) (this_ringOrders_beds : Nat) (hR_this_ringOrders_beds : σ.2.2.1 166 this_ringOrders = some this_ringOrders_beds) (hL_this_ringOrders_beds : this_ringOrders_beds ∈ σ.1) (hK_this_ringOrders_beds : σ.2.1 this_ringOrders_beds = 13) (hN_this_ringOrders_beds : σ.2.2.2 this_ringOrders_beds = 60) (this_ringOrders_may : Nat) (hR_this_ringOrders_may : σ.2.2.1 167 this_ringOrders = some this_ringOrders_may) (hL_this_ringOrders_may : this_ringOrders_may ∈ σ.1) (hK_this_ringOrders_may : σ.2.1 this_ringOrders_may = 14) (hN_this_ringOrders_may : σ.2.2.2 this_ringOrders_may = 12) (this_trial_folk_ofRing : Nat) (hR_this_trial_folk_ofRing : σ.2.2.1 12 this_trial_folk = some this_trial_folk_ofRing) (hL_this_trial_folk_ofRing : this_trial_folk_ofRing ∈ σ.1) (hK_this_trial_folk_ofRing : σ.2.1 this_trial_folk_ofRing = 13) (hN_this_trial_folk_ofRing : σ.2.2.2 this_trial_folk_ofRing = 5) (this_ringOrders_order : Nat) (hR_this_ringOrders_order : σ.2.2.1 162 this_ringOrders = some this_ringOrders_order) (hL_this_ringOrders_order : this_ringOrders_order ∈ σ.1) (hK_this_ringOrders_order : σ.2.1 this_ringOrders_order = 13) (hN_this_ringOrders_order : σ.2.2.2 this_ringOrders_order = 5) (this_ringOrders_best : Nat) (hR_this_ringOrders_best : σ.2.2.1 161 this_ringOrders = some this_ringOrders_best) (hL_this_ringOrders_best : this_ringOrders_best ∈ σ.1) (hK_this_ringOrders_best : σ.2.1 this_ringOrders_best = 13) (hN_this_ringOrders_best : σ.2.2.2 this_ringOrders_best = 5) (hZ : pq_Z I) (hC0 : I 320 this_now = 0) (hq0 : rq = fun _ _ => none) (hRe : I 237 this_now_seas = 3) (hnt : this_now ≠ this_trial) : MetI l yX11_order (wa yX11_order cX11_order 5 (some .int)) ({ frames := 5, cells := 0, slots := 0, locals := 159 }) [.ref this, .int rise, .int n, .int what] D t σ (I, J, ri, rj, rq) sz 0 0 (fun (r : Int32) (u : pq_S × pq_M) => ∃ I' : Nat → Nat → Int32, ∃ J' : Nat → Nat → Int64, ∃ ri' : Nat → Nat → Int32, ∃ rj' : Nat → Nat → Int64, u = (σ, I', J', ri', rj', rq) ∧ (∀ f, f ∉ ([160, 234, 235, 236, 237, 238, 320, 323, 324] : List Nat) → I' f = I f) ∧ (r = sp_order rise n what)) := by
  refine Met.ofW (cc := cX11_order) (maxL := 5) (ret := (some .int)) (by decide) rfl ?_
  intro p e s m args below meth c s₁ B hml hv
  obtain ⟨rfl, hsz, hP, hK, hD0, hN⟩ := hv
  have hx := B.exec
  have hb := B.bytes
  have hr := B.returns
  have hts := atoms_spec (ws := (wa yX11_order cX11_order 5 (some .int))) B.pre
  have hown : s.vm.findClass RX11 = some m.cls := findClass_of_methodNamed B.named
  have hlocks := B.notSynchronized
  subst hsz
  have hD : va_D (pq_B t σ (I, J, ri, rj, rq) s.heap.size) (pq_P t σ (I, J, ri, rj, rq)) := hD0.self
  generalize hAe : pq_B t σ (I, J, ri, rj, rq) s.heap.size = A at hD ⊢
  have hA : ∀ q : Nat, s.heap.size ≤ q → A q := fun q h => by rw [← hAe]; exact Or.inr h
  have hS : va_S A s.heap s.heap [] := va_S.rf
  have hl := lv_entry ([.ref this, .int rise, .int n, .int what]) (n := 5) (Nat.le_of_ble_eq_true rfl)
  rw [lg_entry_eq]
  generalize (lg_sl ([.ref this, .int rise, .int n, .int what]) ++ List.replicate (5 - (lg_sl ([.ref this, .int rise, .int n, .int what])).length) Slot.unset).toArray = ls at hl ⊢
  have hl : lv_has ls 5 [(0, .ref this), (1, .int rise), (2, .int n), (3, .int what)] := hl
  refine lv_aload_n hx hb dX11_order_0 rfl (lv_at hl 0 rfl) ?_
  refine lv_iload_n hx hb dX11_order_1 rfl (lv_at hl 1 rfl) ?_
  refine lv_iload_n hx hb dX11_order_2 rfl (lv_at hl 2 rfl) ?_
  refine lv_bipush (v := 12) hx hb dX11_order_3 (by decide) ?_
  refine pk_i (va_runV (As := [.int rise, .int n, .int 12]) (rest := []) ⟨hx, hb, hml, hown, hts⟩ (c_X11_canGoBy l D t σ I J ri rj rq (Array.size s.heap) this rise n (12 : Int32) hL_this hK_this this_now hR_this_now hL_this_now hK_this_now hC0 (by decide)) (cwV 3 hts (tw_V tw_1035 tw_1036 tw_1037 tw_2 tw_1038) rfl rfl rfl (by decide +kernel) ⟨Nat.le_of_ble_eq_true rfl, Nat.le_of_ble_eq_true rfl⟩) ⟨pq_blind, pq_recv hK hP hL_this hK_this (by decide) rfl, pq_pre hK hN hP hD⟩ rfl rfl hl.1 rfl (lv_room (Nat.le_of_ble_eq_true rfl)) dX11_order_5 ⟨Nat.le_of_ble_eq_true rfl, Nat.le_of_ble_eq_true rfl⟩) hD hS hA (fun r_1 σ1 μ1 H locs hw_2 hP hD hS => ?_)
  obtain ⟨hu_3, hr_4⟩ := hw_2
  obtain ⟨hu_3a, hu_3b⟩ := Prod.mk.inj hu_3
  rw [hu_3a, hu_3b] at hP hD
  rcases hr_4 with ⟨rfl, hr_4_0, hr_4_1, hr_4_2, hr_4_3⟩ | ⟨rfl, hr_4_0⟩
  · refine lv_if_eq (tgt := 35) hx hb dX11_order_8 (by decide) (fun c_5 => absurd c_5 (by decide)) (fun c_5 => ?_)
    refine lv_iload_n hx hb dX11_order_11 rfl (lv_at hl 3 rfl) ?_
    refine lv_iconst (v := (-1)) hx hb dX11_order_12 (by decide) ?_
    refine lv_aload_n hx hb dX11_order_13 rfl (lv_at hl 0 rfl) ?_
    refine pg_f (v := .ref this_now) (C := RX11) (T := TX11) (N := 5) hx hb hts (tw_i inlX11) hown hK hP hL_this hK_this (by decide) rfl 0 (by decide) (hts _ (tw_c tw_16)) (pq_hv rfl hR_this_now) dX11_order_14 ?_
    refine pg_f (v := .ref this_now_land) (C := RX10) (T := TX10) (N := 13) hx hb hts (tw_i inlX10) hown hK hP hL_this_now hK_this_now (by decide) rfl 7 (by decide) (hts _ (tw_c tw_199)) (pq_hv rfl hR_this_now_land) dX11_order_17 ?_
    refine pg_f (v := .int (I 64 this_now_land)) (C := RX2) (T := TX2) (N := 20) hx hb hts (tw_i inlX2) hown hK hP hL_this_now_land hK_this_now_land (by decide) rfl 0 (by decide) (hts _ (tw_c tw_200)) rfl dX11_order_20 ?_
    refine lv_tov 0 (congrFun (hZ 64 (by decide)) this_now_land) ?_
    refine lv_iconst (v := 1) hx hb dX11_order_23 (by decide) ?_
    refine lv_isub hx hb dX11_order_24 ?_
    refine lv_tov (-1) (by decide) ?_
    refine pk_i (va_runS (As := [.int what, .int (-1), .int (-1)]) (rest := []) ⟨hx, hb, hml, hown, hts⟩ (c_X11_between l D t σ I J ri rj rq H.size what (-1 : Int32) (-1 : Int32)) (va_cwS 3 hts (tw_S tw_215 tw_216 tw_2 tw_217) rfl rfl rfl (by decide +kernel) ⟨Nat.le_of_ble_eq_true rfl, Nat.le_of_ble_eq_true rfl⟩) ⟨pq_blind, pq_pre hK hN hP hD⟩ rfl rfl hl.1 rfl (lv_room (Nat.le_of_ble_eq_true rfl)) dX11_order_25 ⟨Nat.le_of_ble_eq_true rfl, Nat.le_of_ble_eq_true rfl⟩) hD hS hA (fun r_6 σ1 μ1 H locs hw_7 hP hD hS => ?_)
    obtain ⟨hu_8, hr_9⟩ := hw_7
    obtain ⟨hu_8a, hu_8b⟩ := Prod.mk.inj hu_8
    rw [hu_8a, hu_8b] at hP hD
    rcases hr_9 with ⟨rfl, hr_9_0, hr_9_1⟩ | ⟨rfl, hr_9_0⟩
    · refine lv_if_eq (tgt := 35) hx hb dX11_order_28 (by decide) (fun c_10 => absurd c_10 (by decide)) (fun c_10 => ?_)
      refine lv_iconst (v := 1) hx hb dX11_order_31 (by decide) ?_
      refine lv_goto (tgt := 36) hx hb dX11_order_32 (by decide) ?_
      refine lv_istore (lv' := [(4, .int 1), (0, .ref this), (1, .int rise), (2, .int n), (3, .int what)]) hx hb dX11_order_36 hl (by decide) rfl (fun ls hl => ?_)
      refine lv_iload hx hb dX11_order_38 (lv_at hl 0 rfl) ?_
      refine lv_if_ne (tgt := 45) hx hb dX11_order_40 (by decide) (fun c_11 => ?_) (fun c_11 => absurd c_11 (by decide))
      obtain ⟨nn, hnn0, hnn1, hnn2⟩ := nI_rg hr_4_2 hr_4_3 (by decide)
      have hnn2 : nn ≤ 12 := by have : (12 : Int32).toInt = 12 := rfl; omega
      have hwh : what = (-1) := Int32.le_antisymm hr_9_1 hr_9_0
      rw [hnn0, hwh] at hl
      refine lv_aload_n hx hb dX11_order_45 rfl (lv_at hl 1 rfl) ?_
      refine pg_f (v := .ref this_trial) (C := RX11) (T := TX11) (N := 5) hx hb hts (tw_i inlX11) hown hK hP hL_this hK_this (by decide) rfl 2 (by decide) (hts _ (tw_c tw_18)) (pq_hv rfl hR_this_trial) dX11_order_46 ?_
      refine lv_aload_n hx hb dX11_order_49 rfl (lv_at hl 1 rfl) ?_
      refine pg_f (v := .ref this_now) (C := RX11) (T := TX11) (N := 5) hx hb hts (tw_i inlX11) hown hK hP hL_this hK_this (by decide) rfl 0 (by decide) (hts _ (tw_c tw_16)) (pq_hv rfl hR_this_now) dX11_order_50 ?_
      refine pk_v (va_runV (As := [.ref this_now]) (rest := []) ⟨hx, hb, hml, hown, hts⟩ (c_X10_copyFrom l D t σ I J ri rj rq H.size this_trial this_now hL_this_trial hK_this_trial hL_this_now hK_this_now this_now_seas hR_this_now_seas hL_this_now_seas hK_this_now_seas this_now_holder hR_this_now_holder hL_this_now_holder hK_this_now_holder hN_this_now_holder this_trial_holder hR_this_trial_holder hL_this_trial_holder hK_this_trial_holder hN_this_trial_holder this_trial_seas hR_this_trial_seas hL_this_trial_seas hK_this_trial_seas this_now_seas_rise hR_this_now_seas_rise hL_this_now_seas_rise hK_this_now_seas_rise hN_this_now_seas_rise this_trial_seas_rise hR_this_trial_seas_rise hL_this_trial_seas_rise hK_this_trial_seas_rise hN_this_trial_seas_rise this_now_seas_month hR_this_now_seas_month hL_this_now_seas_month hK_this_now_seas_month hN_this_now_seas_month this_trial_seas_month hR_this_trial_seas_month hL_this_trial_seas_month hK_this_trial_seas_month hN_this_trial_seas_month this_now_seas_value hR_this_now_seas_value hL_this_now_seas_value hK_this_now_seas_value hN_this_now_seas_value this_trial_seas_value hR_this_trial_seas_value hL_this_trial_seas_value hK_this_trial_seas_value hN_this_trial_seas_value this_now_seas_told hR_this_now_seas_told hL_this_now_seas_told hK_this_now_seas_told hN_this_now_seas_told this_trial_seas_told hR_this_trial_seas_told hL_this_trial_seas_told hK_this_trial_seas_told hN_this_trial_seas_told this_now_seas_low hR_this_now_seas_low hL_this_now_seas_low hK_this_now_seas_low hN_this_now_seas_low this_trial_seas_low hR_this_trial_seas_low hL_this_trial_seas_low hK_this_trial_seas_low hN_this_trial_seas_low this_now_seas_high hR_this_now_seas_high hL_this_now_seas_high hK_this_now_seas_high hN_this_now_seas_high this_trial_seas_high hR_this_trial_seas_high hL_this_trial_seas_high hK_this_trial_seas_high hN_this_trial_seas_high this_now_seas_warm hR_this_now_seas_warm hL_this_now_seas_warm hK_this_now_seas_warm hN_this_now_seas_warm this_trial_seas_warm hR_this_trial_seas_warm hL_this_trial_seas_warm hK_this_trial_seas_warm hN_this_trial_seas_warm this_now_seas_drift hR_this_now_seas_drift hL_this_now_seas_drift hK_this_now_seas_drift hN_this_now_seas_drift this_trial_seas_drift hR_this_trial_seas_drift hL_this_trial_seas_drift hK_this_trial_seas_drift hN_this_trial_seas_drift this_now_seas_rain hR_this_now_seas_rain hL_this_now_seas_rain hK_this_now_seas_rain hN_this_now_seas_rain this_trial_seas_rain hR_this_trial_seas_rain hL_this_trial_seas_rain hK_this_trial_seas_rain hN_this_trial_seas_rain this_trial_land hR_this_trial_land hL_this_trial_land hK_this_trial_land this_now_land hR_this_now_land hL_this_now_land hK_this_now_land this_now_land_rocks hR_this_now_land_rocks hL_this_now_land_rocks hK_this_now_land_rocks hN_this_now_land_rocks this_trial_land_rocks hR_this_trial_land_rocks hL_this_trial_land_rocks hK_this_trial_land_rocks hN_this_trial_land_rocks this_now_land_ring hR_this_now_land_ring hL_this_now_land_ring hK_this_now_land_ring hN_this_now_land_ring this_trial_land_ring hR_this_trial_land_ring hL_this_trial_land_ring hK_this_trial_land_ring hN_this_trial_land_ring this_now_land_height hR_this_now_land_height hL_this_now_land_height hK_this_now_land_height hN_this_now_land_height this_trial_land_height hR_this_trial_land_height hL_this_trial_land_height hK_this_trial_land_height hN_this_trial_land_height this_now_land_x hR_this_now_land_x hL_this_now_land_x hK_this_now_land_x hN_this_now_land_x this_trial_land_x hR_this_trial_land_x hL_this_trial_land_x hK_this_trial_land_x hN_this_trial_land_x this_now_land_y hR_this_now_land_y hL_this_now_land_y hK_this_now_land_y hN_this_now_land_y this_trial_land_y hR_this_trial_land_y hL_this_trial_land_y hK_this_trial_land_y hN_this_trial_land_y this_now_land_sand hR_this_now_land_sand hL_this_now_land_sand hK_this_now_land_sand hN_this_now_land_sand this_trial_land_sand hR_this_trial_land_sand hL_this_trial_land_sand hK_this_trial_land_sand hN_this_trial_land_sand this_now_land_reef hR_this_now_land_reef hL_this_now_land_reef hK_this_now_land_reef hN_this_now_land_reef this_trial_land_reef hR_this_trial_land_reef hL_this_trial_land_reef hK_this_trial_land_reef hN_this_trial_land_reef this_now_land_wall hR_this_now_land_wall hL_this_now_land_wall hK_this_now_land_wall hN_this_now_land_wall this_trial_land_wall hR_this_trial_land_wall hL_this_trial_land_wall hK_this_trial_land_wall hN_this_trial_land_wall this_now_land_beds hR_this_now_land_beds hL_this_now_land_beds hK_this_now_land_beds hN_this_now_land_beds this_trial_land_beds hR_this_trial_land_beds hL_this_trial_land_beds hK_this_trial_land_beds hN_this_trial_land_beds this_now_land_under hR_this_now_land_under hL_this_now_land_under hK_this_now_land_under hN_this_now_land_under this_trial_land_under hR_this_trial_land_under hL_this_trial_land_under hK_this_trial_land_under hN_this_trial_land_under this_trial_land_wells hR_this_trial_land_wells hL_this_trial_land_wells hK_this_trial_land_wells this_now_land_wells hR_this_now_land_wells hL_this_now_land_wells hK_this_now_land_wells this_now_land_wells_gathers hR_this_now_land_wells_gathers hL_this_now_land_wells_gathers hK_this_now_land_wells_gathers hN_this_now_land_wells_gathers this_trial_land_wells_gathers hR_this_trial_land_wells_gathers hL_this_trial_land_wells_gathers hK_this_trial_land_wells_gathers hN_this_trial_land_wells_gathers this_now_land_wells_lens hR_this_now_land_wells_lens hL_this_now_land_wells_lens hK_this_now_land_wells_lens hN_this_now_land_wells_lens this_trial_land_wells_lens hR_this_trial_land_wells_lens hL_this_trial_land_wells_lens hK_this_trial_land_wells_lens hN_this_trial_land_wells_lens this_now_land_wells_salt hR_this_now_land_wells_salt hL_this_now_land_wells_salt hK_this_now_land_wells_salt hN_this_now_land_wells_salt this_trial_land_wells_salt hR_this_trial_land_wells_salt hL_this_trial_land_wells_salt hK_this_trial_land_wells_salt hN_this_trial_land_wells_salt this_now_land_next hR_this_now_land_next hL_this_now_land_next hK_this_now_land_next hN_this_now_land_next this_trial_land_next hR_this_trial_land_next hL_this_trial_land_next hK_this_trial_land_next hN_this_trial_land_next this_now_land_first hR_this_now_land_first hL_this_now_land_first hK_this_now_land_first hN_this_now_land_first this_trial_land_first hR_this_trial_land_first hL_this_trial_land_first hK_this_trial_land_first hN_this_trial_land_first this_trial_folk hR_this_trial_folk hL_this_trial_folk hK_this_trial_folk this_now_folk hR_this_now_folk hL_this_now_folk hK_this_now_folk this_now_folk_kin hR_this_now_folk_kin hL_this_now_folk_kin hK_this_now_folk_kin hN_this_now_folk_kin this_trial_folk_kin hR_this_trial_folk_kin hL_this_trial_folk_kin hK_this_trial_folk_kin hN_this_trial_folk_kin this_now_folk_age hR_this_now_folk_age hL_this_now_folk_age hK_this_now_folk_age hN_this_now_folk_age this_trial_folk_age hR_this_trial_folk_age hL_this_trial_folk_age hK_this_trial_folk_age hN_this_trial_folk_age this_now_folk_craft hR_this_now_folk_craft hL_this_now_folk_craft hK_this_now_folk_craft hN_this_now_folk_craft this_trial_folk_craft hR_this_trial_folk_craft hL_this_trial_folk_craft hK_this_trial_folk_craft hN_this_trial_folk_craft this_now_folk_send hR_this_now_folk_send hL_this_now_folk_send hK_this_now_folk_send hN_this_now_folk_send this_trial_folk_send hR_this_trial_folk_send hL_this_trial_folk_send hK_this_trial_folk_send hN_this_trial_folk_send this_now_folk_place hR_this_now_folk_place hL_this_now_folk_place hK_this_now_folk_place hN_this_now_folk_place this_trial_folk_place hR_this_trial_folk_place hL_this_trial_folk_place hK_this_trial_folk_place hN_this_trial_folk_place this_now_folk_thirst hR_this_now_folk_thirst hL_this_now_folk_thirst hK_this_now_folk_thirst hN_this_now_folk_thirst this_trial_folk_thirst hR_this_trial_folk_thirst hL_this_trial_folk_thirst hK_this_trial_folk_thirst hN_this_trial_folk_thirst this_now_folk_noBed hR_this_now_folk_noBed hL_this_now_folk_noBed hK_this_now_folk_noBed hN_this_now_folk_noBed this_trial_folk_noBed hR_this_trial_folk_noBed hL_this_trial_folk_noBed hK_this_trial_folk_noBed hN_this_trial_folk_noBed this_now_folk_went hR_this_now_folk_went hL_this_now_folk_went hK_this_now_folk_went hN_this_now_folk_went this_trial_folk_went hR_this_trial_folk_went hL_this_trial_folk_went hK_this_trial_folk_went hN_this_trial_folk_went this_now_folk_vote hR_this_now_folk_vote hL_this_now_folk_vote hK_this_now_folk_vote hN_this_now_folk_vote this_trial_folk_vote hR_this_trial_folk_vote hL_this_trial_folk_vote hK_this_trial_folk_vote hN_this_trial_folk_vote this_now_folk_lotBeds hR_this_now_folk_lotBeds hL_this_now_folk_lotBeds hK_this_now_folk_lotBeds hN_this_now_folk_lotBeds this_trial_folk_lotBeds hR_this_trial_folk_lotBeds hL_this_trial_folk_lotBeds hK_this_trial_folk_lotBeds hN_this_trial_folk_lotBeds this_trial_law hR_this_trial_law hL_this_trial_law hK_this_trial_law this_now_law hR_this_now_law hL_this_now_law hK_this_now_law this_trial_law_texts hR_this_trial_law_texts hL_this_trial_law_texts hK_this_trial_law_texts hN_this_trial_law_texts this_now_law_texts hR_this_now_law_texts hL_this_now_law_texts hK_this_now_law_texts hN_this_now_law_texts this_now_law_forceText hR_this_now_law_forceText hL_this_now_law_forceText hK_this_now_law_forceText hN_this_now_law_forceText this_trial_law_forceText hR_this_trial_law_forceText hL_this_trial_law_forceText hK_this_trial_law_forceText hN_this_trial_law_forceText this_now_law_forceFrom hR_this_now_law_forceFrom hL_this_now_law_forceFrom hK_this_now_law_forceFrom hN_this_now_law_forceFrom this_trial_law_forceFrom hR_this_trial_law_forceFrom hL_this_trial_law_forceFrom hK_this_trial_law_forceFrom hN_this_trial_law_forceFrom this_now_law_forceTo hR_this_now_law_forceTo hL_this_now_law_forceTo hK_this_now_law_forceTo hN_this_now_law_forceTo this_trial_law_forceTo hR_this_trial_law_forceTo hL_this_trial_law_forceTo hK_this_trial_law_forceTo hN_this_trial_law_forceTo this_trial_graves hR_this_trial_graves hL_this_trial_graves hK_this_trial_graves this_now_graves hR_this_now_graves hL_this_now_graves hK_this_now_graves this_now_graves_cell hR_this_now_graves_cell hL_this_now_graves_cell hK_this_now_graves_cell hN_this_now_graves_cell this_trial_graves_cell hR_this_trial_graves_cell hL_this_trial_graves_cell hK_this_trial_graves_cell hN_this_trial_graves_cell this_now_graves_lay hR_this_now_graves_lay hL_this_now_graves_lay hK_this_now_graves_lay hN_this_now_graves_lay this_trial_graves_lay hR_this_trial_graves_lay hL_this_trial_graves_lay hK_this_trial_graves_lay hN_this_trial_graves_lay hZ hC0 hRe hq0) (cwV 1 hts (tw_V tw_1362 tw_1363 tw_1364 tw_15 tw_1365) rfl rfl rfl (by decide +kernel) ⟨Nat.le_of_ble_eq_true rfl, Nat.le_of_ble_eq_true rfl⟩) ⟨pq_blind, pq_recv hK hP hL_this_trial hK_this_trial (by decide) rfl, pq_pre hK hN hP hD⟩ rfl rfl hl.1 rfl (lv_room (Nat.le_of_ble_eq_true rfl)) dX11_order_53 ⟨Nat.le_of_ble_eq_true rfl, Nat.le_of_ble_eq_true rfl⟩) hD hS hA (fun σ1 μ1 H locs hw_13 hP hD hS => ?_)
      obtain ⟨I_14, J_15, ri_16, rj_17, hu_18, hu_18f, hu_18p0, hu_18p1⟩ := hw_13
      obtain ⟨hu_18a, hu_18b⟩ := Prod.mk.inj hu_18
      rw [hu_18a, hu_18b] at hP hD
      refine lv_aload_n hx hb dX11_order_56 rfl (lv_at hl 1 rfl) ?_
      refine pg_f (v := .ref this_ringOrders) (C := RX11) (T := TX11) (N := 5) hx hb hts (tw_i inlX11) hown hK hP hL_this hK_this (by decide) rfl 3 (by decide) (hts _ (tw_c tw_22)) (pq_hv rfl hR_this_ringOrders) dX11_order_57 ?_
      refine lv_aload_n hx hb dX11_order_60 rfl (lv_at hl 1 rfl) ?_
      refine pg_f (v := .ref this_now) (C := RX11) (T := TX11) (N := 5) hx hb hts (tw_i inlX11) hown hK hP hL_this hK_this (by decide) rfl 0 (by decide) (hts _ (tw_c tw_16)) (pq_hv rfl hR_this_now) dX11_order_61 ?_
      refine lv_aload_n hx hb dX11_order_64 rfl (lv_at hl 1 rfl) ?_
      refine pg_f (v := .ref this_trial) (C := RX11) (T := TX11) (N := 5) hx hb hts (tw_i inlX11) hown hK hP hL_this hK_this (by decide) rfl 2 (by decide) (hts _ (tw_c tw_18)) (pq_hv rfl hR_this_trial) dX11_order_65 ?_
      refine lv_iload_n hx hb dX11_order_68 rfl (lv_at hl 2 rfl) ?_
      refine lv_iload_n hx hb dX11_order_69 rfl (lv_at hl 3 rfl) ?_
      refine pk_v (va_runV (As := [.ref this_now, .ref this_trial, .int rise, .int (nI nn)]) (rest := []) ⟨hx, hb, hml, hown, hts⟩ (c_X5_seek l D t σ I_14 J_15 ri_16 rj_17 rq H.size this_ringOrders this_now this_trial rise nn hL_this_ringOrders hK_this_ringOrders hL_this_now hK_this_now hL_this_trial hK_this_trial this_now_land hR_this_now_land hL_this_now_land hK_this_now_land this_trial_seas hR_this_trial_seas hL_this_trial_seas hK_this_trial_seas this_trial_land hR_this_trial_land hL_this_trial_land hK_this_trial_land this_trial_seas_warm hR_this_trial_seas_warm hL_this_trial_seas_warm hK_this_trial_seas_warm hN_this_trial_seas_warm this_trial_seas_drift hR_this_trial_seas_drift hL_this_trial_seas_drift hK_this_trial_seas_drift hN_this_trial_seas_drift this_trial_seas_high hR_this_trial_seas_high hL_this_trial_seas_high hK_this_trial_seas_high hN_this_trial_seas_high this_trial_seas_low hR_this_trial_seas_low hL_this_trial_seas_low hK_this_trial_seas_low hN_this_trial_seas_low this_trial_land_rocks hR_this_trial_land_rocks hL_this_trial_land_rocks hK_this_trial_land_rocks hN_this_trial_land_rocks this_ringOrders_dry hR_this_ringOrders_dry hL_this_ringOrders_dry hK_this_ringOrders_dry hN_this_ringOrders_dry this_ringOrders_beds hR_this_ringOrders_beds hL_this_ringOrders_beds hK_this_ringOrders_beds hN_this_ringOrders_beds this_ringOrders_may hR_this_ringOrders_may hL_this_ringOrders_may hK_this_ringOrders_may hN_this_ringOrders_may this_trial_law hR_this_trial_law hL_this_trial_law hK_this_trial_law this_trial_folk hR_this_trial_folk hL_this_trial_folk hK_this_trial_folk this_trial_land_wells hR_this_trial_land_wells hL_this_trial_land_wells hK_this_trial_land_wells this_now_seas hR_this_now_seas hL_this_now_seas hK_this_now_seas this_now_seas_rain hR_this_now_seas_rain hL_this_now_seas_rain hK_this_now_seas_rain hN_this_now_seas_rain this_trial_land_first hR_this_trial_land_first hL_this_trial_land_first hK_this_trial_land_first hN_this_trial_land_first this_trial_folk_ofRing hR_this_trial_folk_ofRing hL_this_trial_folk_ofRing hK_this_trial_folk_ofRing hN_this_trial_folk_ofRing this_now_land_wells hR_this_now_land_wells hL_this_now_land_wells hK_this_now_land_wells this_now_land_wells_gathers hR_this_now_land_wells_gathers hL_this_now_land_wells_gathers hK_this_now_land_wells_gathers hN_this_now_land_wells_gathers this_trial_land_wells_gathers hR_this_trial_land_wells_gathers hL_this_trial_land_wells_gathers hK_this_trial_land_wells_gathers hN_this_trial_land_wells_gathers this_now_land_wells_lens hR_this_now_land_wells_lens hL_this_now_land_wells_lens hK_this_now_land_wells_lens hN_this_now_land_wells_lens this_trial_land_wells_lens hR_this_trial_land_wells_lens hL_this_trial_land_wells_lens hK_this_trial_land_wells_lens hN_this_trial_land_wells_lens this_now_land_wells_salt hR_this_now_land_wells_salt hL_this_now_land_wells_salt hK_this_now_land_wells_salt hN_this_now_land_wells_salt this_trial_land_wells_salt hR_this_trial_land_wells_salt hL_this_trial_land_wells_salt hK_this_trial_land_wells_salt hN_this_trial_land_wells_salt this_now_folk hR_this_now_folk hL_this_now_folk hK_this_now_folk this_now_folk_place hR_this_now_folk_place hL_this_now_folk_place hK_this_now_folk_place hN_this_now_folk_place this_trial_folk_place hR_this_trial_folk_place hL_this_trial_folk_place hK_this_trial_folk_place hN_this_trial_folk_place this_ringOrders_order hR_this_ringOrders_order hL_this_ringOrders_order hK_this_ringOrders_order hN_this_ringOrders_order this_ringOrders_best hR_this_ringOrders_best hL_this_ringOrders_best hK_this_ringOrders_best hN_this_ringOrders_best (pq_Zf hZ hu_18f (by decide)) (by omega) hu_18p0.1 ((hu_18p1 this_now hnt).trans hC0) hnt) (cwV 4 hts (tw_V tw_1434 tw_1435 tw_1436 tw_21 tw_1437) rfl rfl rfl (by decide +kernel) ⟨Nat.le_of_ble_eq_true rfl, Nat.le_of_ble_eq_true rfl⟩) ⟨pq_blind, pq_recv hK hP hL_this_ringOrders hK_this_ringOrders (by decide) rfl, pq_pre hK hN hP hD⟩ rfl rfl hl.1 rfl (lv_room (Nat.le_of_ble_eq_true rfl)) dX11_order_70 ⟨Nat.le_of_ble_eq_true rfl, Nat.le_of_ble_eq_true rfl⟩) hD hS hA (fun σ1 μ1 H locs hw_21 hP hD hS => ?_)
      obtain ⟨I_22, J_23, ri_24, rj_25, hu_26, hu_26f, hu_26p0⟩ := hw_21
      obtain ⟨hu_26a, hu_26b⟩ := Prod.mk.inj hu_26
      rw [hu_26a, hu_26b] at hP hD
      refine lv_iload_n hx hb dX11_order_73 rfl (lv_at hl 4 rfl) ?_
      refine lv_iconst (v := (-1)) hx hb dX11_order_74 (by decide) ?_
      refine lv_icmp_ne (tgt := 88) hx hb dX11_order_75 (by decide) (fun c_28 => absurd c_28 (by decide)) (fun c_28 => ?_)
      refine lv_aload_n hx hb dX11_order_78 rfl (lv_at hl 1 rfl) ?_
      refine pg_f (v := .ref this_ringOrders) (C := RX11) (T := TX11) (N := 5) hx hb hts (tw_i inlX11) hown hK hP hL_this hK_this (by decide) rfl 3 (by decide) (hts _ (tw_c tw_22)) (pq_hv rfl hR_this_ringOrders) dX11_order_79 ?_
      refine pg_f (v := .int (I_22 160 this_ringOrders)) (C := RX5) (T := TX5) (N := 8) hx hb hts (tw_i inlX5) hown hK hP hL_this_ringOrders hK_this_ringOrders (by decide) rfl 0 (by decide) (hts _ (tw_c tw_1432)) rfl dX11_order_82 ?_
      refine lv_tov 0 hu_26p0 ?_
      refine lv_goto (tgt := 97) hx hb dX11_order_85 (by decide) ?_
      exact W.iret (v := 0) hx hb hr (fun t1 ht hW => ⟨⟨0, (σ, I_22, J_23, ri_24, rj_25, rq), rfl, ⟨I_22, J_23, ri_24, rj_25, rfl, (fun f hg => by rw [hu_26f f (fun q => hg (by revert q; simp only [List.mem_cons, List.not_mem_nil, or_false]; omega)), hu_18f f (fun q => hg (by revert q; simp only [List.mem_cons, List.not_mem_nil, or_false]; omega))]), (by unfold sp_order; rw [if_pos (show _ from ⟨⟨hr_4_0, hr_4_1, hr_4_2, hr_4_3⟩, ⟨hr_9_0, hr_9_1⟩⟩)])⟩, by rw [ht]; exact hP, va_K.moved hW.alike hK, hD⟩, hS.F ht⟩) hS.2.2 dX11_order_97
    · refine lv_if_eq (tgt := 35) hx hb dX11_order_28 (by decide) (fun c_29 => ?_) (fun c_29 => absurd c_29 (by decide))
      refine lv_iconst (v := 0) hx hb dX11_order_35 (by decide) ?_
      refine lv_istore (lv' := [(4, .int 0), (0, .ref this), (1, .int rise), (2, .int n), (3, .int what)]) hx hb dX11_order_36 hl (by decide) rfl (fun ls hl => ?_)
      refine lv_iload hx hb dX11_order_38 (lv_at hl 0 rfl) ?_
      refine lv_if_ne (tgt := 45) hx hb dX11_order_40 (by decide) (fun c_30 => absurd c_30 (by decide)) (fun c_30 => ?_)
      refine lv_iconst (v := (-1)) hx hb dX11_order_43 (by decide) ?_
      exact W.iret (v := (-1)) hx hb hr (fun t1 ht hW => ⟨⟨(-1), (σ, I, J, ri, rj, rq), rfl, ⟨I, J, ri, rj, rfl, (fun f hg => rfl), (by unfold sp_order; rw [if_neg (fun q => hr_9_0 q.2)])⟩, by rw [ht]; exact hP, va_K.moved hW.alike hK, hD⟩, hS.F ht⟩) hS.2.2 dX11_order_44
  · refine lv_if_eq (tgt := 35) hx hb dX11_order_8 (by decide) (fun c_31 => ?_) (fun c_31 => absurd c_31 (by decide))
    refine lv_iconst (v := 0) hx hb dX11_order_35 (by decide) ?_
    refine lv_istore (lv' := [(4, .int 0), (0, .ref this), (1, .int rise), (2, .int n), (3, .int what)]) hx hb dX11_order_36 hl (by decide) rfl (fun ls hl => ?_)
    refine lv_iload hx hb dX11_order_38 (lv_at hl 0 rfl) ?_
    refine lv_if_ne (tgt := 45) hx hb dX11_order_40 (by decide) (fun c_32 => absurd c_32 (by decide)) (fun c_32 => ?_)
    refine lv_iconst (v := (-1)) hx hb dX11_order_43 (by decide) ?_
    exact W.iret (v := (-1)) hx hb hr (fun t1 ht hW => ⟨⟨(-1), (σ, I, J, ri, rj, rq), rfl, ⟨I, J, ri, rj, rfl, (fun f hg => rfl), (by unfold sp_order; rw [if_neg (fun q => hr_4_0 ⟨⟨q.1.1, q.1.2.1⟩, q.1.2.2⟩)])⟩, by rw [ht]; exact hP, va_K.moved hW.alike hK, hD⟩, hS.F ht⟩) hS.2.2 dX11_order_44
