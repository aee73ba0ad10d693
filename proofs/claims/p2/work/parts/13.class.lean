theorem dX5_lacksOf_0 : decode cX5_lacksOf 0 = .ok (.aload_n 2, 1) := by decide +kernel
theorem dX5_lacksOf_1 : decode cX5_lacksOf 1 = .ok (.getfield 31, 3) := by decide +kernel
theorem tw_1458 : Cond.fieldLink RX5 102 "RingsUnder$Land" "wells" "LRingsUnder$Wells;" ∈ wsL_law := List.mem_of_getElem? (i := 1458) (by decide +kernel)
theorem dX5_lacksOf_4 : decode cX5_lacksOf 4 = .ok (.getfield 102, 3) := by decide +kernel
theorem dX5_lacksOf_7 : decode cX5_lacksOf 7 = .ok (.aload_n 1, 1) := by decide +kernel
theorem dX5_lacksOf_8 : decode cX5_lacksOf 8 = .ok (.getfield 31, 3) := by decide +kernel
theorem dX5_lacksOf_11 : decode cX5_lacksOf 11 = .ok (.getfield 102, 3) := by decide +kernel
theorem tw_1465 : Cond.methodLink RX5 106 yX9_copyFrom ∈ wsL_law := List.mem_of_getElem? (i := 1465) (by decide +kernel)
theorem dX5_lacksOf_14 : decode cX5_lacksOf 14 = .ok (.invokevirtual 106, 3) := by decide +kernel
theorem dX5_lacksOf_17 : decode cX5_lacksOf 17 = .ok (.aload_n 1, 1) := by decide +kernel
theorem dX5_lacksOf_18 : decode cX5_lacksOf 18 = .ok (.getfield 68, 3) := by decide +kernel
theorem dX5_lacksOf_21 : decode cX5_lacksOf 21 = .ok (.getfield 112, 3) := by decide +kernel
theorem dX5_lacksOf_24 : decode cX5_lacksOf 24 = .ok (.aload_n 2, 1) := by decide +kernel
theorem dX5_lacksOf_25 : decode cX5_lacksOf 25 = .ok (.getfield 68, 3) := by decide +kernel
theorem dX5_lacksOf_28 : decode cX5_lacksOf 28 = .ok (.getfield 112, 3) := by decide +kernel
theorem dX5_lacksOf_31 : decode cX5_lacksOf 31 = .ok (.invokestatic 60, 3) := by decide +kernel
theorem dX5_lacksOf_34 : decode cX5_lacksOf 34 = .ok (.aload_n 0, 1) := by decide +kernel
theorem dX5_lacksOf_35 : decode cX5_lacksOf 35 = .ok (.aload_n 1, 1) := by decide +kernel
theorem dX5_lacksOf_36 : decode cX5_lacksOf 36 = .ok (.getfield 68, 3) := by decide +kernel
theorem dX5_lacksOf_39 : decode cX5_lacksOf 39 = .ok (.aload_n 1, 1) := by decide +kernel
theorem dX5_lacksOf_40 : decode cX5_lacksOf 40 = .ok (.getfield 31, 3) := by decide +kernel
theorem tw_1439 : Cond.fieldLink RX5 37 "RingsUnder$Land" "rings" "I" ∈ wsL_law := List.mem_of_getElem? (i := 1439) (by decide +kernel)
theorem dX5_lacksOf_43 : decode cX5_lacksOf 43 = .ok (.getfield 37, 3) := by decide +kernel
theorem tw_1466 : Cond.methodLink RX5 115 yX5_lineUp ∈ wsL_law := List.mem_of_getElem? (i := 1466) (by decide +kernel)
theorem tw_1467 : Cond.instanceMethod yX5_lineUp ∈ wsL_law := List.mem_of_getElem? (i := 1467) (by decide +kernel)
theorem tw_1468 : Cond.selects RX5 yX5_lineUp yX5_lineUp ∈ wsL_law := List.mem_of_getElem? (i := 1468) (by decide +kernel)
theorem tw_21 : Cond.initialized RX5 ∈ wsL_law := List.mem_of_getElem? (i := 21) (by decide +kernel)
theorem tw_1469 : Cond.code yX5_lineUp cX5_lineUp 5 none ∈ wsL_law := List.mem_of_getElem? (i := 1469) (by decide +kernel)
theorem dX5_lacksOf_46 : decode cX5_lacksOf 46 = .ok (.invokevirtual 115, 3) := by decide +kernel
theorem dX5_lacksOf_49 : decode cX5_lacksOf 49 = .ok (.iconst 0, 1) := by decide +kernel
theorem dX5_lacksOf_50 : decode cX5_lacksOf 50 = .ok (.istore 4, 2) := by decide +kernel
theorem dX5_lacksOf_52 : decode cX5_lacksOf 52 = .ok (.iconst 0, 1) := by decide +kernel
theorem dX5_lacksOf_53 : decode cX5_lacksOf 53 = .ok (.istore 5, 2) := by decide +kernel
theorem dX5_lacksOf_55 : decode cX5_lacksOf 55 = .ok (.iload 5, 2) := by decide +kernel
theorem dX5_lacksOf_57 : decode cX5_lacksOf 57 = .ok (.iload_n 3, 1) := by decide +kernel
theorem dX5_lacksOf_193 : decode cX5_lacksOf 193 = .ok (.iload 4, 2) := by decide +kernel
theorem dX5_lacksOf_195 : decode cX5_lacksOf 195 = .ok (.ireturn, 1) := by decide +kernel
theorem dX5_lacksOf_58 : decode cX5_lacksOf 58 = .ok (.if_icmp .ge 135, 3) := by decide +kernel
theorem dX5_lacksOf_61 : decode cX5_lacksOf 61 = .ok (.iload 4, 2) := by decide +kernel
theorem dX5_lacksOf_63 : decode cX5_lacksOf 63 = .ok (.aload_n 0, 1) := by decide +kernel
theorem tw_1441 : Cond.fieldLink RX5 53 "RingsUnder$RingOrders" "least" "I" ∈ wsL_law := List.mem_of_getElem? (i := 1441) (by decide +kernel)
theorem dX5_lacksOf_64 : decode cX5_lacksOf 64 = .ok (.getfield 53, 3) := by decide +kernel
theorem dX5_lacksOf_67 : decode cX5_lacksOf 67 = .ok (.if_icmp .ge 126, 3) := by decide +kernel
theorem dX5_lacksOf_70 : decode cX5_lacksOf 70 = .ok (.aload_n 1, 1) := by decide +kernel
theorem dX5_lacksOf_71 : decode cX5_lacksOf 71 = .ok (.getfield 93, 3) := by decide +kernel
theorem dX5_lacksOf_74 : decode cX5_lacksOf 74 = .ok (.iload 5, 2) := by decide +kernel
theorem dX5_lacksOf_76 : decode cX5_lacksOf 76 = .ok (.iadd, 1) := by decide +kernel
theorem dX5_lacksOf_77 : decode cX5_lacksOf 77 = .ok (.istore 6, 2) := by decide +kernel
theorem dX5_lacksOf_79 : decode cX5_lacksOf 79 = .ok (.aload_n 2, 1) := by decide +kernel
theorem dX5_lacksOf_80 : decode cX5_lacksOf 80 = .ok (.getfield 31, 3) := by decide +kernel
theorem dX5_lacksOf_83 : decode cX5_lacksOf 83 = .ok (.getfield 102, 3) := by decide +kernel
theorem dX5_lacksOf_86 : decode cX5_lacksOf 86 = .ok (.aload_n 2, 1) := by decide +kernel
theorem dX5_lacksOf_87 : decode cX5_lacksOf 87 = .ok (.getfield 31, 3) := by decide +kernel
theorem tw_1460 : Cond.fieldLink RX5 119 "RingsUnder$Land" "cells" "I" ∈ wsL_law := List.mem_of_getElem? (i := 1460) (by decide +kernel)
theorem dX5_lacksOf_90 : decode cX5_lacksOf 90 = .ok (.getfield 119, 3) := by decide +kernel
theorem dX5_lacksOf_93 : decode cX5_lacksOf 93 = .ok (.aload_n 0, 1) := by decide +kernel
theorem dX5_lacksOf_94 : decode cX5_lacksOf 94 = .ok (.getfield 21, 3) := by decide +kernel
theorem dX5_lacksOf_97 : decode cX5_lacksOf 97 = .ok (.iload 5, 2) := by decide +kernel
theorem dX5_lacksOf_99 : decode cX5_lacksOf 99 = .ok (.laload, 1) := by decide +kernel
theorem dX5_lacksOf_100 : decode cX5_lacksOf 100 = .ok (.aload_n 1, 1) := by decide +kernel
theorem tw_1461 : Cond.fieldLink RX5 122 "RingsUnder$World" "seas" "LRingsUnder$Seas;" ∈ wsL_law := List.mem_of_getElem? (i := 1461) (by decide +kernel)
theorem dX5_lacksOf_101 : decode cX5_lacksOf 101 = .ok (.getfield 122, 3) := by decide +kernel
theorem tw_1462 : Cond.fieldLink RX5 126 "RingsUnder$Seas" "rain" "[I" ∈ wsL_law := List.mem_of_getElem? (i := 1462) (by decide +kernel)
theorem dX5_lacksOf_104 : decode cX5_lacksOf 104 = .ok (.getfield 126, 3) := by decide +kernel
theorem dX5_lacksOf_107 : decode cX5_lacksOf 107 = .ok (.iload 6, 2) := by decide +kernel
theorem dX5_lacksOf_109 : decode cX5_lacksOf 109 = .ok (.bipush 12, 2) := by decide +kernel
theorem dX5_lacksOf_111 : decode cX5_lacksOf 111 = .ok (.irem, 1) := by decide +kernel
theorem dX5_lacksOf_112 : decode cX5_lacksOf 112 = .ok (.iaload, 1) := by decide +kernel
theorem tw_1471 : Cond.methodLink RX5 131 yX9_fillUp ∈ wsL_law := List.mem_of_getElem? (i := 1471) (by decide +kernel)
theorem tw_1084 : Cond.instanceMethod yX9_fillUp ∈ wsL_law := List.mem_of_getElem? (i := 1084) (by decide +kernel)
theorem tw_1085 : Cond.selects RX9 yX9_fillUp yX9_fillUp ∈ wsL_law := List.mem_of_getElem? (i := 1085) (by decide +kernel)
theorem tw_1086 : Cond.code yX9_fillUp cX9_fillUp 6 none ∈ wsL_law := List.mem_of_getElem? (i := 1086) (by decide +kernel)
theorem dX5_lacksOf_113 : decode cX5_lacksOf 113 = .ok (.invokevirtual 131, 3) := by decide +kernel
theorem dX5_lacksOf_116 : decode cX5_lacksOf 116 = .ok (.iload 4, 2) := by decide +kernel
theorem dX5_lacksOf_118 : decode cX5_lacksOf 118 = .ok (.aload_n 2, 1) := by decide +kernel
theorem dX5_lacksOf_119 : decode cX5_lacksOf 119 = .ok (.getfield 68, 3) := by decide +kernel
theorem dX5_lacksOf_122 : decode cX5_lacksOf 122 = .ok (.aload_n 2, 1) := by decide +kernel
theorem dX5_lacksOf_123 : decode cX5_lacksOf 123 = .ok (.getfield 31, 3) := by decide +kernel
theorem tw_1472 : Cond.methodLink RX5 135 yX0_drink ∈ wsL_law := List.mem_of_getElem? (i := 1472) (by decide +kernel)
theorem tw_1095 : Cond.instanceMethod yX0_drink ∈ wsL_law := List.mem_of_getElem? (i := 1095) (by decide +kernel)
theorem tw_1096 : Cond.selects RX0 yX0_drink yX0_drink ∈ wsL_law := List.mem_of_getElem? (i := 1096) (by decide +kernel)
theorem tw_1097 : Cond.code yX0_drink cX0_drink 5 (some .int) ∈ wsL_law := List.mem_of_getElem? (i := 1097) (by decide +kernel)
theorem dX5_lacksOf_126 : decode cX5_lacksOf 126 = .ok (.invokevirtual 135, 3) := by decide +kernel
theorem dX5_lacksOf_129 : decode cX5_lacksOf 129 = .ok (.iadd, 1) := by decide +kernel
theorem dX5_lacksOf_130 : decode cX5_lacksOf 130 = .ok (.istore 4, 2) := by decide +kernel
theorem dX5_lacksOf_132 : decode cX5_lacksOf 132 = .ok (.iload 4, 2) := by decide +kernel
theorem dX5_lacksOf_134 : decode cX5_lacksOf 134 = .ok (.aload_n 2, 1) := by decide +kernel
theorem dX5_lacksOf_135 : decode cX5_lacksOf 135 = .ok (.getfield 68, 3) := by decide +kernel
theorem dX5_lacksOf_138 : decode cX5_lacksOf 138 = .ok (.aload_n 0, 1) := by decide +kernel
theorem dX5_lacksOf_139 : decode cX5_lacksOf 139 = .ok (.getfield 25, 3) := by decide +kernel
theorem dX5_lacksOf_142 : decode cX5_lacksOf 142 = .ok (.iload 5, 2) := by decide +kernel
theorem dX5_lacksOf_144 : decode cX5_lacksOf 144 = .ok (.iconst 5, 1) := by decide +kernel
theorem dX5_lacksOf_145 : decode cX5_lacksOf 145 = .ok (.imul, 1) := by decide +kernel
theorem tw_1473 : Cond.methodLink RX5 139 yX0_sleep ∈ wsL_law := List.mem_of_getElem? (i := 1473) (by decide +kernel)
theorem tw_1121 : Cond.instanceMethod yX0_sleep ∈ wsL_law := List.mem_of_getElem? (i := 1121) (by decide +kernel)
theorem tw_1122 : Cond.selects RX0 yX0_sleep yX0_sleep ∈ wsL_law := List.mem_of_getElem? (i := 1122) (by decide +kernel)
theorem tw_1123 : Cond.code yX0_sleep cX0_sleep 5 (some .int) ∈ wsL_law := List.mem_of_getElem? (i := 1123) (by decide +kernel)
theorem dX5_lacksOf_146 : decode cX5_lacksOf 146 = .ok (.invokevirtual 139, 3) := by decide +kernel
theorem dX5_lacksOf_149 : decode cX5_lacksOf 149 = .ok (.iadd, 1) := by decide +kernel
theorem dX5_lacksOf_150 : decode cX5_lacksOf 150 = .ok (.istore 4, 2) := by decide +kernel
theorem dX5_lacksOf_152 : decode cX5_lacksOf 152 = .ok (.aload_n 1, 1) := by decide +kernel
theorem tw_1463 : Cond.fieldLink RX5 143 "RingsUnder$World" "boats" "I" ∈ wsL_law := List.mem_of_getElem? (i := 1463) (by decide +kernel)
theorem dX5_lacksOf_153 : decode cX5_lacksOf 153 = .ok (.getfield 143, 3) := by decide +kernel
theorem dX5_lacksOf_187 : decode cX5_lacksOf 187 = .ok (.iinc 5 1, 3) := by decide +kernel
theorem dX5_lacksOf_190 : decode cX5_lacksOf 190 = .ok (.goto (-135), 3) := by decide +kernel
theorem dX5_lacksOf_156 : decode cX5_lacksOf 156 = .ok (.ifCond .le 31, 3) := by decide +kernel
theorem dX5_lacksOf_159 : decode cX5_lacksOf 159 = .ok (.aload_n 2, 1) := by decide +kernel
theorem dX5_lacksOf_160 : decode cX5_lacksOf 160 = .ok (.getfield 68, 3) := by decide +kernel
theorem dX5_lacksOf_163 : decode cX5_lacksOf 163 = .ok (.aload_n 0, 1) := by decide +kernel
theorem dX5_lacksOf_164 : decode cX5_lacksOf 164 = .ok (.getfield 28, 3) := by decide +kernel
theorem dX5_lacksOf_167 : decode cX5_lacksOf 167 = .ok (.iload 5, 2) := by decide +kernel
theorem dX5_lacksOf_169 : decode cX5_lacksOf 169 = .ok (.laload, 1) := by decide +kernel
theorem dX5_lacksOf_170 : decode cX5_lacksOf 170 = .ok (.aload_n 0, 1) := by decide +kernel
theorem dX5_lacksOf_171 : decode cX5_lacksOf 171 = .ok (.getfield 18, 3) := by decide +kernel
theorem dX5_lacksOf_174 : decode cX5_lacksOf 174 = .ok (.aload_n 0, 1) := by decide +kernel
theorem dX5_lacksOf_175 : decode cX5_lacksOf 175 = .ok (.getfield 146, 3) := by decide +kernel
theorem dX5_lacksOf_178 : decode cX5_lacksOf 178 = .ok (.aload_n 1, 1) := by decide +kernel
theorem dX5_lacksOf_179 : decode cX5_lacksOf 179 = .ok (.getfield 143, 3) := by decide +kernel
theorem dX5_lacksOf_182 : decode cX5_lacksOf 182 = .ok (.iload 6, 2) := by decide +kernel
theorem tw_1474 : Cond.methodLink RX5 149 yX0_board ∈ wsL_law := List.mem_of_getElem? (i := 1474) (by decide +kernel)
theorem tw_1168 : Cond.instanceMethod yX0_board ∈ wsL_law := List.mem_of_getElem? (i := 1168) (by decide +kernel)
theorem tw_1169 : Cond.selects RX0 yX0_board yX0_board ∈ wsL_law := List.mem_of_getElem? (i := 1169) (by decide +kernel)
theorem tw_1170 : Cond.code yX0_board cX0_board 11 none ∈ wsL_law := List.mem_of_getElem? (i := 1170) (by decide +kernel)
theorem dX5_lacksOf_184 : decode cX5_lacksOf 184 = .ok (.invokevirtual 149, 3) := by decide +kernel
theorem dX5_swap_0 : decode cX5_swap 0 = .ok (.aload_n 0, 1) := by decide +kernel
theorem dX5_swap_1 : decode cX5_swap 1 = .ok (.getfield 15, 3) := by decide +kernel
theorem dX5_swap_4 : decode cX5_swap 4 = .ok (.iload_n 1, 1) := by decide +kernel
theorem dX5_swap_5 : decode cX5_swap 5 = .ok (.iaload, 1) := by decide +kernel
theorem dX5_swap_6 : decode cX5_swap 6 = .ok (.istore_n 3, 1) := by decide +kernel
theorem dX5_swap_7 : decode cX5_swap 7 = .ok (.aload_n 0, 1) := by decide +kernel
theorem dX5_swap_8 : decode cX5_swap 8 = .ok (.getfield 15, 3) := by decide +kernel
theorem dX5_swap_11 : decode cX5_swap 11 = .ok (.iload_n 1, 1) := by decide +kernel
theorem dX5_swap_12 : decode cX5_swap 12 = .ok (.aload_n 0, 1) := by decide +kernel
theorem dX5_swap_13 : decode cX5_swap 13 = .ok (.getfield 15, 3) := by decide +kernel
theorem dX5_swap_16 : decode cX5_swap 16 = .ok (.iload_n 2, 1) := by decide +kernel
theorem dX5_swap_17 : decode cX5_swap 17 = .ok (.iaload, 1) := by decide +kernel
theorem dX5_swap_18 : decode cX5_swap 18 = .ok (.iastore, 1) := by decide +kernel
theorem dX5_swap_19 : decode cX5_swap 19 = .ok (.aload_n 0, 1) := by decide +kernel
theorem dX5_swap_20 : decode cX5_swap 20 = .ok (.getfield 15, 3) := by decide +kernel
theorem dX5_swap_23 : decode cX5_swap 23 = .ok (.iload_n 2, 1) := by decide +kernel
theorem dX5_swap_24 : decode cX5_swap 24 = .ok (.iload_n 3, 1) := by decide +kernel
theorem dX5_swap_25 : decode cX5_swap 25 = .ok (.iastore, 1) := by decide +kernel
theorem dX5_swap_26 : decode cX5_swap 26 = .ok (.return_, 1) := by decide +kernel
theorem dX5_toNextOrder_0 : decode cX5_toNextOrder 0 = .ok (.iload_n 1, 1) := by decide +kernel
theorem dX5_toNextOrder_1 : decode cX5_toNextOrder 1 = .ok (.iconst 2, 1) := by decide +kernel
theorem dX5_toNextOrder_2 : decode cX5_toNextOrder 2 = .ok (.isub, 1) := by decide +kernel
theorem dX5_toNextOrder_3 : decode cX5_toNextOrder 3 = .ok (.istore_n 2, 1) := by decide +kernel
theorem dX5_toNextOrder_4 : decode cX5_toNextOrder 4 = .ok (.iload_n 2, 1) := by decide +kernel
theorem dX5_toNextOrder_31 : decode cX5_toNextOrder 31 = .ok (.iload_n 2, 1) := by decide +kernel
theorem dX5_toNextOrder_32 : decode cX5_toNextOrder 32 = .ok (.ifCond .ge 5, 3) := by decide +kernel
theorem dX5_toNextOrder_37 : decode cX5_toNextOrder 37 = .ok (.iload_n 1, 1) := by decide +kernel
theorem dX5_toNextOrder_38 : decode cX5_toNextOrder 38 = .ok (.iconst 1, 1) := by decide +kernel
theorem dX5_toNextOrder_39 : decode cX5_toNextOrder 39 = .ok (.isub, 1) := by decide +kernel
theorem dX5_toNextOrder_40 : decode cX5_toNextOrder 40 = .ok (.istore_n 3, 1) := by decide +kernel
theorem dX5_toNextOrder_41 : decode cX5_toNextOrder 41 = .ok (.iload_n 3, 1) := by decide +kernel
theorem dX5_toNextOrder_42 : decode cX5_toNextOrder 42 = .ok (.iload_n 2, 1) := by decide +kernel
theorem dX5_toNextOrder_67 : decode cX5_toNextOrder 67 = .ok (.aload_n 0, 1) := by decide +kernel
theorem dX5_toNextOrder_68 : decode cX5_toNextOrder 68 = .ok (.iload_n 2, 1) := by decide +kernel
theorem dX5_toNextOrder_69 : decode cX5_toNextOrder 69 = .ok (.iload_n 3, 1) := by decide +kernel
theorem tw_1479 : Cond.methodLink RX5 156 yX5_swap ∈ wsL_law := List.mem_of_getElem? (i := 1479) (by decide +kernel)
theorem tw_1480 : Cond.instanceMethod yX5_swap ∈ wsL_law := List.mem_of_getElem? (i := 1480) (by decide +kernel)
theorem tw_1481 : Cond.selects RX5 yX5_swap yX5_swap ∈ wsL_law := List.mem_of_getElem? (i := 1481) (by decide +kernel)
theorem tw_1482 : Cond.code yX5_swap cX5_swap 4 none ∈ wsL_law := List.mem_of_getElem? (i := 1482) (by decide +kernel)
theorem dX5_toNextOrder_70 : decode cX5_toNextOrder 70 = .ok (.invokevirtual 156, 3) := by decide +kernel
theorem dX5_toNextOrder_73 : decode cX5_toNextOrder 73 = .ok (.iload_n 2, 1) := by decide +kernel
theorem dX5_toNextOrder_74 : decode cX5_toNextOrder 74 = .ok (.iconst 1, 1) := by decide +kernel
theorem dX5_toNextOrder_75 : decode cX5_toNextOrder 75 = .ok (.iadd, 1) := by decide +kernel
theorem dX5_toNextOrder_76 : decode cX5_toNextOrder 76 = .ok (.istore 4, 2) := by decide +kernel
theorem dX5_toNextOrder_78 : decode cX5_toNextOrder 78 = .ok (.iload_n 1, 1) := by decide +kernel
theorem dX5_toNextOrder_79 : decode cX5_toNextOrder 79 = .ok (.iconst 1, 1) := by decide +kernel
theorem dX5_toNextOrder_80 : decode cX5_toNextOrder 80 = .ok (.isub, 1) := by decide +kernel
theorem dX5_toNextOrder_81 : decode cX5_toNextOrder 81 = .ok (.istore 5, 2) := by decide +kernel
theorem dX5_toNextOrder_83 : decode cX5_toNextOrder 83 = .ok (.iload 4, 2) := by decide +kernel
theorem dX5_toNextOrder_85 : decode cX5_toNextOrder 85 = .ok (.iload 5, 2) := by decide +kernel
theorem dX5_toNextOrder_87 : decode cX5_toNextOrder 87 = .ok (.if_icmp .ge 20, 3) := by decide +kernel
theorem dX5_toNextOrder_107 : decode cX5_toNextOrder 107 = .ok (.iconst 1, 1) := by decide +kernel
theorem dX5_toNextOrder_108 : decode cX5_toNextOrder 108 = .ok (.ireturn, 1) := by decide +kernel
theorem dX5_toNextOrder_90 : decode cX5_toNextOrder 90 = .ok (.aload_n 0, 1) := by decide +kernel
theorem dX5_toNextOrder_91 : decode cX5_toNextOrder 91 = .ok (.iload 4, 2) := by decide +kernel
theorem dX5_toNextOrder_93 : decode cX5_toNextOrder 93 = .ok (.iload 5, 2) := by decide +kernel
theorem dX5_toNextOrder_95 : decode cX5_toNextOrder 95 = .ok (.invokevirtual 156, 3) := by decide +kernel
theorem dX5_toNextOrder_98 : decode cX5_toNextOrder 98 = .ok (.iinc 4 1, 3) := by decide +kernel
theorem dX5_toNextOrder_101 : decode cX5_toNextOrder 101 = .ok (.iinc 5 (-1), 3) := by decide +kernel
theorem dX5_toNextOrder_104 : decode cX5_toNextOrder 104 = .ok (.goto (-21), 3) := by decide +kernel
theorem dX5_toNextOrder_43 : decode cX5_toNextOrder 43 = .ok (.if_icmp .le 24, 3) := by decide +kernel
theorem dX5_toNextOrder_46 : decode cX5_toNextOrder 46 = .ok (.aload_n 0, 1) := by decide +kernel
theorem dX5_toNextOrder_47 : decode cX5_toNextOrder 47 = .ok (.getfield 15, 3) := by decide +kernel
theorem dX5_toNextOrder_50 : decode cX5_toNextOrder 50 = .ok (.iload_n 3, 1) := by decide +kernel
theorem dX5_toNextOrder_51 : decode cX5_toNextOrder 51 = .ok (.iaload, 1) := by decide +kernel
theorem dX5_toNextOrder_52 : decode cX5_toNextOrder 52 = .ok (.aload_n 0, 1) := by decide +kernel
theorem dX5_toNextOrder_53 : decode cX5_toNextOrder 53 = .ok (.getfield 15, 3) := by decide +kernel
theorem dX5_toNextOrder_56 : decode cX5_toNextOrder 56 = .ok (.iload_n 2, 1) := by decide +kernel
theorem dX5_toNextOrder_57 : decode cX5_toNextOrder 57 = .ok (.iaload, 1) := by decide +kernel
theorem dX5_toNextOrder_58 : decode cX5_toNextOrder 58 = .ok (.if_icmp .ge 9, 3) := by decide +kernel
theorem dX5_toNextOrder_61 : decode cX5_toNextOrder 61 = .ok (.iinc 3 (-1), 3) := by decide +kernel
theorem dX5_toNextOrder_64 : decode cX5_toNextOrder 64 = .ok (.goto (-23), 3) := by decide +kernel
theorem dX5_toNextOrder_35 : decode cX5_toNextOrder 35 = .ok (.iconst 0, 1) := by decide +kernel
theorem dX5_toNextOrder_36 : decode cX5_toNextOrder 36 = .ok (.ireturn, 1) := by decide +kernel
theorem dX5_toNextOrder_5 : decode cX5_toNextOrder 5 = .ok (.ifCond .lt 26, 3) := by decide +kernel
theorem dX5_toNextOrder_8 : decode cX5_toNextOrder 8 = .ok (.aload_n 0, 1) := by decide +kernel
theorem dX5_toNextOrder_9 : decode cX5_toNextOrder 9 = .ok (.getfield 15, 3) := by decide +kernel
theorem dX5_toNextOrder_12 : decode cX5_toNextOrder 12 = .ok (.iload_n 2, 1) := by decide +kernel
theorem dX5_toNextOrder_13 : decode cX5_toNextOrder 13 = .ok (.iaload, 1) := by decide +kernel
theorem dX5_toNextOrder_14 : decode cX5_toNextOrder 14 = .ok (.aload_n 0, 1) := by decide +kernel
theorem dX5_toNextOrder_15 : decode cX5_toNextOrder 15 = .ok (.getfield 15, 3) := by decide +kernel
theorem dX5_toNextOrder_18 : decode cX5_toNextOrder 18 = .ok (.iload_n 2, 1) := by decide +kernel
theorem dX5_toNextOrder_19 : decode cX5_toNextOrder 19 = .ok (.iconst 1, 1) := by decide +kernel
theorem dX5_toNextOrder_20 : decode cX5_toNextOrder 20 = .ok (.iadd, 1) := by decide +kernel
theorem dX5_toNextOrder_21 : decode cX5_toNextOrder 21 = .ok (.iaload, 1) := by decide +kernel
theorem dX5_toNextOrder_22 : decode cX5_toNextOrder 22 = .ok (.if_icmp .le 9, 3) := by decide +kernel
theorem dX5_toNextOrder_25 : decode cX5_toNextOrder 25 = .ok (.iinc 2 (-1), 3) := by decide +kernel
theorem dX5_toNextOrder_28 : decode cX5_toNextOrder 28 = .ok (.goto (-24), 3) := by decide +kernel
theorem dX5_seek_0 : decode cX5_seek 0 = .ok (.aload_n 1, 1) := by decide +kernel
theorem dX5_seek_1 : decode cX5_seek 1 = .ok (.getfield 31, 3) := by decide +kernel
theorem dX5_seek_4 : decode cX5_seek 4 = .ok (.getfield 37, 3) := by decide +kernel
theorem dX5_seek_7 : decode cX5_seek 7 = .ok (.istore 5, 2) := by decide +kernel
theorem dX5_seek_9 : decode cX5_seek 9 = .ok (.aload_n 0, 1) := by decide +kernel
theorem dX5_seek_10 : decode cX5_seek 10 = .ok (.aload_n 2, 1) := by decide +kernel
theorem dX5_seek_11 : decode cX5_seek 11 = .ok (.iload_n 3, 1) := by decide +kernel
theorem dX5_seek_12 : decode cX5_seek 12 = .ok (.iload 4, 2) := by decide +kernel
theorem dX5_seek_14 : decode cX5_seek 14 = .ok (.bipush 12, 2) := by decide +kernel
theorem tw_1440 : Cond.methodLink RX5 43 Lib.Math.min.name ∈ wsL_law := List.mem_of_getElem? (i := 1440) (by decide +kernel)
theorem dX5_seek_16 : decode cX5_seek 16 = .ok (.invokestatic 43, 3) := by decide +kernel
theorem tw_1442 : Cond.methodLink RX5 49 yX5_foresee ∈ wsL_law := List.mem_of_getElem? (i := 1442) (by decide +kernel)
theorem tw_1443 : Cond.instanceMethod yX5_foresee ∈ wsL_law := List.mem_of_getElem? (i := 1443) (by decide +kernel)
theorem tw_1444 : Cond.selects RX5 yX5_foresee yX5_foresee ∈ wsL_law := List.mem_of_getElem? (i := 1444) (by decide +kernel)
theorem tw_1445 : Cond.code yX5_foresee cX5_foresee 7 none ∈ wsL_law := List.mem_of_getElem? (i := 1445) (by decide +kernel)
theorem dX5_seek_19 : decode cX5_seek 19 = .ok (.invokevirtual 49, 3) := by decide +kernel
theorem dX5_seek_22 : decode cX5_seek 22 = .ok (.iconst 0, 1) := by decide +kernel
theorem dX5_seek_23 : decode cX5_seek 23 = .ok (.istore 6, 2) := by decide +kernel
theorem dX5_seek_25 : decode cX5_seek 25 = .ok (.iload 6, 2) := by decide +kernel
theorem dX5_seek_27 : decode cX5_seek 27 = .ok (.iload 5, 2) := by decide +kernel
theorem dX5_seek_29 : decode cX5_seek 29 = .ok (.if_icmp .ge 18, 3) := by decide +kernel
theorem dX5_seek_47 : decode cX5_seek 47 = .ok (.aload_n 0, 1) := by decide +kernel
theorem dX5_seek_48 : decode cX5_seek 48 = .ok (.sipush 961, 3) := by decide +kernel
theorem dX5_seek_51 : decode cX5_seek 51 = .ok (.putfield 53, 3) := by decide +kernel
theorem dX5_seek_54 : decode cX5_seek 54 = .ok (.iconst 1, 1) := by decide +kernel
theorem dX5_seek_55 : decode cX5_seek 55 = .ok (.istore 6, 2) := by decide +kernel
theorem dX5_seek_57 : decode cX5_seek 57 = .ok (.iconst 0, 1) := by decide +kernel
theorem dX5_seek_58 : decode cX5_seek 58 = .ok (.istore 7, 2) := by decide +kernel
theorem dX5_seek_60 : decode cX5_seek 60 = .ok (.iload 7, 2) := by decide +kernel
theorem dX5_seek_62 : decode cX5_seek 62 = .ok (.bipush 120, 2) := by decide +kernel
theorem dX5_seek_64 : decode cX5_seek 64 = .ok (.if_icmp .ge 63, 3) := by decide +kernel
theorem dX5_seek_127 : decode cX5_seek 127 = .ok (.return_, 1) := by decide +kernel
theorem dX5_seek_67 : decode cX5_seek 67 = .ok (.iload 6, 2) := by decide +kernel
theorem dX5_seek_69 : decode cX5_seek 69 = .ok (.ifCond .eq 58, 3) := by decide +kernel
theorem dX5_seek_72 : decode cX5_seek 72 = .ok (.aload_n 0, 1) := by decide +kernel
theorem dX5_seek_73 : decode cX5_seek 73 = .ok (.aload_n 1, 1) := by decide +kernel
theorem dX5_seek_74 : decode cX5_seek 74 = .ok (.aload_n 2, 1) := by decide +kernel
theorem dX5_seek_75 : decode cX5_seek 75 = .ok (.iload 4, 2) := by decide +kernel
theorem dX5_seek_77 : decode cX5_seek 77 = .ok (.bipush 12, 2) := by decide +kernel
theorem dX5_seek_79 : decode cX5_seek 79 = .ok (.invokestatic 43, 3) := by decide +kernel
theorem tw_1454 : Cond.methodLink RX5 56 yX5_lacksOf ∈ wsL_law := List.mem_of_getElem? (i := 1454) (by decide +kernel)
theorem tw_1455 : Cond.instanceMethod yX5_lacksOf ∈ wsL_law := List.mem_of_getElem? (i := 1455) (by decide +kernel)
theorem tw_1456 : Cond.selects RX5 yX5_lacksOf yX5_lacksOf ∈ wsL_law := List.mem_of_getElem? (i := 1456) (by decide +kernel)
theorem tw_1457 : Cond.code yX5_lacksOf cX5_lacksOf 7 (some .int) ∈ wsL_law := List.mem_of_getElem? (i := 1457) (by decide +kernel)
theorem dX5_seek_82 : decode cX5_seek 82 = .ok (.invokevirtual 56, 3) := by decide +kernel
theorem dX5_seek_85 : decode cX5_seek 85 = .ok (.istore 8, 2) := by decide +kernel
theorem dX5_seek_87 : decode cX5_seek 87 = .ok (.iload 8, 2) := by decide +kernel
theorem dX5_seek_89 : decode cX5_seek 89 = .ok (.aload_n 0, 1) := by decide +kernel
theorem dX5_seek_90 : decode cX5_seek 90 = .ok (.getfield 53, 3) := by decide +kernel
theorem dX5_seek_113 : decode cX5_seek 113 = .ok (.aload_n 0, 1) := by decide +kernel
theorem dX5_seek_114 : decode cX5_seek 114 = .ok (.iload 5, 2) := by decide +kernel
theorem tw_1475 : Cond.methodLink RX5 64 yX5_toNextOrder ∈ wsL_law := List.mem_of_getElem? (i := 1475) (by decide +kernel)
theorem tw_1476 : Cond.instanceMethod yX5_toNextOrder ∈ wsL_law := List.mem_of_getElem? (i := 1476) (by decide +kernel)
theorem tw_1477 : Cond.selects RX5 yX5_toNextOrder yX5_toNextOrder ∈ wsL_law := List.mem_of_getElem? (i := 1477) (by decide +kernel)
theorem tw_1478 : Cond.code yX5_toNextOrder cX5_toNextOrder 6 (some .boolean) ∈ wsL_law := List.mem_of_getElem? (i := 1478) (by decide +kernel)
theorem dX5_seek_116 : decode cX5_seek 116 = .ok (.invokevirtual 64, 3) := by decide +kernel
theorem dX5_seek_119 : decode cX5_seek 119 = .ok (.istore 6, 2) := by decide +kernel
theorem dX5_seek_121 : decode cX5_seek 121 = .ok (.iinc 7 1, 3) := by decide +kernel
theorem dX5_seek_124 : decode cX5_seek 124 = .ok (.goto (-64), 3) := by decide +kernel
theorem dX5_seek_93 : decode cX5_seek 93 = .ok (.if_icmp .ge 20, 3) := by decide +kernel
theorem dX5_seek_96 : decode cX5_seek 96 = .ok (.aload_n 0, 1) := by decide +kernel
theorem dX5_seek_97 : decode cX5_seek 97 = .ok (.iload 8, 2) := by decide +kernel
theorem dX5_seek_99 : decode cX5_seek 99 = .ok (.putfield 53, 3) := by decide +kernel
theorem dX5_seek_102 : decode cX5_seek 102 = .ok (.aload_n 0, 1) := by decide +kernel
theorem dX5_seek_103 : decode cX5_seek 103 = .ok (.getfield 15, 3) := by decide +kernel
theorem dX5_seek_106 : decode cX5_seek 106 = .ok (.aload_n 0, 1) := by decide +kernel
theorem tw_142 : Cond.fieldLink RX5 9 "RingsUnder$RingOrders" "best" "[I" ∈ wsL_law := List.mem_of_getElem? (i := 142) (by decide +kernel)
theorem dX5_seek_107 : decode cX5_seek 107 = .ok (.getfield 9, 3) := by decide +kernel
theorem dX5_seek_110 : decode cX5_seek 110 = .ok (.invokestatic 60, 3) := by decide +kernel
theorem dX5_seek_32 : decode cX5_seek 32 = .ok (.aload_n 0, 1) := by decide +kernel
theorem dX5_seek_33 : decode cX5_seek 33 = .ok (.getfield 15, 3) := by decide +kernel
theorem dX5_seek_36 : decode cX5_seek 36 = .ok (.iload 6, 2) := by decide +kernel
theorem dX5_seek_38 : decode cX5_seek 38 = .ok (.iload 6, 2) := by decide +kernel
theorem dX5_seek_40 : decode cX5_seek 40 = .ok (.iastore, 1) := by decide +kernel
theorem dX5_seek_41 : decode cX5_seek 41 = .ok (.iinc 6 1, 3) := by decide +kernel
theorem dX5_seek_44 : decode cX5_seek 44 = .ok (.goto (-19), 3) := by decide +kernel
theorem dX6_append_0 : decode cX6_append 0 = .ok (.bipush 24, 2) := by decide +kernel
theorem dX6_append_2 : decode cX6_append 2 = .ok (.istore_n 2, 1) := by decide +kernel
theorem dX6_append_3 : decode cX6_append 3 = .ok (.iload_n 2, 1) := by decide +kernel
theorem dX6_append_4 : decode cX6_append 4 = .ok (.ifCond .lt 45, 3) := by decide +kernel
theorem dX6_append_49 : decode cX6_append 49 = .ok (.return_, 1) := by decide +kernel
theorem dX6_append_7 : decode cX6_append 7 = .ok (.aload_n 0, 1) := by decide +kernel
theorem tw_626 : Cond.fieldLink RX6 15 "RingsUnder$Scanner" "length" "I" ∈ wsL_law := List.mem_of_getElem? (i := 626) (by decide +kernel)
theorem dX6_append_8 : decode cX6_append 8 = .ok (.getfield 15, 3) := by decide +kernel
theorem dX6_append_11 : decode cX6_append 11 = .ok (.sipush 300, 3) := by decide +kernel
theorem dX6_append_14 : decode cX6_append 14 = .ok (.if_icmp .ge 35, 3) := by decide +kernel
theorem dX6_append_17 : decode cX6_append 17 = .ok (.aload_n 0, 1) := by decide +kernel
theorem tw_165 : Cond.fieldLink RX6 9 "RingsUnder$Scanner" "tape" "[I" ∈ wsL_law := List.mem_of_getElem? (i := 165) (by decide +kernel)
theorem dX6_append_18 : decode cX6_append 18 = .ok (.getfield 9, 3) := by decide +kernel
theorem dX6_append_21 : decode cX6_append 21 = .ok (.aload_n 0, 1) := by decide +kernel
theorem dX6_append_22 : decode cX6_append 22 = .ok (.getfield 15, 3) := by decide +kernel
theorem dX6_append_25 : decode cX6_append 25 = .ok (.iload_n 1, 1) := by decide +kernel
theorem dX6_append_26 : decode cX6_append 26 = .ok (.iload_n 2, 1) := by decide +kernel
theorem dX6_append_27 : decode cX6_append 27 = .ok (.iushr, 1) := by decide +kernel
theorem dX6_append_28 : decode cX6_append 28 = .ok (.sipush 255, 3) := by decide +kernel
theorem dX6_append_31 : decode cX6_append 31 = .ok (.iand, 1) := by decide +kernel
theorem dX6_append_32 : decode cX6_append 32 = .ok (.iastore, 1) := by decide +kernel
theorem dX6_append_33 : decode cX6_append 33 = .ok (.aload_n 0, 1) := by decide +kernel
theorem dX6_append_34 : decode cX6_append 34 = .ok (.dup, 1) := by decide +kernel
theorem dX6_append_35 : decode cX6_append 35 = .ok (.getfield 15, 3) := by decide +kernel
theorem dX6_append_38 : decode cX6_append 38 = .ok (.iconst 1, 1) := by decide +kernel
theorem dX6_append_39 : decode cX6_append 39 = .ok (.iadd, 1) := by decide +kernel
theorem dX6_append_40 : decode cX6_append 40 = .ok (.putfield 15, 3) := by decide +kernel
theorem dX6_append_43 : decode cX6_append 43 = .ok (.iinc 2 (-8), 3) := by decide +kernel
theorem dX6_append_46 : decode cX6_append 46 = .ok (.goto (-43), 3) := by decide +kernel
theorem dX6_rewind_0 : decode cX6_rewind 0 = .ok (.aload_n 0, 1) := by decide +kernel
theorem dX6_rewind_1 : decode cX6_rewind 1 = .ok (.iconst 0, 1) := by decide +kernel
theorem tw_662 : Cond.fieldLink RX6 19 "RingsUnder$Scanner" "at" "I" ∈ wsL_law := List.mem_of_getElem? (i := 662) (by decide +kernel)
theorem dX6_rewind_2 : decode cX6_rewind 2 = .ok (.putfield 19, 3) := by decide +kernel
theorem dX6_rewind_5 : decode cX6_rewind 5 = .ok (.return_, 1) := by decide +kernel
theorem dX6_isDigit_0 : decode cX6_isDigit 0 = .ok (.iload_n 0, 1) := by decide +kernel
theorem dX6_isDigit_1 : decode cX6_isDigit 1 = .ok (.bipush 48, 2) := by decide +kernel
theorem dX6_isDigit_16 : decode cX6_isDigit 16 = .ok (.iconst 0, 1) := by decide +kernel
theorem dX6_isDigit_17 : decode cX6_isDigit 17 = .ok (.ireturn, 1) := by decide +kernel
theorem dX6_isDigit_3 : decode cX6_isDigit 3 = .ok (.if_icmp .lt 13, 3) := by decide +kernel
theorem dX6_isDigit_6 : decode cX6_isDigit 6 = .ok (.iload_n 0, 1) := by decide +kernel
theorem dX6_isDigit_7 : decode cX6_isDigit 7 = .ok (.bipush 57, 2) := by decide +kernel
theorem dX6_isDigit_9 : decode cX6_isDigit 9 = .ok (.if_icmp .gt 7, 3) := by decide +kernel
theorem dX6_isDigit_12 : decode cX6_isDigit 12 = .ok (.iconst 1, 1) := by decide +kernel
theorem dX6_isDigit_13 : decode cX6_isDigit 13 = .ok (.goto 4, 3) := by decide +kernel
theorem dX6_isLetter_0 : decode cX6_isLetter 0 = .ok (.iload_n 0, 1) := by decide +kernel
theorem dX6_isLetter_1 : decode cX6_isLetter 1 = .ok (.bipush 97, 2) := by decide +kernel
theorem dX6_isLetter_24 : decode cX6_isLetter 24 = .ok (.iconst 1, 1) := by decide +kernel
theorem dX6_isLetter_25 : decode cX6_isLetter 25 = .ok (.goto 4, 3) := by decide +kernel
theorem dX6_isLetter_29 : decode cX6_isLetter 29 = .ok (.ireturn, 1) := by decide +kernel
theorem dX6_isLetter_12 : decode cX6_isLetter 12 = .ok (.iload_n 0, 1) := by decide +kernel
theorem dX6_isLetter_13 : decode cX6_isLetter 13 = .ok (.bipush 65, 2) := by decide +kernel
theorem dX6_isLetter_28 : decode cX6_isLetter 28 = .ok (.iconst 0, 1) := by decide +kernel
theorem dX6_isLetter_15 : decode cX6_isLetter 15 = .ok (.if_icmp .lt 13, 3) := by decide +kernel
theorem dX6_isLetter_18 : decode cX6_isLetter 18 = .ok (.iload_n 0, 1) := by decide +kernel
theorem dX6_isLetter_19 : decode cX6_isLetter 19 = .ok (.bipush 90, 2) := by decide +kernel
theorem dX6_isLetter_21 : decode cX6_isLetter 21 = .ok (.if_icmp .gt 7, 3) := by decide +kernel
theorem dX6_isLetter_3 : decode cX6_isLetter 3 = .ok (.if_icmp .lt 9, 3) := by decide +kernel
theorem dX6_isLetter_6 : decode cX6_isLetter 6 = .ok (.iload_n 0, 1) := by decide +kernel
theorem dX6_isLetter_7 : decode cX6_isLetter 7 = .ok (.bipush 122, 2) := by decide +kernel
theorem dX6_isLetter_9 : decode cX6_isLetter 9 = .ok (.if_icmp .le 15, 3) := by decide +kernel
theorem dX6_signOf_0 : decode cX6_signOf 0 = .ok (.iload_n 0, 1) := by decide +kernel
theorem dX6_signOf_1 : decode cX6_signOf 1 = .ok (.tableswitch 163 35 62 #[136, 163, 163, 163, 163, 151, 154, 145, 139, 157, 142, 163, 148, 163, 163, 163, 163, 163, 163, 163, 163, 163, 163, 163, 160, 127, 133, 130], 127) := by decide +kernel
theorem dX6_signOf_137 : decode cX6_signOf 137 = .ok (.bipush 24, 2) := by decide +kernel
theorem dX6_signOf_139 : decode cX6_signOf 139 = .ok (.ireturn, 1) := by decide +kernel
theorem dX6_signOf_164 : decode cX6_signOf 164 = .ok (.bipush 34, 2) := by decide +kernel
theorem dX6_signOf_166 : decode cX6_signOf 166 = .ok (.ireturn, 1) := by decide +kernel
theorem dX6_signOf_152 : decode cX6_signOf 152 = .ok (.bipush 29, 2) := by decide +kernel
theorem dX6_signOf_154 : decode cX6_signOf 154 = .ok (.ireturn, 1) := by decide +kernel
theorem dX6_signOf_155 : decode cX6_signOf 155 = .ok (.bipush 30, 2) := by decide +kernel
theorem dX6_signOf_157 : decode cX6_signOf 157 = .ok (.ireturn, 1) := by decide +kernel
theorem dX6_signOf_146 : decode cX6_signOf 146 = .ok (.bipush 27, 2) := by decide +kernel
theorem dX6_signOf_148 : decode cX6_signOf 148 = .ok (.ireturn, 1) := by decide +kernel
theorem dX6_signOf_140 : decode cX6_signOf 140 = .ok (.bipush 25, 2) := by decide +kernel
theorem dX6_signOf_142 : decode cX6_signOf 142 = .ok (.ireturn, 1) := by decide +kernel
theorem dX6_signOf_158 : decode cX6_signOf 158 = .ok (.bipush 31, 2) := by decide +kernel
theorem dX6_signOf_160 : decode cX6_signOf 160 = .ok (.ireturn, 1) := by decide +kernel
theorem dX6_signOf_143 : decode cX6_signOf 143 = .ok (.bipush 26, 2) := by decide +kernel
theorem dX6_signOf_145 : decode cX6_signOf 145 = .ok (.ireturn, 1) := by decide +kernel
theorem dX6_signOf_149 : decode cX6_signOf 149 = .ok (.bipush 28, 2) := by decide +kernel
theorem dX6_signOf_151 : decode cX6_signOf 151 = .ok (.ireturn, 1) := by decide +kernel
theorem dX6_signOf_161 : decode cX6_signOf 161 = .ok (.bipush 32, 2) := by decide +kernel
theorem dX6_signOf_163 : decode cX6_signOf 163 = .ok (.ireturn, 1) := by decide +kernel
theorem dX6_signOf_128 : decode cX6_signOf 128 = .ok (.bipush 19, 2) := by decide +kernel
theorem dX6_signOf_130 : decode cX6_signOf 130 = .ok (.ireturn, 1) := by decide +kernel
theorem dX6_signOf_134 : decode cX6_signOf 134 = .ok (.bipush 23, 2) := by decide +kernel
theorem dX6_signOf_136 : decode cX6_signOf 136 = .ok (.ireturn, 1) := by decide +kernel
theorem dX6_signOf_131 : decode cX6_signOf 131 = .ok (.bipush 21, 2) := by decide +kernel
theorem dX6_signOf_133 : decode cX6_signOf 133 = .ok (.ireturn, 1) := by decide +kernel
theorem dX6_takeLonger_0 : decode cX6_takeLonger 0 = .ok (.aload_n 0, 1) := by decide +kernel
theorem dX6_takeLonger_1 : decode cX6_takeLonger 1 = .ok (.getfield 19, 3) := by decide +kernel
theorem dX6_takeLonger_4 : decode cX6_takeLonger 4 = .ok (.aload_n 0, 1) := by decide +kernel
theorem dX6_takeLonger_5 : decode cX6_takeLonger 5 = .ok (.getfield 15, 3) := by decide +kernel
theorem dX6_takeLonger_30 : decode cX6_takeLonger 30 = .ok (.istore_n 1, 1) := by decide +kernel
theorem dX6_takeLonger_31 : decode cX6_takeLonger 31 = .ok (.iload_n 1, 1) := by decide +kernel
theorem dX6_takeLonger_32 : decode cX6_takeLonger 32 = .ok (.ifCond .eq 51, 3) := by decide +kernel
theorem dX6_takeLonger_35 : decode cX6_takeLonger 35 = .ok (.aload_n 0, 1) := by decide +kernel
theorem tw_668 : Cond.fieldLink RX6 25 "RingsUnder$Scanner" "token" "I" ∈ wsL_law := List.mem_of_getElem? (i := 668) (by decide +kernel)
theorem dX6_takeLonger_36 : decode cX6_takeLonger 36 = .ok (.getfield 25, 3) := by decide +kernel
theorem dX6_takeLonger_39 : decode cX6_takeLonger 39 = .ok (.bipush 19, 2) := by decide +kernel
theorem dX6_takeLonger_53 : decode cX6_takeLonger 53 = .ok (.aload_n 0, 1) := by decide +kernel
theorem dX6_takeLonger_54 : decode cX6_takeLonger 54 = .ok (.aload_n 0, 1) := by decide +kernel
theorem dX6_takeLonger_55 : decode cX6_takeLonger 55 = .ok (.getfield 25, 3) := by decide +kernel
theorem dX6_takeLonger_58 : decode cX6_takeLonger 58 = .ok (.bipush 19, 2) := by decide +kernel
theorem dX6_takeLonger_70 : decode cX6_takeLonger 70 = .ok (.putfield 25, 3) := by decide +kernel
theorem dX6_takeLonger_73 : decode cX6_takeLonger 73 = .ok (.aload_n 0, 1) := by decide +kernel
theorem dX6_takeLonger_74 : decode cX6_takeLonger 74 = .ok (.dup, 1) := by decide +kernel
theorem dX6_takeLonger_75 : decode cX6_takeLonger 75 = .ok (.getfield 19, 3) := by decide +kernel
theorem dX6_takeLonger_78 : decode cX6_takeLonger 78 = .ok (.iconst 1, 1) := by decide +kernel
theorem dX6_takeLonger_79 : decode cX6_takeLonger 79 = .ok (.iadd, 1) := by decide +kernel
theorem dX6_takeLonger_80 : decode cX6_takeLonger 80 = .ok (.putfield 19, 3) := by decide +kernel
theorem dX6_takeLonger_83 : decode cX6_takeLonger 83 = .ok (.return_, 1) := by decide +kernel
theorem dX6_takeLonger_60 : decode cX6_takeLonger 60 = .ok (.if_icmp .ne 8, 3) := by decide +kernel
theorem dX6_takeLonger_68 : decode cX6_takeLonger 68 = .ok (.bipush 22, 2) := by decide +kernel
theorem dX6_takeLonger_63 : decode cX6_takeLonger 63 = .ok (.bipush 20, 2) := by decide +kernel
theorem dX6_takeLonger_65 : decode cX6_takeLonger 65 = .ok (.goto 5, 3) := by decide +kernel
theorem dX6_takeLonger_41 : decode cX6_takeLonger 41 = .ok (.if_icmp .eq 12, 3) := by decide +kernel
theorem dX6_takeLonger_44 : decode cX6_takeLonger 44 = .ok (.aload_n 0, 1) := by decide +kernel
theorem dX6_takeLonger_45 : decode cX6_takeLonger 45 = .ok (.getfield 25, 3) := by decide +kernel
theorem dX6_takeLonger_48 : decode cX6_takeLonger 48 = .ok (.bipush 21, 2) := by decide +kernel
theorem dX6_takeLonger_50 : decode cX6_takeLonger 50 = .ok (.if_icmp .ne 33, 3) := by decide +kernel
theorem dX6_takeLonger_29 : decode cX6_takeLonger 29 = .ok (.iconst 0, 1) := by decide +kernel
theorem dX6_takeLonger_8 : decode cX6_takeLonger 8 = .ok (.if_icmp .ge 21, 3) := by decide +kernel
theorem dX6_takeLonger_11 : decode cX6_takeLonger 11 = .ok (.aload_n 0, 1) := by decide +kernel
theorem dX6_takeLonger_12 : decode cX6_takeLonger 12 = .ok (.getfield 9, 3) := by decide +kernel
theorem dX6_takeLonger_15 : decode cX6_takeLonger 15 = .ok (.aload_n 0, 1) := by decide +kernel
theorem dX6_takeLonger_16 : decode cX6_takeLonger 16 = .ok (.getfield 19, 3) := by decide +kernel
theorem dX6_takeLonger_19 : decode cX6_takeLonger 19 = .ok (.iaload, 1) := by decide +kernel
theorem dX6_takeLonger_20 : decode cX6_takeLonger 20 = .ok (.bipush 61, 2) := by decide +kernel
theorem dX6_takeLonger_22 : decode cX6_takeLonger 22 = .ok (.if_icmp .ne 7, 3) := by decide +kernel
theorem dX6_takeLonger_25 : decode cX6_takeLonger 25 = .ok (.iconst 1, 1) := by decide +kernel
theorem dX6_takeLonger_26 : decode cX6_takeLonger 26 = .ok (.goto 4, 3) := by decide +kernel
set_option maxHeartbeats 4000000 in
set_option maxRecDepth 100000 in
theorem s_X5_lacksOf (l : Launch) (D : va_G) (t : pq_T) (σ : pq_S) (I : Nat → Nat → Int32) (J : Nat → Nat → Int64) (ri : Nat → Nat → Int32) (rj : Nat → Nat → Int64) (rq : Nat → Nat → Option Nat) (sz : Nat) (tg : Nat → Nat) (hSH : SH σ tg) (hG0 : GS tg σ I ri rq) (this : Nat) (a0 : Nat) (a1 : Nat) (a2 : Int32) (hL_this : this ∈ σ.1) (hK_this : σ.2.1 this = 5) (hL_a0 : a0 ∈ σ.1) (hK_a0 : σ.2.1 a0 = 10) (hL_a1 : a1 ∈ σ.1) (hK_a1 : σ.2.1 a1 = 10) (h_a2 : rg a2 0 12) : MetI l yX5_lacksOf (wa yX5_lacksOf cX5_lacksOf 7 (some .int)) ({ frames := 4, cells := 0, slots := 0, locals := 105 }) [.ref this, .ref a0, .ref a1, .int a2] D t σ (I, J, ri, rj, rq) sz 0 0 (fun (r : Int32) (u : pq_S × pq_M) => ∃ I' : Nat → Nat → Int32, ∃ ri' : Nat → Nat → Int32, u = (σ, I', J, ri', rj, rq) ∧ GX [] tg σ I I' ri' rq) := by
  refine Met.ofW (cc := cX5_lacksOf) (maxL := 7) (ret := (some .int)) (by decide) rfl ?_
  intro p e s m args below meth c s₁ B hml hv
  obtain ⟨rfl, hsz, hP, hK, hD0, hN⟩ := hv
  have hx := B.exec
  have hb := B.bytes
  have hr := B.returns
  have hts := atoms_spec (ws := (wa yX5_lacksOf cX5_lacksOf 7 (some .int))) B.pre
  have hown : s.vm.findClass RX5 = some m.cls := findClass_of_methodNamed B.named
  have hlocks := B.notSynchronized
  subst hsz
  have hD : va_D (pq_B t σ (I, J, ri, rj, rq) s.heap.size) (pq_P t σ (I, J, ri, rj, rq)) := hD0.self
  generalize hAe : pq_B t σ (I, J, ri, rj, rq) s.heap.size = A at hD ⊢
  have hA : ∀ q : Nat, s.heap.size ≤ q → A q := fun q h => by rw [← hAe]; exact Or.inr h
  have hS : va_S A s.heap s.heap [] := va_S.rf
  have hG : GX [] tg σ I I ri rq := ⟨hG0, fun _ _ _ => rfl⟩
  have hl := lv_entry ([.ref this, .ref a0, .ref a1, .int a2]) (n := 7) (Nat.le_of_ble_eq_true rfl)
  rw [lg_entry_eq]
  generalize (lg_sl ([.ref this, .ref a0, .ref a1, .int a2]) ++ List.replicate (7 - (lg_sl ([.ref this, .ref a0, .ref a1, .int a2])).length) Slot.unset).toArray = ls at hl ⊢
  have hl : lv_has ls 7 [(0, .ref this), (1, .ref a0), (2, .ref a1), (3, .int a2)] := hl
  refine q_gen (fun Q hQ => ?_)
  have go : ∀ (H : Heap) (locs : List Loc) (ls : Array Slot), va_P D vwCl (pq_P t σ (I, J, ri, rj, rq)) H → va_D A (pq_P t σ (I, J, ri, rj, rq)) → va_S A s.heap H locs → lv_has ls 7 [(0, .ref this), (1, .ref a0), (2, .ref a1), (3, .int a2)] → W p l e ({ frames := 4, cells := 0, slots := 0, locals := 105 } : Room) s m (List.toArray ([.ref this, .ref a0, .ref a1, .int a2] : List Value)) below meth c H locs 0 0 Q (F0 m 0 ls []) := by
    intro H locs ls hP hD hS hl
    refine lv_aload_n hx hb dX5_lacksOf_0 rfl (lv_at hl 2 rfl) ?_
    obtain ⟨w_1, hR_w_1, hL_w_1, hK_w_1⟩ := sh_o hSH 327 (ci := 10) (kd := 2) rfl hL_a1 hK_a1
    refine pg_f (v := .ref w_1) (C := RX10) (T := TX10) (N := 13) hx hb hts (tw_i inlX10) hown hK hP hL_a1 hK_a1 (by decide) rfl 7 (by decide) (hts _ (tw_c tw_1438)) (pq_hv rfl hR_w_1) dX5_lacksOf_1 ?_
    obtain ⟨w_2, hR_w_2, hL_w_2, hK_w_2⟩ := sh_o hSH 78 (ci := 2) (kd := 9) rfl hL_w_1 hK_w_1
    refine pg_f (v := .ref w_2) (C := RX2) (T := TX2) (N := 20) hx hb hts (tw_i inlX2) hown hK hP hL_w_1 hK_w_1 (by decide) rfl 14 (by decide) (hts _ (tw_c tw_1458)) (pq_hv rfl hR_w_2) dX5_lacksOf_4 ?_
    refine lv_aload_n hx hb dX5_lacksOf_7 rfl (lv_at hl 1 rfl) ?_
    obtain ⟨w_3, hR_w_3, hL_w_3, hK_w_3⟩ := sh_o hSH 327 (ci := 10) (kd := 2) rfl hL_a0 hK_a0
    refine pg_f (v := .ref w_3) (C := RX10) (T := TX10) (N := 13) hx hb hts (tw_i inlX10) hown hK hP hL_a0 hK_a0 (by decide) rfl 7 (by decide) (hts _ (tw_c tw_1438)) (pq_hv rfl hR_w_3) dX5_lacksOf_8 ?_
    obtain ⟨w_4, hR_w_4, hL_w_4, hK_w_4⟩ := sh_o hSH 78 (ci := 2) (kd := 9) rfl hL_w_3 hK_w_3
    refine pg_f (v := .ref w_4) (C := RX2) (T := TX2) (N := 20) hx hb hts (tw_i inlX2) hown hK hP hL_w_3 hK_w_3 (by decide) rfl 14 (by decide) (hts _ (tw_c tw_1458)) (pq_hv rfl hR_w_4) dX5_lacksOf_11 ?_
    refine pk_v (va_runV (As := [.ref w_4]) (rest := []) ⟨hx, hb, hml, hown, hts⟩ (s_X9_copyFrom l D t σ I J ri rj rq H.size tg hSH hG.1 w_2 w_4 hL_w_2 hK_w_2 hL_w_4 hK_w_4) (cwV 1 hts (tw_V tw_1465 tw_1377 tw_1378 tw_94 tw_1379) rfl rfl rfl (by decide +kernel) ⟨Nat.le_of_ble_eq_true rfl, Nat.le_of_ble_eq_true rfl⟩) ⟨pq_blind, pq_recv hK hP hL_w_2 hK_w_2 (by decide) rfl, pq_pre hK hN hP hD⟩ rfl rfl hl.1 rfl (lv_room (Nat.le_of_ble_eq_true rfl)) dX5_lacksOf_14 ⟨Nat.le_of_ble_eq_true rfl, Nat.le_of_ble_eq_true rfl⟩) hD hS hA (fun σ1 μ1 H locs hw_6 hP hD hS => ?_)
    obtain ⟨ri_7, hu_8, hg_9⟩ := hw_6
    obtain ⟨hu_8a, hu_8b⟩ := Prod.mk.inj hu_8
    rw [hu_8a, hu_8b] at hP hD
    have hG := GX.tr hG hg_9 (by decide)
    refine lv_aload_n hx hb dX5_lacksOf_17 rfl (lv_at hl 1 rfl) ?_
    obtain ⟨w_11, hR_w_11, hL_w_11, hK_w_11⟩ := sh_o hSH 328 (ci := 10) (kd := 0) rfl hL_a0 hK_a0
    refine pg_f (v := .ref w_11) (C := RX10) (T := TX10) (N := 13) hx hb hts (tw_i inlX10) hown hK hP hL_a0 hK_a0 (by decide) rfl 8 (by decide) (hts _ (tw_c tw_1446)) (pq_hv rfl hR_w_11) dX5_lacksOf_18 ?_
    obtain ⟨w_12, hR_w_12, hL_w_12, hK_w_12, hN_w_12, hT_w_12⟩ := sh_a hSH 5 (ci := 0) (kd := 13) (len := 40) rfl (by decide) hL_w_11 hK_w_11
    refine pg_f (v := .ref w_12) (C := RX0) (T := TX0) (N := 16) hx hb hts (tw_i inlX0) hown hK hP hL_w_11 hK_w_11 (by decide) rfl 5 (by decide) (hts _ (tw_c tw_1459)) (pq_hv rfl hR_w_12) dX5_lacksOf_21 ?_
    refine lv_aload_n hx hb dX5_lacksOf_24 rfl (lv_at hl 2 rfl) ?_
    obtain ⟨w_13, hR_w_13, hL_w_13, hK_w_13⟩ := sh_o hSH 328 (ci := 10) (kd := 0) rfl hL_a1 hK_a1
    refine pg_f (v := .ref w_13) (C := RX10) (T := TX10) (N := 13) hx hb hts (tw_i inlX10) hown hK hP hL_a1 hK_a1 (by decide) rfl 8 (by decide) (hts _ (tw_c tw_1446)) (pq_hv rfl hR_w_13) dX5_lacksOf_25 ?_
    obtain ⟨w_14, hR_w_14, hL_w_14, hK_w_14, hN_w_14, hT_w_14⟩ := sh_a hSH 5 (ci := 0) (kd := 13) (len := 40) rfl (by decide) hL_w_13 hK_w_13
    refine pg_f (v := .ref w_14) (C := RX0) (T := TX0) (N := 16) hx hb hts (tw_i inlX0) hown hK hP hL_w_13 hK_w_13 (by decide) rfl 5 (by decide) (hts _ (tw_c tw_1459)) (pq_hv rfl hR_w_14) dX5_lacksOf_28 ?_
    refine pk_v (va_runSN (As := [.ref w_12, .ref w_14]) (rest := []) ⟨hx, hb, hml, hown, hts⟩ (s_X11_copy_5_5 l D t σ I J ri_7 rj rq H.size tg hSH hG.1 w_12 w_14 hL_w_12 hK_w_12 hN_w_12 hT_w_12 hL_w_14 hK_w_14 hN_w_14 hT_w_14) ⟨va_cnB (host := "RingsUnder") 2 hts (tw_W tw_1102) rfl rfl rfl (nl_23 hN) (hts _ (tw_c tw_2)) (by decide +kernel) ⟨Nat.le_of_ble_eq_true rfl, Nat.le_of_ble_eq_true rfl⟩, hts (.static yX11_copy) (by decide +kernel), trivial⟩ ⟨pq_blind, pq_pre hK hN hP hD⟩ rfl rfl hl.1 rfl (lv_room (Nat.le_of_ble_eq_true rfl)) dX5_lacksOf_31 ⟨Nat.le_of_ble_eq_true rfl, Nat.le_of_ble_eq_true rfl⟩) hD hS hA (fun σ1 μ1 H locs hw_16 hP hD hS => ?_)
    obtain ⟨ri_17, hu_18, hg_19, hp_21⟩ := hw_16
    obtain ⟨hu_18a, hu_18b⟩ := Prod.mk.inj hu_18
    rw [hu_18a, hu_18b] at hP hD
    have hG := GX.tr hG hg_19 (by decide)
    refine lv_aload_n hx hb dX5_lacksOf_34 rfl (lv_at hl 0 rfl) ?_
    refine lv_aload_n hx hb dX5_lacksOf_35 rfl (lv_at hl 1 rfl) ?_
    refine pg_f (v := .ref w_11) (C := RX10) (T := TX10) (N := 13) hx hb hts (tw_i inlX10) hown hK hP hL_a0 hK_a0 (by decide) rfl 8 (by decide) (hts _ (tw_c tw_1446)) (pq_hv rfl hR_w_11) dX5_lacksOf_36 ?_
    refine lv_aload_n hx hb dX5_lacksOf_39 rfl (lv_at hl 1 rfl) ?_
    refine pg_f (v := .ref w_3) (C := RX10) (T := TX10) (N := 13) hx hb hts (tw_i inlX10) hown hK hP hL_a0 hK_a0 (by decide) rfl 7 (by decide) (hts _ (tw_c tw_1438)) (pq_hv rfl hR_w_3) dX5_lacksOf_40 ?_
    refine pg_f (v := .int (I 64 w_3)) (C := RX2) (T := TX2) (N := 20) hx hb hts (tw_i inlX2) hown hK hP hL_w_3 hK_w_3 (by decide) rfl 0 (by decide) (hts _ (tw_c tw_1439)) rfl dX5_lacksOf_43 ?_
    have h_22 : rg (I 64 w_3) 0 5 := GX.rI hG 64 rfl
    refine pk_v (va_runV (As := [.ref w_11, .int (I 64 w_3)]) (rest := []) ⟨hx, hb, hml, hown, hts⟩ (s_X5_lineUp l D t σ I J ri_17 rj rq H.size tg hSH hG.1 this w_11 (I 64 w_3) hL_this hK_this hL_w_11 hK_w_11 (rg_w h_22 (by decide))) (cwV 2 hts (tw_V tw_1466 tw_1467 tw_1468 tw_21 tw_1469) rfl rfl rfl (by decide +kernel) ⟨Nat.le_of_ble_eq_true rfl, Nat.le_of_ble_eq_true rfl⟩) ⟨pq_blind, pq_recv hK hP hL_this hK_this (by decide) rfl, pq_pre hK hN hP hD⟩ rfl rfl hl.1 rfl (lv_room (Nat.le_of_ble_eq_true rfl)) dX5_lacksOf_46 ⟨Nat.le_of_ble_eq_true rfl, Nat.le_of_ble_eq_true rfl⟩) hD hS hA (fun σ1 μ1 H locs hw_24 hP hD hS => ?_)
    obtain ⟨I_25, ri_26, hu_27, hg_28⟩ := hw_24
    obtain ⟨hu_27a, hu_27b⟩ := Prod.mk.inj hu_27
    rw [hu_27a, hu_27b] at hP hD
    have hG := GX.tr hG hg_28 (by decide)
    refine lv_iconst (v := 0) hx hb dX5_lacksOf_49 (by decide) ?_
    refine lv_istore (lv' := [(4, .int 0), (0, .ref this), (1, .ref a0), (2, .ref a1), (3, .int a2)]) hx hb dX5_lacksOf_50 hl (by decide) rfl (fun ls hl => ?_)
    refine lv_iconst (v := 0) hx hb dX5_lacksOf_52 (by decide) ?_
    refine lv_istore (lv' := [(5, .int 0), (4, .int 0), (0, .ref this), (1, .ref a0), (2, .ref a1), (3, .int a2)]) hx hb dX5_lacksOf_53 hl (by decide) rfl (fun ls hl => ?_)
    have L_627 : ∀ (n_ : Nat) (x_567 : Int32) (x_568 : Int32) (ri_569 : Nat → Nat → Int32) (H : Heap) (locs : List Loc) (ls : Array Slot), rg x_568 0 12 → (12 - (x_568).toInt).toNat < n_ → GX [] tg σ I I_25 ri_569 rq → va_P D vwCl (pq_P t σ (I_25, J, ri_569, rj, rq)) H → va_D A (pq_P t σ (I_25, J, ri_569, rj, rq)) → va_S A s.heap H locs → lv_has ls 7 [(0, .ref this), (1, .ref a0), (2, .ref a1), (3, .int a2), (4, .int x_567), (5, .int x_568)] → W p l e ({ frames := 4, cells := 0, slots := 0, locals := 105 } : Room) s m (List.toArray ([.ref this, .ref a0, .ref a1, .int a2] : List Value)) below meth c H locs 0 0 Q (F0 m 55 ls []) := by
      intro n_
      induction n_ with
      | zero => intro x_567 x_568 ri_569 H locs ls h_630 hm hG hP hD hS hl; exact absurd hm (Nat.not_lt_zero _)
      | succ n_ ih_628 =>
        intro x_567 x_568 ri_569 H locs ls h_630 hm hG hP hD hS hl
        refine lv_iload hx hb dX5_lacksOf_55 (lv_at hl 5 rfl) ?_
        refine lv_iload_n hx hb dX5_lacksOf_57 rfl (lv_at hl 3 rfl) ?_
        have K_687 : ∀  (H : Heap) (locs : List Loc) (ls : Array Slot), GX [] tg σ I I_25 ri_569 rq → va_P D vwCl (pq_P t σ (I_25, J, ri_569, rj, rq)) H → va_D A (pq_P t σ (I_25, J, ri_569, rj, rq)) → va_S A s.heap H locs → lv_has ls 7 [(4, .int x_567)] → W p l e ({ frames := 4, cells := 0, slots := 0, locals := 105 } : Room) s m (List.toArray ([.ref this, .ref a0, .ref a1, .int a2] : List Value)) below meth c H locs 0 0 Q (F0 m 193 ls []) := by
          intro H locs ls hG hP hD hS hl
          refine lv_iload hx hb dX5_lacksOf_193 (lv_at hl 0 rfl) ?_
          subst hQ
          exact W.iret (v := x_567) hx hb hr (fun t1 ht hW => ⟨⟨x_567, (σ, I_25, J, ri_569, rj, rq), rfl, ⟨I_25, ri_569, rfl, hG⟩, by rw [ht]; exact hP, va_K.moved hW.alike hK, hD⟩, hS.F ht⟩) hS.2.2 dX5_lacksOf_195
        refine lv_icmp_ge (tgt := 193) hx hb dX5_lacksOf_58 (by decide) (fun c_688 => ?_) (fun c_688 => ?_)
        · exact K_687 _ _ _ hG hP hD hS (lv_sub hl [4] rfl)
        · have h_689 : rg x_568 0 11 := rg_lt1 (nle c_688) h_630 h_a2 (by decide)
          have h_690 : rg a2 1 12 := rg_lt2 (nle c_688) h_630 h_a2 (by decide)
          refine lv_iload hx hb dX5_lacksOf_61 (lv_at hl 4 rfl) ?_
          refine lv_aload_n hx hb dX5_lacksOf_63 rfl (lv_at hl 0 rfl) ?_
          refine pg_f (v := .int (I_25 160 this)) (C := RX5) (T := TX5) (N := 8) hx hb hts (tw_i inlX5) hown hK hP hL_this hK_this (by decide) rfl 0 (by decide) (hts _ (tw_c tw_1441)) rfl dX5_lacksOf_64 ?_
          refine lv_icmp_ge (tgt := 193) hx hb dX5_lacksOf_67 (by decide) (fun c_691 => ?_) (fun c_691 => ?_)
          · exact K_687 _ _ _ hG hP hD hS (lv_sub hl [4] rfl)
          · have h_692 : rg x_567 (-2147483648) 2147483646 := rg_lt1 (nle c_691) (rg_full _) (rg_full _) (by decide)
            have h_693 : rg (I_25 160 this) (-2147483647) 2147483647 := rg_lt2 (nle c_691) (rg_full _) (rg_full _) (by decide)
            refine lv_aload_n hx hb dX5_lacksOf_70 rfl (lv_at hl 1 rfl) ?_
            refine pg_f (v := .int (I_25 320 a0)) (C := RX10) (T := TX10) (N := 13) hx hb hts (tw_i inlX10) hown hK hP hL_a0 hK_a0 (by decide) rfl 0 (by decide) (hts _ (tw_c tw_1449)) rfl dX5_lacksOf_71 ?_
            have h_694 : rg (I_25 320 a0) 0 600 := GX.rI hG 320 rfl
            refine lv_iload hx hb dX5_lacksOf_74 (lv_at hl 5 rfl) ?_
            refine lv_iadd hx hb dX5_lacksOf_76 ?_
            refine lv_topi (fun x_695 ex_695 => ?_)
            have h_696 : rg x_695 0 611 := rg_of_eq ex_695 (rg_add h_694 h_689 (by decide))
            refine lv_istore (lv' := [(6, .int x_695), (0, .ref this), (1, .ref a0), (2, .ref a1), (3, .int a2), (4, .int x_567), (5, .int x_568)]) hx hb dX5_lacksOf_77 hl (by decide) rfl (fun ls hl => ?_)
            refine lv_aload_n hx hb dX5_lacksOf_79 rfl (lv_at hl 3 rfl) ?_
            refine pg_f (v := .ref w_1) (C := RX10) (T := TX10) (N := 13) hx hb hts (tw_i inlX10) hown hK hP hL_a1 hK_a1 (by decide) rfl 7 (by decide) (hts _ (tw_c tw_1438)) (pq_hv rfl hR_w_1) dX5_lacksOf_80 ?_
            refine pg_f (v := .ref w_2) (C := RX2) (T := TX2) (N := 20) hx hb hts (tw_i inlX2) hown hK hP hL_w_1 hK_w_1 (by decide) rfl 14 (by decide) (hts _ (tw_c tw_1458)) (pq_hv rfl hR_w_2) dX5_lacksOf_83 ?_
            refine lv_aload_n hx hb dX5_lacksOf_86 rfl (lv_at hl 3 rfl) ?_
            refine pg_f (v := .ref w_1) (C := RX10) (T := TX10) (N := 13) hx hb hts (tw_i inlX10) hown hK hP hL_a1 hK_a1 (by decide) rfl 7 (by decide) (hts _ (tw_c tw_1438)) (pq_hv rfl hR_w_1) dX5_lacksOf_87 ?_
            refine pg_f (v := .int (I_25 65 w_1)) (C := RX2) (T := TX2) (N := 20) hx hb hts (tw_i inlX2) hown hK hP hL_w_1 hK_w_1 (by decide) rfl 1 (by decide) (hts _ (tw_c tw_1460)) rfl dX5_lacksOf_90 ?_
            have h_697 : rg (I_25 65 w_1) 0 40 := GX.rI hG 65 rfl
            refine lv_aload_n hx hb dX5_lacksOf_93 rfl (lv_at hl 1 rfl) ?_
            obtain ⟨w_698, hR_w_698, hL_w_698, hK_w_698, hN_w_698, hT_w_698⟩ := sh_a hSH 165 (ci := 5) (kd := 14) (len := 12) rfl (by decide) hL_this hK_this
            refine pg_f (v := .ref w_698) (C := RX5) (T := TX5) (N := 8) hx hb hts (tw_i inlX5) hown hK hP hL_this hK_this (by decide) rfl 5 (by decide) (hts _ (tw_c tw_145)) (pq_hv rfl hR_w_698) dX5_lacksOf_94 ?_
            refine lv_iload hx hb dX5_lacksOf_97 (lv_at hl 6 rfl) ?_
            refine pl_l hx hb hK hP hL_w_698 hK_w_698 hN_w_698 (rg_in h_689 (by decide)) dX5_lacksOf_99 ?_
            refine lv_topl (fun x_699 ex_699 => ?_)
            refine lv_aload_n hx hb dX5_lacksOf_100 rfl (lv_at hl 2 rfl) ?_
            obtain ⟨w_700, hR_w_700, hL_w_700, hK_w_700⟩ := sh_o hSH 326 (ci := 10) (kd := 7) rfl hL_a0 hK_a0
            refine pg_f (v := .ref w_700) (C := RX10) (T := TX10) (N := 13) hx hb hts (tw_i inlX10) hown hK hP hL_a0 hK_a0 (by decide) rfl 6 (by decide) (hts _ (tw_c tw_1461)) (pq_hv rfl hR_w_700) dX5_lacksOf_101 ?_
            obtain ⟨w_701, hR_w_701, hL_w_701, hK_w_701, hN_w_701, hT_w_701⟩ := sh_a hSH 233 (ci := 7) (kd := 13) (len := 12) rfl (by decide) hL_w_700 hK_w_700
            refine pg_f (v := .ref w_701) (C := RX7) (T := TX7) (N := 15) hx hb hts (tw_i inlX7) hown hK hP hL_w_700 hK_w_700 (by decide) rfl 9 (by decide) (hts _ (tw_c tw_1462)) (pq_hv rfl hR_w_701) dX5_lacksOf_104 ?_
            refine lv_iload hx hb dX5_lacksOf_107 (lv_at hl 0 rfl) ?_
            refine lv_bipush (v := 12) hx hb dX5_lacksOf_109 (by decide) ?_
            refine lv_irem hx hb dX5_lacksOf_111 (by decide) ?_
            refine lv_topi (fun x_702 ex_702 => ?_)
            have h_703 : rg x_702 0 11 := rg_of_eq ex_702 (rg_rem h_696 rfl (by decide))
            refine pl_i hx hb hK hP hL_w_701 hK_w_701 hN_w_701 (rg_in h_703 (by decide)) dX5_lacksOf_112 ?_
            refine lv_topi (fun x_704 ex_704 => ?_)
            refine pk_v (va_runV (As := [.int (I_25 65 w_1), .long x_699, .int x_704]) (rest := []) ⟨hx, hb, hml, hown, hts⟩ (s_X9_fillUp l D t σ I_25 J ri_569 rj rq H.size tg hSH hG.1 w_2 (I_25 65 w_1) x_699 x_704 hL_w_2 hK_w_2 (rg_w h_697 (by decide))) (cwV 3 hts (tw_V tw_1471 tw_1084 tw_1085 tw_94 tw_1086) rfl rfl rfl (by decide +kernel) ⟨Nat.le_of_ble_eq_true rfl, Nat.le_of_ble_eq_true rfl⟩) ⟨pq_blind, pq_recv hK hP hL_w_2 hK_w_2 (by decide) rfl, pq_pre hK hN hP hD⟩ rfl rfl hl.1 rfl (lv_room (Nat.le_of_ble_eq_true rfl)) dX5_lacksOf_113 ⟨Nat.le_of_ble_eq_true rfl, Nat.le_of_ble_eq_true rfl⟩) hD hS hA (fun σ1 μ1 H locs hw_706 hP hD hS => ?_)
            obtain ⟨ri_707, hu_708, hg_709⟩ := hw_706
            obtain ⟨hu_708a, hu_708b⟩ := Prod.mk.inj hu_708
            rw [hu_708a, hu_708b] at hP hD
            have hG := GX.tr hG hg_709 (by decide)
            refine lv_iload hx hb dX5_lacksOf_116 (lv_at hl 5 rfl) ?_
            refine lv_aload_n hx hb dX5_lacksOf_118 rfl (lv_at hl 3 rfl) ?_
            refine pg_f (v := .ref w_13) (C := RX10) (T := TX10) (N := 13) hx hb hts (tw_i inlX10) hown hK hP hL_a1 hK_a1 (by decide) rfl 8 (by decide) (hts _ (tw_c tw_1446)) (pq_hv rfl hR_w_13) dX5_lacksOf_119 ?_
            refine lv_aload_n hx hb dX5_lacksOf_122 rfl (lv_at hl 3 rfl) ?_
            refine pg_f (v := .ref w_1) (C := RX10) (T := TX10) (N := 13) hx hb hts (tw_i inlX10) hown hK hP hL_a1 hK_a1 (by decide) rfl 7 (by decide) (hts _ (tw_c tw_1438)) (pq_hv rfl hR_w_1) dX5_lacksOf_123 ?_
            refine pk_i (va_runV (As := [.ref w_1]) (rest := [.int x_567]) ⟨hx, hb, hml, hown, hts⟩ (s_X0_drink l D t σ I_25 J ri_707 rj rq H.size tg hSH hG.1 w_13 w_1 hL_w_13 hK_w_13 hL_w_1 hK_w_1) (cwV 1 hts (tw_V tw_1472 tw_1095 tw_1096 tw_45 tw_1097) rfl rfl rfl (by decide +kernel) ⟨Nat.le_of_ble_eq_true rfl, Nat.le_of_ble_eq_true rfl⟩) ⟨pq_blind, pq_recv hK hP hL_w_13 hK_w_13 (by decide) rfl, pq_pre hK hN hP hD⟩ rfl rfl hl.1 rfl (lv_room (Nat.le_of_ble_eq_true rfl)) dX5_lacksOf_126 ⟨Nat.le_of_ble_eq_true rfl, Nat.le_of_ble_eq_true rfl⟩) hD hS hA (fun x_711 σ1 μ1 H locs hw_712 hP hD hS => ?_)
            obtain ⟨ri_713, hu_714, hg_715⟩ := hw_712
            obtain ⟨hu_714a, hu_714b⟩ := Prod.mk.inj hu_714
            rw [hu_714a, hu_714b] at hP hD
            have hG := GX.tr hG hg_715 (by decide)
            refine lv_iadd hx hb dX5_lacksOf_129 ?_
            refine lv_topi (fun x_717 ex_717 => ?_)
            refine lv_istore (lv' := [(4, .int x_717), (6, .int x_695), (0, .ref this), (1, .ref a0), (2, .ref a1), (3, .int a2), (5, .int x_568)]) hx hb dX5_lacksOf_130 hl (by decide) rfl (fun ls hl => ?_)
            refine lv_iload hx hb dX5_lacksOf_132 (lv_at hl 0 rfl) ?_
            refine lv_aload_n hx hb dX5_lacksOf_134 rfl (lv_at hl 4 rfl) ?_
            refine pg_f (v := .ref w_13) (C := RX10) (T := TX10) (N := 13) hx hb hts (tw_i inlX10) hown hK hP hL_a1 hK_a1 (by decide) rfl 8 (by decide) (hts _ (tw_c tw_1446)) (pq_hv rfl hR_w_13) dX5_lacksOf_135 ?_
            refine lv_aload_n hx hb dX5_lacksOf_138 rfl (lv_at hl 2 rfl) ?_
            obtain ⟨w_718, hR_w_718, hL_w_718, hK_w_718, hN_w_718, hT_w_718⟩ := sh_a hSH 166 (ci := 5) (kd := 13) (len := 60) rfl (by decide) hL_this hK_this
            refine pg_f (v := .ref w_718) (C := RX5) (T := TX5) (N := 8) hx hb hts (tw_i inlX5) hown hK hP hL_this hK_this (by decide) rfl 6 (by decide) (hts _ (tw_c tw_146)) (pq_hv rfl hR_w_718) dX5_lacksOf_139 ?_
            refine lv_iload hx hb dX5_lacksOf_142 (lv_at hl 6 rfl) ?_
            refine lv_iconst (v := 5) hx hb dX5_lacksOf_144 (by decide) ?_
            refine lv_imul hx hb dX5_lacksOf_145 ?_
            refine lv_topi (fun x_719 ex_719 => ?_)
            have h_720 : rg x_719 0 55 := rg_of_eq ex_719 (rg_mul h_689 (rg_k (5 : Int32) 5 rfl) (by decide))
            refine pk_i (va_runV (As := [.ref w_718, .int x_719]) (rest := [.int x_717]) ⟨hx, hb, hml, hown, hts⟩ (s_X0_sleep_166 l D t σ I_25 J ri_713 rj rq H.size tg hSH hG.1 w_13 w_718 x_719 hL_w_13 hK_w_13 hL_w_718 hK_w_718 hN_w_718 hT_w_718 (rg_w h_720 (by decide))) (cwV 2 hts (tw_V tw_1473 tw_1121 tw_1122 tw_45 tw_1123) rfl rfl rfl (by decide +kernel) ⟨Nat.le_of_ble_eq_true rfl, Nat.le_of_ble_eq_true rfl⟩) ⟨pq_blind, pq_recv hK hP hL_w_13 hK_w_13 (by decide) rfl, pq_pre hK hN hP hD⟩ rfl rfl hl.1 rfl (lv_room (Nat.le_of_ble_eq_true rfl)) dX5_lacksOf_146 ⟨Nat.le_of_ble_eq_true rfl, Nat.le_of_ble_eq_true rfl⟩) hD hS hA (fun x_721 σ1 μ1 H locs hw_722 hP hD hS => ?_)
            obtain ⟨ri_723, hu_724, hg_725⟩ := hw_722
            obtain ⟨hu_724a, hu_724b⟩ := Prod.mk.inj hu_724
            rw [hu_724a, hu_724b] at hP hD
            have hG := GX.tr hG hg_725 (by decide)
            refine lv_iadd hx hb dX5_lacksOf_149 ?_
            refine lv_topi (fun x_727 ex_727 => ?_)
            refine lv_istore (lv' := [(4, .int x_727), (6, .int x_695), (0, .ref this), (1, .ref a0), (2, .ref a1), (3, .int a2), (5, .int x_568)]) hx hb dX5_lacksOf_150 hl (by decide) rfl (fun ls hl => ?_)
            refine lv_aload_n hx hb dX5_lacksOf_152 rfl (lv_at hl 3 rfl) ?_
            refine pg_f (v := .int (I_25 322 a0)) (C := RX10) (T := TX10) (N := 13) hx hb hts (tw_i inlX10) hown hK hP hL_a0 hK_a0 (by decide) rfl 2 (by decide) (hts _ (tw_c tw_1463)) rfl dX5_lacksOf_153 ?_
            have K_744 : ∀  (ri_741 : Nat → Nat → Int32) (H : Heap) (locs : List Loc) (ls : Array Slot), GX [] tg σ I I_25 ri_741 rq → va_P D vwCl (pq_P t σ (I_25, J, ri_741, rj, rq)) H → va_D A (pq_P t σ (I_25, J, ri_741, rj, rq)) → va_S A s.heap H locs → lv_has ls 7 [(0, .ref this), (1, .ref a0), (2, .ref a1), (3, .int a2), (4, .int x_727), (5, .int x_568)] → W p l e ({ frames := 4, cells := 0, slots := 0, locals := 105 } : Room) s m (List.toArray ([.ref this, .ref a0, .ref a1, .int a2] : List Value)) below meth c H locs 0 0 Q (F0 m 187 ls []) := by
              intro ri_741 H locs ls hG hP hD hS hl
              obtain ⟨x_745, ex_745⟩ : ∃ y : Int32, y = x_568 + Int32.ofInt 1 := ⟨_, rfl⟩
              have h_746 : rg x_745 1 12 := rg_of_eq ex_745 (rg_add h_689 (rg_k (Int32.ofInt 1) 1 rfl) (by decide))
              refine lv_iinc (v := x_745) (lv' := [(5, .int x_745), (0, .ref this), (1, .ref a0), (2, .ref a1), (3, .int a2), (4, .int x_727)]) hx hb dX5_lacksOf_187 hl (k := 5) rfl ex_745.symm (by decide) rfl (fun ls hl => ?_)
              refine lv_goto (tgt := 55) hx hb dX5_lacksOf_190 (by decide) ?_
              exact ih_628 x_727 x_745 ri_741 _ _ _ (rg_w h_746 (by decide)) (ms_up 1 hm ex_745 rfl (by decide) h_689 (by decide) (by decide)) hG hP hD hS (lv_sub hl [1, 2, 3, 4, 5, 0] rfl)
            refine lv_if_le (tgt := 187) hx hb dX5_lacksOf_156 (by decide) (fun c_747 => ?_) (fun c_747 => ?_)
            · have h_748 : rg (I_25 322 a0) (-2147483648) 0 := rg_le1 c_747 (rg_full _) (rg_k (0 : Int32) 0 rfl) (by decide)
              exact K_744 ri_723 _ _ _ hG hP hD hS (lv_sub hl [2, 3, 4, 5, 0, 6] rfl)
            · have h_749 : rg (I_25 322 a0) 1 2147483647 := rg_lt2 (nle c_747) (rg_k (0 : Int32) 0 rfl) (rg_full _) (by decide)
              refine lv_aload_n hx hb dX5_lacksOf_159 rfl (lv_at hl 4 rfl) ?_
              refine pg_f (v := .ref w_13) (C := RX10) (T := TX10) (N := 13) hx hb hts (tw_i inlX10) hown hK hP hL_a1 hK_a1 (by decide) rfl 8 (by decide) (hts _ (tw_c tw_1446)) (pq_hv rfl hR_w_13) dX5_lacksOf_160 ?_
              refine lv_aload_n hx hb dX5_lacksOf_163 rfl (lv_at hl 2 rfl) ?_
              obtain ⟨w_750, hR_w_750, hL_w_750, hK_w_750, hN_w_750, hT_w_750⟩ := sh_a hSH 167 (ci := 5) (kd := 14) (len := 12) rfl (by decide) hL_this hK_this
              refine pg_f (v := .ref w_750) (C := RX5) (T := TX5) (N := 8) hx hb hts (tw_i inlX5) hown hK hP hL_this hK_this (by decide) rfl 7 (by decide) (hts _ (tw_c tw_147)) (pq_hv rfl hR_w_750) dX5_lacksOf_164 ?_
              refine lv_iload hx hb dX5_lacksOf_167 (lv_at hl 6 rfl) ?_
              refine pl_l hx hb hK hP hL_w_750 hK_w_750 hN_w_750 (rg_in h_689 (by decide)) dX5_lacksOf_169 ?_
              refine lv_topl (fun x_751 ex_751 => ?_)
              refine lv_aload_n hx hb dX5_lacksOf_170 rfl (lv_at hl 2 rfl) ?_
              obtain ⟨w_752, hR_w_752, hL_w_752, hK_w_752, hN_w_752, hT_w_752⟩ := sh_a hSH 163 (ci := 5) (kd := 13) (len := 40) rfl (by decide) hL_this hK_this
              refine pg_f (v := .ref w_752) (C := RX5) (T := TX5) (N := 8) hx hb hts (tw_i inlX5) hown hK hP hL_this hK_this (by decide) rfl 3 (by decide) (hts _ (tw_c tw_144)) (pq_hv rfl hR_w_752) dX5_lacksOf_171 ?_
              refine lv_aload_n hx hb dX5_lacksOf_174 rfl (lv_at hl 2 rfl) ?_
              refine pg_f (v := .int (I_25 164 this)) (C := RX5) (T := TX5) (N := 8) hx hb hts (tw_i inlX5) hown hK hP hL_this hK_this (by decide) rfl 4 (by decide) (hts _ (tw_c tw_1464)) rfl dX5_lacksOf_175 ?_
              have h_753 : rg (I_25 164 this) 0 40 := GX.rI hG 164 rfl
              refine lv_aload_n hx hb dX5_lacksOf_178 rfl (lv_at hl 3 rfl) ?_
              refine pg_f (v := .int (I_25 322 a0)) (C := RX10) (T := TX10) (N := 13) hx hb hts (tw_i inlX10) hown hK hP hL_a0 hK_a0 (by decide) rfl 2 (by decide) (hts _ (tw_c tw_1463)) rfl dX5_lacksOf_179 ?_
              refine lv_iload hx hb dX5_lacksOf_182 (lv_at hl 1 rfl) ?_
              refine pk_v (va_runV (As := [.long x_751, .ref w_752, .int (I_25 164 this), .int (I_25 322 a0), .int x_695]) (rest := []) ⟨hx, hb, hml, hown, hts⟩ (s_X0_board_163 l D t σ I_25 J ri_723 rj rq H.size tg hSH hG.1 w_13 x_751 w_752 (I_25 164 this) (I_25 322 a0) x_695 hL_w_13 hK_w_13 hL_w_752 hK_w_752 hN_w_752 hT_w_752) (cwV 5 hts (tw_V tw_1474 tw_1168 tw_1169 tw_45 tw_1170) rfl rfl rfl (by decide +kernel) ⟨Nat.le_of_ble_eq_true rfl, Nat.le_of_ble_eq_true rfl⟩) ⟨pq_blind, pq_recv hK hP hL_w_13 hK_w_13 (by decide) rfl, pq_pre hK hN hP hD⟩ rfl rfl hl.1 rfl (lv_room (Nat.le_of_ble_eq_true rfl)) dX5_lacksOf_184 ⟨Nat.le_of_ble_eq_true rfl, Nat.le_of_ble_eq_true rfl⟩) hD hS hA (fun σ1 μ1 H locs hw_755 hP hD hS => ?_)
              obtain ⟨ri_756, hu_757, hg_758⟩ := hw_755
              obtain ⟨hu_757a, hu_757b⟩ := Prod.mk.inj hu_757
              rw [hu_757a, hu_757b] at hP hD
              have hG := GX.tr hG hg_758 (by decide)
              exact K_744 ri_756 _ _ _ hG hP hD hS (lv_sub hl [2, 3, 4, 5, 0, 6] rfl)
    exact L_627 _ (0 : Int32) (0 : Int32) ri_26 _ _ _ (rg_w (rg_k (0 : Int32) 0 rfl) (by decide)) (Nat.lt_succ_self _) hG hP hD hS (lv_sub hl [2, 3, 4, 5, 1, 0] rfl)
  exact go _ _ _ hP hD hS hl

set_option maxHeartbeats 4000000 in
set_option maxRecDepth 100000 in
theorem s_X11_copy_162_161 (l : Launch) (D : va_G) (t : pq_T) (σ : pq_S) (I : Nat → Nat → Int32) (J : Nat → Nat → Int64) (ri : Nat → Nat → Int32) (rj : Nat → Nat → Int64) (rq : Nat → Nat → Option Nat) (sz : Nat) (tg : Nat → Nat) (hSH : SH σ tg) (hG0 : GS tg σ I ri rq) (a0 : Nat) (a1 : Nat) (hL_a0 : a0 ∈ σ.1) (hK_a0 : σ.2.1 a0 = 13) (hN_a0 : σ.2.2.2 a0 = 5) (hT_a0 : tg a0 = 162) (hL_a1 : a1 ∈ σ.1) (hK_a1 : σ.2.1 a1 = 13) (hN_a1 : σ.2.2.2 a1 = 5) (hT_a1 : tg a1 = 161) : MetV l yX11_copy (wa yX11_copy cX11_copy 2 none) ({ frames := 1, cells := 0, slots := 0, locals := 60 }) [.ref a0, .ref a1] D t σ (I, J, ri, rj, rq) sz 0 0 (fun (u : pq_S × pq_M) => ∃ ri' : Nat → Nat → Int32, u = (σ, I, J, ri', rj, rq) ∧ GX [] tg σ I I ri' rq ∧ (∀ j, j < 5 → ri' a1 j = ri a0 j)) := by
  refine Met.ofW (cc := cX11_copy) (maxL := 2) (ret := none) (by decide) rfl ?_
  intro p e s m args below meth c s₁ B hml hv
  obtain ⟨rfl, hsz, hP, hK, hD0, hN⟩ := hv
  have hx := B.exec
  have hb := B.bytes
  have hr := B.returns
  have hts := atoms_spec (ws := (wa yX11_copy cX11_copy 2 none)) B.pre
  have hown : s.vm.findClass RX11 = some m.cls := findClass_of_methodNamed B.named
  have hlocks := B.notSynchronized
  subst hsz
  have hD : va_D (pq_B t σ (I, J, ri, rj, rq) s.heap.size) (pq_P t σ (I, J, ri, rj, rq)) := hD0.self
  generalize hAe : pq_B t σ (I, J, ri, rj, rq) s.heap.size = A at hD ⊢
  have hA : ∀ q : Nat, s.heap.size ≤ q → A q := fun q h => by rw [← hAe]; exact Or.inr h
  have hS : va_S A s.heap s.heap [] := va_S.rf
  have hG : GX [] tg σ I I ri rq := ⟨hG0, fun _ _ _ => rfl⟩
  have hl := lv_entry ([.ref a0, .ref a1]) (n := 2) (Nat.le_of_ble_eq_true rfl)
  rw [lg_entry_eq]
  generalize (lg_sl ([.ref a0, .ref a1]) ++ List.replicate (2 - (lg_sl ([.ref a0, .ref a1])).length) Slot.unset).toArray = ls at hl ⊢
  have hl : lv_has ls 2 [(0, .ref a0), (1, .ref a1)] := hl
  refine q_gen (fun Q hQ => ?_)
  have go : ∀ (H : Heap) (locs : List Loc) (ls : Array Slot), va_P D vwCl (pq_P t σ (I, J, ri, rj, rq)) H → va_D A (pq_P t σ (I, J, ri, rj, rq)) → va_S A s.heap H locs → lv_has ls 2 [(0, .ref a0), (1, .ref a1)] → W p l e ({ frames := 1, cells := 0, slots := 0, locals := 60 } : Room) s m (List.toArray ([.ref a0, .ref a1] : List Value)) below meth c H locs 0 0 Q (F0 m 0 ls []) := by
    intro H locs ls hP hD hS hl
    refine lv_aload_n hx hb dX11_copy_0 rfl (lv_at hl 0 rfl) ?_
    refine lv_iconst (v := 0) hx hb dX11_copy_1 (by decide) ?_
    refine lv_aload_n hx hb dX11_copy_2 rfl (lv_at hl 1 rfl) ?_
    refine lv_iconst (v := 0) hx hb dX11_copy_3 (by decide) ?_
    refine lv_aload_n hx hb dX11_copy_4 rfl (lv_at hl 0 rfl) ?_
    refine pn_i (v := 5) hx hb hK hP hL_a0 hK_a0 hN_a0 (by decide) dX11_copy_5 ?_
    refine lv_aload_n hx hb dX11_copy_6 rfl (lv_at hl 1 rfl) ?_
    refine pn_i (v := 5) hx hb hK hP hL_a1 hK_a1 hN_a1 (by decide) dX11_copy_7 ?_
    refine va_mmin hx hb (hml.trans hl.1.symm) hown (hts _ (tw_c tw_1103)) (hts _ (tw_c tw_467)) (hts _ (tw_c tw_276)) (hts _ (tw_c tw_468)) (Nat.le_of_ble_eq_true rfl) (Nat.le_of_ble_eq_true rfl) (Nat.zero_le _) (Nat.zero_le _) dX11_copy_8 ?_
    refine lv_topi (fun x_1 ex_1 => ?_)
    have h_2 : rg x_1 5 5 := rg_of_eq ex_1 (rg_min2 (rg_k (5 : Int32) 5 rfl) (rg_k (5 : Int32) 5 rfl) (by decide))
    refine pc_i hx hb (hml.trans hl.1.symm) hown (hts _ (tw_c tw_1104)) (hts _ (tw_c tw_1105)) (hts _ (tw_c tw_1106)) (hts _ (tw_c tw_1107)) hK hP hD hS hL_a0 hK_a0 hN_a0 hL_a1 hK_a1 hN_a1 (rg_pos (rg_k (0 : Int32) 0 rfl) (by decide)) (rg_pos h_2 (by decide)) (rg_cp (rg_k (0 : Int32) 0 rfl) h_2 (by decide)) (rg_cl h_2 (by decide)) (Nat.le_of_ble_eq_true rfl) (Nat.le_of_ble_eq_true rfl) dX11_copy_11 (fun r_3 H locs er_3 hP hD hS => ?_)
    have hG := GX.cR hG hSH hT_a0 rfl hT_a1 rfl er_3 (by decide)
    subst hQ
    exact W.vret hx hb hr (fun t1 ht hW => ⟨⟨(σ, I, J, r_3, rj, rq), rfl, ⟨r_3, rfl, hG, (cpy_eq er_3 h_2 rfl)⟩, by rw [ht]; exact hP, va_K.moved hW.alike hK, hD⟩, hS.F ht⟩) hS.2.2 dX11_copy_14
  exact go _ _ _ hP hD hS hl

set_option maxHeartbeats 4000000 in
set_option maxRecDepth 100000 in
theorem s_X5_swap (l : Launch) (D : va_G) (t : pq_T) (σ : pq_S) (I : Nat → Nat → Int32) (J : Nat → Nat → Int64) (ri : Nat → Nat → Int32) (rj : Nat → Nat → Int64) (rq : Nat → Nat → Option Nat) (sz : Nat) (tg : Nat → Nat) (hSH : SH σ tg) (hG0 : GS tg σ I ri rq) (this : Nat) (a0 : Int32) (a1 : Int32) (hL_this : this ∈ σ.1) (hK_this : σ.2.1 this = 5) (h_a0 : rg a0 0 4) (h_a1 : rg a1 0 4) : MetV l yX5_swap (wa yX5_swap cX5_swap 4 none) ({ frames := 0, cells := 0, slots := 0, locals := 0 }) [.ref this, .int a0, .int a1] D t σ (I, J, ri, rj, rq) sz 0 0 (fun (u : pq_S × pq_M) => ∃ ri' : Nat → Nat → Int32, u = (σ, I, J, ri', rj, rq) ∧ GX [] tg σ I I ri' rq) := by
  refine Met.ofW (cc := cX5_swap) (maxL := 4) (ret := none) (by decide) rfl ?_
  intro p e s m args below meth c s₁ B hml hv
  obtain ⟨rfl, hsz, hP, hK, hD0, hN⟩ := hv
  have hx := B.exec
  have hb := B.bytes
  have hr := B.returns
  have hts := atoms_spec (ws := (wa yX5_swap cX5_swap 4 none)) B.pre
  have hown : s.vm.findClass RX5 = some m.cls := findClass_of_methodNamed B.named
  have hlocks := B.notSynchronized
  subst hsz
  have hD : va_D (pq_B t σ (I, J, ri, rj, rq) s.heap.size) (pq_P t σ (I, J, ri, rj, rq)) := hD0.self
  generalize hAe : pq_B t σ (I, J, ri, rj, rq) s.heap.size = A at hD ⊢
  have hA : ∀ q : Nat, s.heap.size ≤ q → A q := fun q h => by rw [← hAe]; exact Or.inr h
  have hS : va_S A s.heap s.heap [] := va_S.rf
  have hG : GX [] tg σ I I ri rq := ⟨hG0, fun _ _ _ => rfl⟩
  have hl := lv_entry ([.ref this, .int a0, .int a1]) (n := 4) (Nat.le_of_ble_eq_true rfl)
  rw [lg_entry_eq]
  generalize (lg_sl ([.ref this, .int a0, .int a1]) ++ List.replicate (4 - (lg_sl ([.ref this, .int a0, .int a1])).length) Slot.unset).toArray = ls at hl ⊢
  have hl : lv_has ls 4 [(0, .ref this), (1, .int a0), (2, .int a1)] := hl
  refine q_gen (fun Q hQ => ?_)
  have go : ∀ (H : Heap) (locs : List Loc) (ls : Array Slot), va_P D vwCl (pq_P t σ (I, J, ri, rj, rq)) H → va_D A (pq_P t σ (I, J, ri, rj, rq)) → va_S A s.heap H locs → lv_has ls 4 [(0, .ref this), (1, .int a0), (2, .int a1)] → W p l e ({ frames := 0, cells := 0, slots := 0, locals := 0 } : Room) s m (List.toArray ([.ref this, .int a0, .int a1] : List Value)) below meth c H locs 0 0 Q (F0 m 0 ls []) := by
    intro H locs ls hP hD hS hl
    refine lv_aload_n hx hb dX5_swap_0 rfl (lv_at hl 0 rfl) ?_
    obtain ⟨w_1, hR_w_1, hL_w_1, hK_w_1, hN_w_1, hT_w_1⟩ := sh_a hSH 162 (ci := 5) (kd := 13) (len := 5) rfl (by decide) hL_this hK_this
    refine pg_f (v := .ref w_1) (C := RX5) (T := TX5) (N := 8) hx hb hts (tw_i inlX5) hown hK hP hL_this hK_this (by decide) rfl 2 (by decide) (hts _ (tw_c tw_143)) (pq_hv rfl hR_w_1) dX5_swap_1 ?_
    refine lv_iload_n hx hb dX5_swap_4 rfl (lv_at hl 1 rfl) ?_
    refine pl_i hx hb hK hP hL_w_1 hK_w_1 hN_w_1 (rg_in h_a0 (by decide)) dX5_swap_5 ?_
    refine lv_topi (fun x_2 ex_2 => ?_)
    have h_3 : rg x_2 0 4 := rg_of_eq ex_2 (GX.rR hG hT_w_1 rfl)
    refine lv_istore_n (lv' := [(3, .int x_2), (0, .ref this), (1, .int a0), (2, .int a1)]) hx hb dX5_swap_6 rfl hl (by decide) rfl (fun ls hl => ?_)
    refine lv_aload_n hx hb dX5_swap_7 rfl (lv_at hl 1 rfl) ?_
    refine pg_f (v := .ref w_1) (C := RX5) (T := TX5) (N := 8) hx hb hts (tw_i inlX5) hown hK hP hL_this hK_this (by decide) rfl 2 (by decide) (hts _ (tw_c tw_143)) (pq_hv rfl hR_w_1) dX5_swap_8 ?_
    refine lv_iload_n hx hb dX5_swap_11 rfl (lv_at hl 2 rfl) ?_
    refine lv_aload_n hx hb dX5_swap_12 rfl (lv_at hl 1 rfl) ?_
    refine pg_f (v := .ref w_1) (C := RX5) (T := TX5) (N := 8) hx hb hts (tw_i inlX5) hown hK hP hL_this hK_this (by decide) rfl 2 (by decide) (hts _ (tw_c tw_143)) (pq_hv rfl hR_w_1) dX5_swap_13 ?_
    refine lv_iload_n hx hb dX5_swap_16 rfl (lv_at hl 3 rfl) ?_
    refine pl_i hx hb hK hP hL_w_1 hK_w_1 hN_w_1 (rg_in h_a1 (by decide)) dX5_swap_17 ?_
    refine lv_topi (fun x_4 ex_4 => ?_)
    have h_5 : rg x_4 0 4 := rg_of_eq ex_4 (GX.rR hG hT_w_1 rfl)
    refine pt_i hx hb hK hP hD hS hL_w_1 hK_w_1 hN_w_1 (rg_in h_a0 (by decide)) dX5_swap_18 (fun r_6 H locs er_6 hP hD hS => ?_)
    have hG := GX.wR hG hSH hT_w_1 rfl er_6 (rg_w h_5 (by decide)) (by decide)
    refine lv_aload_n hx hb dX5_swap_19 rfl (lv_at hl 1 rfl) ?_
    refine pg_f (v := .ref w_1) (C := RX5) (T := TX5) (N := 8) hx hb hts (tw_i inlX5) hown hK hP hL_this hK_this (by decide) rfl 2 (by decide) (hts _ (tw_c tw_143)) (pq_hv rfl hR_w_1) dX5_swap_20 ?_
    refine lv_iload_n hx hb dX5_swap_23 rfl (lv_at hl 3 rfl) ?_
    refine lv_iload_n hx hb dX5_swap_24 rfl (lv_at hl 0 rfl) ?_
    refine pt_i hx hb hK hP hD hS hL_w_1 hK_w_1 hN_w_1 (rg_in h_a1 (by decide)) dX5_swap_25 (fun r_7 H locs er_7 hP hD hS => ?_)
    have hG := GX.wR hG hSH hT_w_1 rfl er_7 (rg_w h_3 (by decide)) (by decide)
    subst hQ
    exact W.vret hx hb hr (fun t1 ht hW => ⟨⟨(σ, I, J, r_7, rj, rq), rfl, ⟨r_7, rfl, hG⟩, by rw [ht]; exact hP, va_K.moved hW.alike hK, hD⟩, hS.F ht⟩) hS.2.2 dX5_swap_26
  exact go _ _ _ hP hD hS hl

set_option maxHeartbeats 4000000 in
set_option maxRecDepth 100000 in
theorem s_X5_toNextOrder (l : Launch) (D : va_G) (t : pq_T) (σ : pq_S) (I : Nat → Nat → Int32) (J : Nat → Nat → Int64) (ri : Nat → Nat → Int32) (rj : Nat → Nat → Int64) (rq : Nat → Nat → Option Nat) (sz : Nat) (tg : Nat → Nat) (hSH : SH σ tg) (hG0 : GS tg σ I ri rq) (this : Nat) (a0 : Int32) (hL_this : this ∈ σ.1) (hK_this : σ.2.1 this = 5) (h_a0 : rg a0 0 5) : MetI l yX5_toNextOrder (wa yX5_toNextOrder cX5_toNextOrder 6 (some .boolean)) ({ frames := 1, cells := 0, slots := 0, locals := 23 }) [.ref this, .int a0] D t σ (I, J, ri, rj, rq) sz 0 0 (fun (r : Int32) (u : pq_S × pq_M) => ∃ ri' : Nat → Nat → Int32, u = (σ, I, J, ri', rj, rq) ∧ GX [] tg σ I I ri' rq ∧ ((r = 1 ∧ True) ∨ (r = 0 ∧ True))) := by
  refine Met.ofW (cc := cX5_toNextOrder) (maxL := 6) (ret := (some .boolean)) (by decide) rfl ?_
  intro p e s m args below meth c s₁ B hml hv
  obtain ⟨rfl, hsz, hP, hK, hD0, hN⟩ := hv
  have hx := B.exec
  have hb := B.bytes
  have hr := B.returns
  have hts := atoms_spec (ws := (wa yX5_toNextOrder cX5_toNextOrder 6 (some .boolean))) B.pre
  have hown : s.vm.findClass RX5 = some m.cls := findClass_of_methodNamed B.named
  have hlocks := B.notSynchronized
  subst hsz
  have hD : va_D (pq_B t σ (I, J, ri, rj, rq) s.heap.size) (pq_P t σ (I, J, ri, rj, rq)) := hD0.self
  generalize hAe : pq_B t σ (I, J, ri, rj, rq) s.heap.size = A at hD ⊢
  have hA : ∀ q : Nat, s.heap.size ≤ q → A q := fun q h => by rw [← hAe]; exact Or.inr h
  have hS : va_S A s.heap s.heap [] := va_S.rf
  have hG : GX [] tg σ I I ri rq := ⟨hG0, fun _ _ _ => rfl⟩
  have hl := lv_entry ([.ref this, .int a0]) (n := 6) (Nat.le_of_ble_eq_true rfl)
  rw [lg_entry_eq]
  generalize (lg_sl ([.ref this, .int a0]) ++ List.replicate (6 - (lg_sl ([.ref this, .int a0])).length) Slot.unset).toArray = ls at hl ⊢
  have hl : lv_has ls 6 [(0, .ref this), (1, .int a0)] := hl
  refine q_gen (fun Q hQ => ?_)
  have go : ∀ (H : Heap) (locs : List Loc) (ls : Array Slot), va_P D vwCl (pq_P t σ (I, J, ri, rj, rq)) H → va_D A (pq_P t σ (I, J, ri, rj, rq)) → va_S A s.heap H locs → lv_has ls 6 [(0, .ref this), (1, .int a0)] → W p l e ({ frames := 1, cells := 0, slots := 0, locals := 23 } : Room) s m (List.toArray ([.ref this, .int a0] : List Value)) below meth c H locs 0 0 Q (F0 m 0 ls []) := by
    intro H locs ls hP hD hS hl
    refine lv_iload_n hx hb dX5_toNextOrder_0 rfl (lv_at hl 1 rfl) ?_
    refine lv_iconst (v := 2) hx hb dX5_toNextOrder_1 (by decide) ?_
    refine lv_isub hx hb dX5_toNextOrder_2 ?_
    refine lv_topi (fun x_1 ex_1 => ?_)
    have h_2 : rg x_1 (-2) 3 := rg_of_eq ex_1 (rg_sub h_a0 (rg_k (2 : Int32) 2 rfl) (by decide))
    have uh_2 := h_2.1
    have vh_2 := h_2.2
    have tx_1 : (x_1).toInt = (a0).toInt - 2 := by rw [ex_1]; exact i_sub_rg (a2 := (a0).toInt) (b2 := 2) rfl rfl h_a0 (rg_k (2 : Int32) 2 rfl) (by decide)
    refine lv_istore_n (lv' := [(2, .int x_1), (0, .ref this), (1, .int a0)]) hx hb dX5_toNextOrder_3 rfl hl (by decide) rfl (fun ls hl => ?_)
    have L_2545 : ∀ (n_ : Nat) (x_1909 : Int32) (H : Heap) (locs : List Loc) (ls : Array Slot), rg x_1909 (-2) 3 → ((x_1909).toInt + 2 ≤ (a0).toInt) → ((x_1909).toInt - (-2)).toNat < n_ → GX [] tg σ I I ri rq → va_P D vwCl (pq_P t σ (I, J, ri, rj, rq)) H → va_D A (pq_P t σ (I, J, ri, rj, rq)) → va_S A s.heap H locs → lv_has ls 6 [(0, .ref this), (1, .int a0), (2, .int x_1909)] → W p l e ({ frames := 1, cells := 0, slots := 0, locals := 23 } : Room) s m (List.toArray ([.ref this, .int a0] : List Value)) below meth c H locs 0 0 Q (F0 m 4 ls []) := by
      intro n_
      induction n_ with
      | zero => intro x_1909 H locs ls h_2549 hrel_2550 hm hG hP hD hS hl; exact absurd hm (Nat.not_lt_zero _)
      | succ n_ ih_2546 =>
        intro x_1909 H locs ls h_2549 hrel_2550 hm hG hP hD hS hl
        have uh_2549 := h_2549.1
        have vh_2549 := h_2549.2
        refine lv_iload_n hx hb dX5_toNextOrder_4 rfl (lv_at hl 2 rfl) ?_
        have K_3184 : ∀  (H : Heap) (locs : List Loc) (ls : Array Slot), GX [] tg σ I I ri rq → va_P D vwCl (pq_P t σ (I, J, ri, rj, rq)) H → va_D A (pq_P t σ (I, J, ri, rj, rq)) → va_S A s.heap H locs → lv_has ls 6 [(0, .ref this), (1, .int a0), (2, .int x_1909)] → W p l e ({ frames := 1, cells := 0, slots := 0, locals := 23 } : Room) s m (List.toArray ([.ref this, .int a0] : List Value)) below meth c H locs 0 0 Q (F0 m 31 ls []) := by
          intro H locs ls hG hP hD hS hl
          refine lv_iload_n hx hb dX5_toNextOrder_31 rfl (lv_at hl 2 rfl) ?_
          refine lv_if_ge (tgt := 37) hx hb dX5_toNextOrder_32 (by decide) (fun c_3185 => ?_) (fun c_3185 => ?_)
          · have tc_3186 : 0 ≤ (x_1909).toInt := Int32.le_iff_toInt_le.mp c_3185
            have h_3187 : rg x_1909 0 3 := rg_le2 c_3185 (rg_k (0 : Int32) 0 rfl) h_2549 (by decide)
            have uh_3187 := h_3187.1
            have vh_3187 := h_3187.2
            refine lv_iload_n hx hb dX5_toNextOrder_37 rfl (lv_at hl 1 rfl) ?_
            refine lv_iconst (v := 1) hx hb dX5_toNextOrder_38 (by decide) ?_
            refine lv_isub hx hb dX5_toNextOrder_39 ?_
            refine lv_topi (fun x_3188 ex_3188 => ?_)
            have h_3189 : rg x_3188 (-1) 4 := rg_of_eq ex_3188 (rg_sub h_a0 (rg_k (1 : Int32) 1 rfl) (by decide))
            have uh_3189 := h_3189.1
            have vh_3189 := h_3189.2
            have tx_3188 : (x_3188).toInt = (a0).toInt - 1 := by rw [ex_3188]; exact i_sub_rg (a2 := (a0).toInt) (b2 := 1) rfl rfl h_a0 (rg_k (1 : Int32) 1 rfl) (by decide)
            refine lv_istore_n (lv' := [(3, .int x_3188), (0, .ref this), (1, .int a0), (2, .int x_1909)]) hx hb dX5_toNextOrder_40 rfl hl (by decide) rfl (fun ls hl => ?_)
            have L_3676 : ∀ (n_ : Nat) (x_3554 : Int32) (H : Heap) (locs : List Loc) (ls : Array Slot), rg x_3554 (-1) 4 → ((x_3554).toInt - (-1)).toNat < n_ → GX [] tg σ I I ri rq → va_P D vwCl (pq_P t σ (I, J, ri, rj, rq)) H → va_D A (pq_P t σ (I, J, ri, rj, rq)) → va_S A s.heap H locs → lv_has ls 6 [(0, .ref this), (1, .int a0), (2, .int x_1909), (3, .int x_3554)] → W p l e ({ frames := 1, cells := 0, slots := 0, locals := 23 } : Room) s m (List.toArray ([.ref this, .int a0] : List Value)) below meth c H locs 0 0 Q (F0 m 41 ls []) := by
              intro n_
              induction n_ with
              | zero => intro x_3554 H locs ls h_3679 hm hG hP hD hS hl; exact absurd hm (Nat.not_lt_zero _)
              | succ n_ ih_3677 =>
                intro x_3554 H locs ls h_3679 hm hG hP hD hS hl
                have uh_3679 := h_3679.1
                have vh_3679 := h_3679.2
                refine lv_iload_n hx hb dX5_toNextOrder_41 rfl (lv_at hl 3 rfl) ?_
                refine lv_iload_n hx hb dX5_toNextOrder_42 rfl (lv_at hl 2 rfl) ?_
                have K_3800 : ∀  (H : Heap) (locs : List Loc) (ls : Array Slot), GX [] tg σ I I ri rq → va_P D vwCl (pq_P t σ (I, J, ri, rj, rq)) H → va_D A (pq_P t σ (I, J, ri, rj, rq)) → va_S A s.heap H locs → lv_has ls 6 [(0, .ref this), (1, .int a0), (2, .int x_1909), (3, .int x_3554)] → W p l e ({ frames := 1, cells := 0, slots := 0, locals := 23 } : Room) s m (List.toArray ([.ref this, .int a0] : List Value)) below meth c H locs 0 0 Q (F0 m 67 ls []) := by
                  intro H locs ls hG hP hD hS hl
                  refine lv_aload_n hx hb dX5_toNextOrder_67 rfl (lv_at hl 0 rfl) ?_
                  refine lv_iload_n hx hb dX5_toNextOrder_68 rfl (lv_at hl 2 rfl) ?_
                  refine lv_iload_n hx hb dX5_toNextOrder_69 rfl (lv_at hl 3 rfl) ?_
                  have h_3801 : rg x_3554 0 4 := ⟨by omega, by omega⟩
                  have uh_3801 := h_3801.1
                  have vh_3801 := h_3801.2
                  refine pk_v (va_runV (As := [.int x_1909, .int x_3554]) (rest := []) ⟨hx, hb, hml, hown, hts⟩ (s_X5_swap l D t σ I J ri rj rq H.size tg hSH hG.1 this x_1909 x_3554 hL_this hK_this (rg_w h_3187 (by decide)) (rg_w h_3801 (by decide))) (cwV 2 hts (tw_V tw_1479 tw_1480 tw_1481 tw_21 tw_1482) rfl rfl rfl (by decide +kernel) ⟨Nat.le_of_ble_eq_true rfl, Nat.le_of_ble_eq_true rfl⟩) ⟨pq_blind, pq_recv hK hP hL_this hK_this (by decide) rfl, pq_pre hK hN hP hD⟩ rfl rfl hl.1 rfl (lv_room (Nat.le_of_ble_eq_true rfl)) dX5_toNextOrder_70 ⟨Nat.le_of_ble_eq_true rfl, Nat.le_of_ble_eq_true rfl⟩) hD hS hA (fun σ1 μ1 H locs hw_3803 hP hD hS => ?_)
                  obtain ⟨ri_3804, hu_3805, hg_3806⟩ := hw_3803
                  obtain ⟨hu_3805a, hu_3805b⟩ := Prod.mk.inj hu_3805
                  rw [hu_3805a, hu_3805b] at hP hD
                  have hG := GX.tr hG hg_3806 (by decide)
                  refine lv_iload_n hx hb dX5_toNextOrder_73 rfl (lv_at hl 2 rfl) ?_
                  refine lv_iconst (v := 1) hx hb dX5_toNextOrder_74 (by decide) ?_
                  refine lv_iadd hx hb dX5_toNextOrder_75 ?_
                  refine lv_topi (fun x_3808 ex_3808 => ?_)
                  have h_3809 : rg x_3808 1 4 := rg_of_eq ex_3808 (rg_add h_3187 (rg_k (1 : Int32) 1 rfl) (by decide))
                  have uh_3809 := h_3809.1
                  have vh_3809 := h_3809.2
                  have tx_3808 : (x_3808).toInt = (x_1909).toInt + 1 := by rw [ex_3808]; exact i_add_rg (a2 := (x_1909).toInt) (b2 := 1) rfl rfl h_3187 (rg_k (1 : Int32) 1 rfl) (by decide)
                  refine lv_istore (lv' := [(4, .int x_3808), (0, .ref this), (1, .int a0), (2, .int x_1909), (3, .int x_3554)]) hx hb dX5_toNextOrder_76 hl (by decide) rfl (fun ls hl => ?_)
                  refine lv_iload_n hx hb dX5_toNextOrder_78 rfl (lv_at hl 2 rfl) ?_
                  refine lv_iconst (v := 1) hx hb dX5_toNextOrder_79 (by decide) ?_
                  refine lv_isub hx hb dX5_toNextOrder_80 ?_
                  refine lv_topi (fun x_3810 ex_3810 => ?_)
                  have h_3811 : rg x_3810 (-1) 4 := rg_of_eq ex_3810 (rg_sub h_a0 (rg_k (1 : Int32) 1 rfl) (by decide))
                  have uh_3811 := h_3811.1
                  have vh_3811 := h_3811.2
                  have tx_3810 : (x_3810).toInt = (a0).toInt - 1 := by rw [ex_3810]; exact i_sub_rg (a2 := (a0).toInt) (b2 := 1) rfl rfl h_a0 (rg_k (1 : Int32) 1 rfl) (by decide)
                  refine lv_istore (lv' := [(5, .int x_3810), (4, .int x_3808), (0, .ref this), (1, .int a0), (2, .int x_1909), (3, .int x_3554)]) hx hb dX5_toNextOrder_81 hl (by decide) rfl (fun ls hl => ?_)
                  have L_3887 : ∀ (n_ : Nat) (x_3867 : Int32) (x_3868 : Int32) (ri_3869 : Nat → Nat → Int32) (H : Heap) (locs : List Loc) (ls : Array Slot), rg x_3867 1 4 → rg x_3868 (-1) 4 → (4 - (x_3867).toInt).toNat < n_ → GX [] tg σ I I ri_3869 rq → va_P D vwCl (pq_P t σ (I, J, ri_3869, rj, rq)) H → va_D A (pq_P t σ (I, J, ri_3869, rj, rq)) → va_S A s.heap H locs → lv_has ls 6 [(0, .ref this), (4, .int x_3867), (5, .int x_3868)] → W p l e ({ frames := 1, cells := 0, slots := 0, locals := 23 } : Room) s m (List.toArray ([.ref this, .int a0] : List Value)) below meth c H locs 0 0 Q (F0 m 83 ls []) := by
                    intro n_
                    induction n_ with
                    | zero => intro x_3867 x_3868 ri_3869 H locs ls h_3891 h_3892 hm hG hP hD hS hl; exact absurd hm (Nat.not_lt_zero _)
                    | succ n_ ih_3888 =>
                      intro x_3867 x_3868 ri_3869 H locs ls h_3891 h_3892 hm hG hP hD hS hl
                      have uh_3891 := h_3891.1
                      have vh_3891 := h_3891.2
                      have uh_3892 := h_3892.1
                      have vh_3892 := h_3892.2
                      refine lv_iload hx hb dX5_toNextOrder_83 (lv_at hl 1 rfl) ?_
                      refine lv_iload hx hb dX5_toNextOrder_85 (lv_at hl 2 rfl) ?_
                      refine lv_icmp_ge (tgt := 107) hx hb dX5_toNextOrder_87 (by decide) (fun c_3893 => ?_) (fun c_3893 => ?_)
                      · have tc_3894 : (x_3868).toInt ≤ (x_3867).toInt := Int32.le_iff_toInt_le.mp c_3893
                        refine lv_iconst (v := 1) hx hb dX5_toNextOrder_107 (by decide) ?_
                        subst hQ
                        exact W.zret (v := 1) hx hb hr (by decide) (fun t1 ht hW => ⟨⟨1, (σ, I, J, ri_3869, rj, rq), rfl, ⟨ri_3869, rfl, hG, (Or.inl ⟨rfl, trivial⟩)⟩, by rw [ht]; exact hP, va_K.moved hW.alike hK, hD⟩, hS.F ht⟩) hS.2.2 dX5_toNextOrder_108
                      · have tc_3895 : (x_3867).toInt < (x_3868).toInt := Int32.lt_iff_toInt_lt.mp (nle c_3893)
                        have h_3896 : rg x_3867 1 3 := rg_lt1 (nle c_3893) h_3891 h_3892 (by decide)
                        have uh_3896 := h_3896.1
                        have vh_3896 := h_3896.2
                        have h_3897 : rg x_3868 2 4 := rg_lt2 (nle c_3893) h_3891 h_3892 (by decide)
                        have uh_3897 := h_3897.1
                        have vh_3897 := h_3897.2
                        refine lv_aload_n hx hb dX5_toNextOrder_90 rfl (lv_at hl 0 rfl) ?_
                        refine lv_iload hx hb dX5_toNextOrder_91 (lv_at hl 1 rfl) ?_
                        refine lv_iload hx hb dX5_toNextOrder_93 (lv_at hl 2 rfl) ?_
                        refine pk_v (va_runV (As := [.int x_3867, .int x_3868]) (rest := []) ⟨hx, hb, hml, hown, hts⟩ (s_X5_swap l D t σ I J ri_3869 rj rq H.size tg hSH hG.1 this x_3867 x_3868 hL_this hK_this (rg_w h_3896 (by decide)) (rg_w h_3897 (by decide))) (cwV 2 hts (tw_V tw_1479 tw_1480 tw_1481 tw_21 tw_1482) rfl rfl rfl (by decide +kernel) ⟨Nat.le_of_ble_eq_true rfl, Nat.le_of_ble_eq_true rfl⟩) ⟨pq_blind, pq_recv hK hP hL_this hK_this (by decide) rfl, pq_pre hK hN hP hD⟩ rfl rfl hl.1 rfl (lv_room (Nat.le_of_ble_eq_true rfl)) dX5_toNextOrder_95 ⟨Nat.le_of_ble_eq_true rfl, Nat.le_of_ble_eq_true rfl⟩) hD hS hA (fun σ1 μ1 H locs hw_3899 hP hD hS => ?_)
                        obtain ⟨ri_3900, hu_3901, hg_3902⟩ := hw_3899
                        obtain ⟨hu_3901a, hu_3901b⟩ := Prod.mk.inj hu_3901
                        rw [hu_3901a, hu_3901b] at hP hD
                        have hG := GX.tr hG hg_3902 (by decide)
                        obtain ⟨x_3904, ex_3904⟩ : ∃ y : Int32, y = x_3867 + Int32.ofInt 1 := ⟨_, rfl⟩
                        have h_3905 : rg x_3904 2 4 := rg_of_eq ex_3904 (rg_add h_3896 (rg_k (Int32.ofInt 1) 1 rfl) (by decide))
                        have uh_3905 := h_3905.1
                        have vh_3905 := h_3905.2
                        have tx_3904 : (x_3904).toInt = (x_3867).toInt + 1 := by rw [ex_3904]; exact i_add_rg (a2 := (x_3867).toInt) (b2 := 1) rfl rfl h_3896 (rg_k (Int32.ofInt 1) 1 rfl) (by decide)
                        refine lv_iinc (v := x_3904) (lv' := [(4, .int x_3904), (0, .ref this), (5, .int x_3868)]) hx hb dX5_toNextOrder_98 hl (k := 1) rfl ex_3904.symm (by decide) rfl (fun ls hl => ?_)
                        obtain ⟨x_3906, ex_3906⟩ : ∃ y : Int32, y = x_3868 + Int32.ofInt (-1) := ⟨_, rfl⟩
                        have h_3907 : rg x_3906 1 3 := rg_of_eq ex_3906 (rg_add h_3897 (rg_k (Int32.ofInt (-1)) (-1) rfl) (by decide))
                        have uh_3907 := h_3907.1
                        have vh_3907 := h_3907.2
                        have tx_3906 : (x_3906).toInt = (x_3868).toInt + (-1) := by rw [ex_3906]; exact i_add_rg (a2 := (x_3868).toInt) (b2 := (-1)) rfl rfl h_3897 (rg_k (Int32.ofInt (-1)) (-1) rfl) (by decide)
                        refine lv_iinc (v := x_3906) (lv' := [(5, .int x_3906), (4, .int x_3904), (0, .ref this)]) hx hb dX5_toNextOrder_101 hl (k := 2) rfl ex_3906.symm (by decide) rfl (fun ls hl => ?_)
                        refine lv_goto (tgt := 83) hx hb dX5_toNextOrder_104 (by decide) ?_
                        exact ih_3888 x_3904 x_3906 ri_3900 _ _ _ (rg_w h_3905 (by decide)) (rg_w h_3907 (by decide)) (ms_up 1 hm ex_3904 rfl (by decide) h_3896 (by decide) (by decide)) hG hP hD hS (lv_sub hl [2, 1, 0] rfl)
                  exact L_3887 _ x_3808 x_3810 ri_3804 _ _ _ (rg_w h_3809 (by decide)) (rg_w h_3811 (by decide)) (Nat.lt_succ_self _) hG hP hD hS (lv_sub hl [2, 1, 0] rfl)
                refine lv_icmp_le (tgt := 67) hx hb dX5_toNextOrder_43 (by decide) (fun c_3908 => ?_) (fun c_3908 => ?_)
                · have tc_3909 : (x_3554).toInt ≤ (x_1909).toInt := Int32.le_iff_toInt_le.mp c_3908
                  have h_3910 : rg x_3554 (-1) 3 := rg_le1 c_3908 h_3679 h_3187 (by decide)
                  have uh_3910 := h_3910.1
                  have vh_3910 := h_3910.2
                  exact K_3800 _ _ _ hG hP hD hS (lv_sub hl [0, 1, 2, 3] rfl)
                · have tc_3911 : (x_1909).toInt < (x_3554).toInt := Int32.lt_iff_toInt_lt.mp (nle c_3908)
                  have h_3912 : rg x_3554 1 4 := rg_lt2 (nle c_3908) h_3187 h_3679 (by decide)
                  have uh_3912 := h_3912.1
                  have vh_3912 := h_3912.2
                  refine lv_aload_n hx hb dX5_toNextOrder_46 rfl (lv_at hl 0 rfl) ?_
                  obtain ⟨w_3913, hR_w_3913, hL_w_3913, hK_w_3913, hN_w_3913, hT_w_3913⟩ := sh_a hSH 162 (ci := 5) (kd := 13) (len := 5) rfl (by decide) hL_this hK_this
                  refine pg_f (v := .ref w_3913) (C := RX5) (T := TX5) (N := 8) hx hb hts (tw_i inlX5) hown hK hP hL_this hK_this (by decide) rfl 2 (by decide) (hts _ (tw_c tw_143)) (pq_hv rfl hR_w_3913) dX5_toNextOrder_47 ?_
                  refine lv_iload_n hx hb dX5_toNextOrder_50 rfl (lv_at hl 3 rfl) ?_
                  refine pl_i hx hb hK hP hL_w_3913 hK_w_3913 hN_w_3913 (rg_in h_3912 (by decide)) dX5_toNextOrder_51 ?_
                  refine lv_topi (fun x_3914 ex_3914 => ?_)
                  have h_3915 : rg x_3914 0 4 := rg_of_eq ex_3914 (GX.rR hG hT_w_3913 rfl)
                  have uh_3915 := h_3915.1
                  have vh_3915 := h_3915.2
                  refine lv_aload_n hx hb dX5_toNextOrder_52 rfl (lv_at hl 0 rfl) ?_
                  refine pg_f (v := .ref w_3913) (C := RX5) (T := TX5) (N := 8) hx hb hts (tw_i inlX5) hown hK hP hL_this hK_this (by decide) rfl 2 (by decide) (hts _ (tw_c tw_143)) (pq_hv rfl hR_w_3913) dX5_toNextOrder_53 ?_
                  refine lv_iload_n hx hb dX5_toNextOrder_56 rfl (lv_at hl 2 rfl) ?_
                  refine pl_i hx hb hK hP hL_w_3913 hK_w_3913 hN_w_3913 (rg_in h_3187 (by decide)) dX5_toNextOrder_57 ?_
                  refine lv_topi (fun x_3916 ex_3916 => ?_)
                  have h_3917 : rg x_3916 0 4 := rg_of_eq ex_3916 (GX.rR hG hT_w_3913 rfl)
                  have uh_3917 := h_3917.1
                  have vh_3917 := h_3917.2
                  refine lv_icmp_ge (tgt := 67) hx hb dX5_toNextOrder_58 (by decide) (fun c_3918 => ?_) (fun c_3918 => ?_)
                  · have tc_3919 : (x_3916).toInt ≤ (x_3914).toInt := Int32.le_iff_toInt_le.mp c_3918
                    exact K_3800 _ _ _ hG hP hD hS (lv_sub hl [0, 1, 2, 3] rfl)
                  · have tc_3920 : (x_3914).toInt < (x_3916).toInt := Int32.lt_iff_toInt_lt.mp (nle c_3918)
                    have h_3921 : rg x_3914 0 3 := rg_lt1 (nle c_3918) h_3915 h_3917 (by decide)
                    have uh_3921 := h_3921.1
                    have vh_3921 := h_3921.2
                    have h_3922 : rg x_3916 1 4 := rg_lt2 (nle c_3918) h_3915 h_3917 (by decide)
                    have uh_3922 := h_3922.1
                    have vh_3922 := h_3922.2
                    obtain ⟨x_3923, ex_3923⟩ : ∃ y : Int32, y = x_3554 + Int32.ofInt (-1) := ⟨_, rfl⟩
                    have h_3924 : rg x_3923 0 3 := rg_of_eq ex_3923 (rg_add h_3912 (rg_k (Int32.ofInt (-1)) (-1) rfl) (by decide))
                    have uh_3924 := h_3924.1
                    have vh_3924 := h_3924.2
                    have tx_3923 : (x_3923).toInt = (x_3554).toInt + (-1) := by rw [ex_3923]; exact i_add_rg (a2 := (x_3554).toInt) (b2 := (-1)) rfl rfl h_3912 (rg_k (Int32.ofInt (-1)) (-1) rfl) (by decide)
                    refine lv_iinc (v := x_3923) (lv' := [(3, .int x_3923), (0, .ref this), (1, .int a0), (2, .int x_1909)]) hx hb dX5_toNextOrder_61 hl (k := 3) rfl ex_3923.symm (by decide) rfl (fun ls hl => ?_)
                    refine lv_goto (tgt := 41) hx hb dX5_toNextOrder_64 (by decide) ?_
                    exact ih_3677 x_3923 _ _ _ (rg_w h_3924 (by decide)) (ms_dn 1 hm ex_3923 rfl (by decide) h_3912 (by decide) (by decide)) hG hP hD hS (lv_sub hl [1, 2, 3, 0] rfl)
            exact L_3676 _ x_3188 _ _ _ (rg_w h_3189 (by decide)) (Nat.lt_succ_self _) hG hP hD hS (lv_sub hl [1, 2, 3, 0] rfl)
          · have tc_3925 : (x_1909).toInt < 0 := Int32.lt_iff_toInt_lt.mp (nle c_3185)
            have h_3926 : rg x_1909 (-2) (-1) := rg_lt1 (nle c_3185) h_2549 (rg_k (0 : Int32) 0 rfl) (by decide)
            have uh_3926 := h_3926.1
            have vh_3926 := h_3926.2
            refine lv_iconst (v := 0) hx hb dX5_toNextOrder_35 (by decide) ?_
            subst hQ
            exact W.zret (v := 0) hx hb hr (by decide) (fun t1 ht hW => ⟨⟨0, (σ, I, J, ri, rj, rq), rfl, ⟨ri, rfl, hG, (Or.inr ⟨rfl, trivial⟩)⟩, by rw [ht]; exact hP, va_K.moved hW.alike hK, hD⟩, hS.F ht⟩) hS.2.2 dX5_toNextOrder_36
        refine lv_if_lt (tgt := 31) hx hb dX5_toNextOrder_5 (by decide) (fun c_3927 => ?_) (fun c_3927 => ?_)
        · have tc_3928 : (x_1909).toInt < 0 := Int32.lt_iff_toInt_lt.mp c_3927
          have h_3929 : rg x_1909 (-2) (-1) := rg_lt1 c_3927 h_2549 (rg_k (0 : Int32) 0 rfl) (by decide)
          have uh_3929 := h_3929.1
          have vh_3929 := h_3929.2
          exact K_3184 _ _ _ hG hP hD hS (lv_sub hl [0, 1, 2] rfl)
        · have tc_3930 : 0 ≤ (x_1909).toInt := Int32.le_iff_toInt_le.mp (nlt c_3927)
          have h_3931 : rg x_1909 0 3 := rg_le2 (nlt c_3927) (rg_k (0 : Int32) 0 rfl) h_2549 (by decide)
          have uh_3931 := h_3931.1
          have vh_3931 := h_3931.2
          refine lv_aload_n hx hb dX5_toNextOrder_8 rfl (lv_at hl 0 rfl) ?_
          obtain ⟨w_3932, hR_w_3932, hL_w_3932, hK_w_3932, hN_w_3932, hT_w_3932⟩ := sh_a hSH 162 (ci := 5) (kd := 13) (len := 5) rfl (by decide) hL_this hK_this
          refine pg_f (v := .ref w_3932) (C := RX5) (T := TX5) (N := 8) hx hb hts (tw_i inlX5) hown hK hP hL_this hK_this (by decide) rfl 2 (by decide) (hts _ (tw_c tw_143)) (pq_hv rfl hR_w_3932) dX5_toNextOrder_9 ?_
          refine lv_iload_n hx hb dX5_toNextOrder_12 rfl (lv_at hl 2 rfl) ?_
          refine pl_i hx hb hK hP hL_w_3932 hK_w_3932 hN_w_3932 (rg_in h_3931 (by decide)) dX5_toNextOrder_13 ?_
          refine lv_topi (fun x_3933 ex_3933 => ?_)
          have h_3934 : rg x_3933 0 4 := rg_of_eq ex_3933 (GX.rR hG hT_w_3932 rfl)
          have uh_3934 := h_3934.1
          have vh_3934 := h_3934.2
          refine lv_aload_n hx hb dX5_toNextOrder_14 rfl (lv_at hl 0 rfl) ?_
          refine pg_f (v := .ref w_3932) (C := RX5) (T := TX5) (N := 8) hx hb hts (tw_i inlX5) hown hK hP hL_this hK_this (by decide) rfl 2 (by decide) (hts _ (tw_c tw_143)) (pq_hv rfl hR_w_3932) dX5_toNextOrder_15 ?_
          refine lv_iload_n hx hb dX5_toNextOrder_18 rfl (lv_at hl 2 rfl) ?_
          refine lv_iconst (v := 1) hx hb dX5_toNextOrder_19 (by decide) ?_
          refine lv_iadd hx hb dX5_toNextOrder_20 ?_
          refine lv_topi (fun x_3935 ex_3935 => ?_)
          have h_3936 : rg x_3935 1 4 := rg_of_eq ex_3935 (rg_add h_3931 (rg_k (1 : Int32) 1 rfl) (by decide))
          have uh_3936 := h_3936.1
          have vh_3936 := h_3936.2
          have tx_3935 : (x_3935).toInt = (x_1909).toInt + 1 := by rw [ex_3935]; exact i_add_rg (a2 := (x_1909).toInt) (b2 := 1) rfl rfl h_3931 (rg_k (1 : Int32) 1 rfl) (by decide)
          refine pl_i hx hb hK hP hL_w_3932 hK_w_3932 hN_w_3932 (rg_in h_3936 (by decide)) dX5_toNextOrder_21 ?_
          refine lv_topi (fun x_3937 ex_3937 => ?_)
          have h_3938 : rg x_3937 0 4 := rg_of_eq ex_3937 (GX.rR hG hT_w_3932 rfl)
          have uh_3938 := h_3938.1
          have vh_3938 := h_3938.2
          refine lv_icmp_le (tgt := 31) hx hb dX5_toNextOrder_22 (by decide) (fun c_3939 => ?_) (fun c_3939 => ?_)
          · have tc_3940 : (x_3933).toInt ≤ (x_3937).toInt := Int32.le_iff_toInt_le.mp c_3939
            exact K_3184 _ _ _ hG hP hD hS (lv_sub hl [0, 1, 2] rfl)
          · have tc_3941 : (x_3937).toInt < (x_3933).toInt := Int32.lt_iff_toInt_lt.mp (nle c_3939)
            have h_3942 : rg x_3937 0 3 := rg_lt1 (nle c_3939) h_3938 h_3934 (by decide)
            have uh_3942 := h_3942.1
            have vh_3942 := h_3942.2
            have h_3943 : rg x_3933 1 4 := rg_lt2 (nle c_3939) h_3938 h_3934 (by decide)
            have uh_3943 := h_3943.1
            have vh_3943 := h_3943.2
            obtain ⟨x_3944, ex_3944⟩ : ∃ y : Int32, y = x_1909 + Int32.ofInt (-1) := ⟨_, rfl⟩
            have h_3945 : rg x_3944 (-1) 2 := rg_of_eq ex_3944 (rg_add h_3931 (rg_k (Int32.ofInt (-1)) (-1) rfl) (by decide))
            have uh_3945 := h_3945.1
            have vh_3945 := h_3945.2
            have tx_3944 : (x_3944).toInt = (x_1909).toInt + (-1) := by rw [ex_3944]; exact i_add_rg (a2 := (x_1909).toInt) (b2 := (-1)) rfl rfl h_3931 (rg_k (Int32.ofInt (-1)) (-1) rfl) (by decide)
            refine lv_iinc (v := x_3944) (lv' := [(2, .int x_3944), (0, .ref this), (1, .int a0)]) hx hb dX5_toNextOrder_25 hl (k := 2) rfl ex_3944.symm (by decide) rfl (fun ls hl => ?_)
            refine lv_goto (tgt := 4) hx hb dX5_toNextOrder_28 (by decide) ?_
            exact ih_2546 x_3944 _ _ _ (rg_w h_3945 (by decide)) (by omega) (ms_dn 1 hm ex_3944 rfl (by decide) h_3931 (by decide) (by decide)) hG hP hD hS (lv_sub hl [1, 2, 0] rfl)
    exact L_2545 _ x_1 _ _ _ (rg_w h_2 (by decide)) (by omega) (Nat.lt_succ_self _) hG hP hD hS (lv_sub hl [1, 2, 0] rfl)
  exact go _ _ _ hP hD hS hl

set_option maxHeartbeats 4000000 in
set_option maxRecDepth 100000 in
theorem s_X5_seek (l : Launch) (D : va_G) (t : pq_T) (σ : pq_S) (I : Nat → Nat → Int32) (J : Nat → Nat → Int64) (ri : Nat → Nat → Int32) (rj : Nat → Nat → Int64) (rq : Nat → Nat → Option Nat) (sz : Nat) (tg : Nat → Nat) (hSH : SH σ tg) (hG0 : GS tg σ I ri rq) (this : Nat) (a0 : Nat) (a1 : Nat) (a2 : Int32) (a3 : Int32) (hL_this : this ∈ σ.1) (hK_this : σ.2.1 this = 5) (hL_a0 : a0 ∈ σ.1) (hK_a0 : σ.2.1 a0 = 10) (hL_a1 : a1 ∈ σ.1) (hK_a1 : σ.2.1 a1 = 10) (h_a3 : rg a3 1 12) (hclk : (I 320 a1).toInt + a3.toInt ≤ 600) : MetV l yX5_seek (wa yX5_seek cX5_seek 9 none) ({ frames := 6, cells := 0, slots := 0, locals := 169 }) [.ref this, .ref a0, .ref a1, .int a2, .int a3] D t σ (I, J, ri, rj, rq) sz 0 0 (fun (u : pq_S × pq_M) => ∃ I' : Nat → Nat → Int32, ∃ J' : Nat → Nat → Int64, ∃ ri' : Nat → Nat → Int32, ∃ rj' : Nat → Nat → Int64, u = (σ, I', J', ri', rj', rq) ∧ GX [320] tg σ I I' ri' rq) := by
  refine Met.ofW (cc := cX5_seek) (maxL := 9) (ret := none) (by decide) rfl ?_
  intro p e s m args below meth c s₁ B hml hv
  obtain ⟨rfl, hsz, hP, hK, hD0, hN⟩ := hv
  have hx := B.exec
  have hb := B.bytes
  have hr := B.returns
  have hts := atoms_spec (ws := (wa yX5_seek cX5_seek 9 none)) B.pre
  have hown : s.vm.findClass RX5 = some m.cls := findClass_of_methodNamed B.named
  have hlocks := B.notSynchronized
  subst hsz
  have hD : va_D (pq_B t σ (I, J, ri, rj, rq) s.heap.size) (pq_P t σ (I, J, ri, rj, rq)) := hD0.self
  generalize hAe : pq_B t σ (I, J, ri, rj, rq) s.heap.size = A at hD ⊢
  have hA : ∀ q : Nat, s.heap.size ≤ q → A q := fun q h => by rw [← hAe]; exact Or.inr h
  have hS : va_S A s.heap s.heap [] := va_S.rf
  have hG : GX [320] tg σ I I ri rq := ⟨hG0, fun _ _ _ => rfl⟩
  have hl := lv_entry ([.ref this, .ref a0, .ref a1, .int a2, .int a3]) (n := 9) (Nat.le_of_ble_eq_true rfl)
  rw [lg_entry_eq]
  generalize (lg_sl ([.ref this, .ref a0, .ref a1, .int a2, .int a3]) ++ List.replicate (9 - (lg_sl ([.ref this, .ref a0, .ref a1, .int a2, .int a3])).length) Slot.unset).toArray = ls at hl ⊢
  have hl : lv_has ls 9 [(0, .ref this), (1, .ref a0), (2, .ref a1), (3, .int a2), (4, .int a3)] := hl
  refine q_gen (fun Q hQ => ?_)
  have go : ∀ (H : Heap) (locs : List Loc) (ls : Array Slot), va_P D vwCl (pq_P t σ (I, J, ri, rj, rq)) H → va_D A (pq_P t σ (I, J, ri, rj, rq)) → va_S A s.heap H locs → lv_has ls 9 [(0, .ref this), (1, .ref a0), (2, .ref a1), (3, .int a2), (4, .int a3)] → W p l e ({ frames := 6, cells := 0, slots := 0, locals := 169 } : Room) s m (List.toArray ([.ref this, .ref a0, .ref a1, .int a2, .int a3] : List Value)) below meth c H locs 0 0 Q (F0 m 0 ls []) := by
    intro H locs ls hP hD hS hl
    refine lv_aload_n hx hb dX5_seek_0 rfl (lv_at hl 1 rfl) ?_
    obtain ⟨w_1, hR_w_1, hL_w_1, hK_w_1⟩ := sh_o hSH 327 (ci := 10) (kd := 2) rfl hL_a0 hK_a0
    refine pg_f (v := .ref w_1) (C := RX10) (T := TX10) (N := 13) hx hb hts (tw_i inlX10) hown hK hP hL_a0 hK_a0 (by decide) rfl 7 (by decide) (hts _ (tw_c tw_1438)) (pq_hv rfl hR_w_1) dX5_seek_1 ?_
    refine pg_f (v := .int (I 64 w_1)) (C := RX2) (T := TX2) (N := 20) hx hb hts (tw_i inlX2) hown hK hP hL_w_1 hK_w_1 (by decide) rfl 0 (by decide) (hts _ (tw_c tw_1439)) rfl dX5_seek_4 ?_
    have h_2 : rg (I 64 w_1) 0 5 := GX.rI hG 64 rfl
    have uh_2 := h_2.1
    have vh_2 := h_2.2
    refine lv_istore (lv' := [(5, .int (I 64 w_1)), (0, .ref this), (1, .ref a0), (2, .ref a1), (3, .int a2), (4, .int a3)]) hx hb dX5_seek_7 hl (by decide) rfl (fun ls hl => ?_)
    refine lv_aload_n hx hb dX5_seek_9 rfl (lv_at hl 1 rfl) ?_
    refine lv_aload_n hx hb dX5_seek_10 rfl (lv_at hl 3 rfl) ?_
    refine lv_iload_n hx hb dX5_seek_11 rfl (lv_at hl 4 rfl) ?_
    refine lv_iload hx hb dX5_seek_12 (lv_at hl 5 rfl) ?_
    refine lv_bipush (v := 12) hx hb dX5_seek_14 (by decide) ?_
    refine va_mmin hx hb (hml.trans hl.1.symm) hown (hts _ (tw_c tw_1440)) (hts _ (tw_c tw_467)) (hts _ (tw_c tw_276)) (hts _ (tw_c tw_468)) (Nat.le_of_ble_eq_true rfl) (Nat.le_of_ble_eq_true rfl) (Nat.zero_le _) (Nat.zero_le _) dX5_seek_16 ?_
    refine lv_topi (fun x_3 ex_3 => ?_)
    have h_4 : rg x_3 1 12 := rg_of_eq ex_3 (rg_min2 h_a3 (rg_k (12 : Int32) 12 rfl) (by decide))
    have uh_4 := h_4.1
    have vh_4 := h_4.2
    have tx_3 : (x_3).toInt ≤ (a3).toInt ∧ (x_3).toInt ≤ 12 := by rw [ex_3]; exact min_le _ _
    refine pk_v (va_runV (As := [.ref a1, .int a2, .int x_3]) (rest := []) ⟨hx, hb, hml, hown, hts⟩ (s_X5_foresee l D t σ I J ri rj rq H.size tg hSH hG.1 this a1 a2 x_3 hL_this hK_this hL_a1 hK_a1 (rg_w h_4 (by decide)) (by omega)) (cwV 3 hts (tw_V tw_1442 tw_1443 tw_1444 tw_21 tw_1445) rfl rfl rfl (by decide +kernel) ⟨Nat.le_of_ble_eq_true rfl, Nat.le_of_ble_eq_true rfl⟩) ⟨pq_blind, pq_recv hK hP hL_this hK_this (by decide) rfl, pq_pre hK hN hP hD⟩ rfl rfl hl.1 rfl (lv_room (Nat.le_of_ble_eq_true rfl)) dX5_seek_19 ⟨Nat.le_of_ble_eq_true rfl, Nat.le_of_ble_eq_true rfl⟩) hD hS hA (fun σ1 μ1 H locs hw_6 hP hD hS => ?_)
    obtain ⟨I_7, J_8, ri_9, rj_10, hu_11, hg_12⟩ := hw_6
    obtain ⟨hu_11a, hu_11b⟩ := Prod.mk.inj hu_11
    rw [hu_11a, hu_11b] at hP hD
    have hG := GX.tr hG hg_12 (by decide)
    refine lv_iconst (v := 0) hx hb dX5_seek_22 (by decide) ?_
    refine lv_istore (lv' := [(6, .int 0), (5, .int (I 64 w_1)), (0, .ref this), (1, .ref a0), (2, .ref a1), (3, .int a2), (4, .int a3)]) hx hb dX5_seek_23 hl (by decide) rfl (fun ls hl => ?_)
    have L_6278 : ∀ (n_ : Nat) (x_5393 : Int32) (ri_5394 : Nat → Nat → Int32) (H : Heap) (locs : List Loc) (ls : Array Slot), rg x_5393 0 5 → (5 - (x_5393).toInt).toNat < n_ → GX [320] tg σ I I_7 ri_5394 rq → va_P D vwCl (pq_P t σ (I_7, J_8, ri_5394, rj_10, rq)) H → va_D A (pq_P t σ (I_7, J_8, ri_5394, rj_10, rq)) → va_S A s.heap H locs → lv_has ls 9 [(0, .ref this), (1, .ref a0), (2, .ref a1), (4, .int a3), (5, .int (I 64 w_1)), (6, .int x_5393)] → W p l e ({ frames := 6, cells := 0, slots := 0, locals := 169 } : Room) s m (List.toArray ([.ref this, .ref a0, .ref a1, .int a2, .int a3] : List Value)) below meth c H locs 0 0 Q (F0 m 25 ls []) := by
      intro n_
      induction n_ with
      | zero => intro x_5393 ri_5394 H locs ls h_6281 hm hG hP hD hS hl; exact absurd hm (Nat.not_lt_zero _)
      | succ n_ ih_6279 =>
        intro x_5393 ri_5394 H locs ls h_6281 hm hG hP hD hS hl
        have uh_6281 := h_6281.1
        have vh_6281 := h_6281.2
        refine lv_iload hx hb dX5_seek_25 (lv_at hl 5 rfl) ?_
        refine lv_iload hx hb dX5_seek_27 (lv_at hl 4 rfl) ?_
        refine lv_icmp_ge (tgt := 47) hx hb dX5_seek_29 (by decide) (fun c_6282 => ?_) (fun c_6282 => ?_)
        · have tc_6283 : (I 64 w_1).toInt ≤ (x_5393).toInt := Int32.le_iff_toInt_le.mp c_6282
          refine lv_aload_n hx hb dX5_seek_47 rfl (lv_at hl 0 rfl) ?_
          refine lv_sipush (v := 961) hx hb dX5_seek_48 (by decide) ?_
          refine pp_i (v := 961) (ty := .int) (C := RX5) (T := TX5) (N := 8) hx hb hts (tw_i inlX5) tyX5 tyX5_ok nmX5 hown hK hP hD hS hL_this hK_this (by decide) rfl 0 160 (by decide) (hts _ (tw_c tw_1441)) rfl (by decide +kernel) rfl rfl (Nat.le_of_ble_eq_true rfl) (ps_160 _ _ _ _ _) dX5_seek_51 (fun I_6284 H locs eI_6284 hP hD hS => ?_)
          have hG := GX.wI hG 160 rfl eI_6284 (rg_w (rg_k (961 : Int32) 961 rfl) (by decide)) (by decide)
          refine lv_iconst (v := 1) hx hb dX5_seek_54 (by decide) ?_
          refine lv_istore (lv' := [(6, .int 1), (0, .ref this), (1, .ref a0), (2, .ref a1), (4, .int a3), (5, .int (I 64 w_1))]) hx hb dX5_seek_55 hl (by decide) rfl (fun ls hl => ?_)
          refine lv_iconst (v := 0) hx hb dX5_seek_57 (by decide) ?_
          refine lv_istore (lv' := [(7, .int 0), (6, .int 1), (0, .ref this), (1, .ref a0), (2, .ref a1), (4, .int a3), (5, .int (I 64 w_1))]) hx hb dX5_seek_58 hl (by decide) rfl (fun ls hl => ?_)
          have L_7110 : ∀ (n_ : Nat) (x_7059 : Int32) (x_7060 : Int32) (I_7061 : Nat → Nat → Int32) (ri_7062 : Nat → Nat → Int32) (H : Heap) (locs : List Loc) (ls : Array Slot), rg x_7059 0 1 → rg x_7060 0 120 → (120 - (x_7060).toInt).toNat < n_ → GX [320] tg σ I I_7061 ri_7062 rq → va_P D vwCl (pq_P t σ (I_7061, J_8, ri_7062, rj_10, rq)) H → va_D A (pq_P t σ (I_7061, J_8, ri_7062, rj_10, rq)) → va_S A s.heap H locs → lv_has ls 9 [(0, .ref this), (1, .ref a0), (2, .ref a1), (4, .int a3), (5, .int (I 64 w_1)), (6, .int x_7059), (7, .int x_7060)] → W p l e ({ frames := 6, cells := 0, slots := 0, locals := 169 } : Room) s m (List.toArray ([.ref this, .ref a0, .ref a1, .int a2, .int a3] : List Value)) below meth c H locs 0 0 Q (F0 m 60 ls []) := by
            intro n_
            induction n_ with
            | zero => intro x_7059 x_7060 I_7061 ri_7062 H locs ls h_7114 h_7115 hm hG hP hD hS hl; exact absurd hm (Nat.not_lt_zero _)
            | succ n_ ih_7111 =>
              intro x_7059 x_7060 I_7061 ri_7062 H locs ls h_7114 h_7115 hm hG hP hD hS hl
              have uh_7114 := h_7114.1
              have vh_7114 := h_7114.2
              have uh_7115 := h_7115.1
              have vh_7115 := h_7115.2
              refine lv_iload hx hb dX5_seek_60 (lv_at hl 6 rfl) ?_
              refine lv_bipush (v := 120) hx hb dX5_seek_62 (by decide) ?_
              refine lv_icmp_ge (tgt := 127) hx hb dX5_seek_64 (by decide) (fun c_7116 => ?_) (fun c_7116 => ?_)
              · have tc_7117 : 120 ≤ (x_7060).toInt := Int32.le_iff_toInt_le.mp c_7116
                have h_7118 : rg x_7060 120 120 := rg_le2 c_7116 (rg_k (120 : Int32) 120 rfl) h_7115 (by decide)
                have uh_7118 := h_7118.1
                have vh_7118 := h_7118.2
                subst hQ
                exact W.vret hx hb hr (fun t1 ht hW => ⟨⟨(σ, I_7061, J_8, ri_7062, rj_10, rq), rfl, ⟨I_7061, J_8, ri_7062, rj_10, rfl, hG⟩, by rw [ht]; exact hP, va_K.moved hW.alike hK, hD⟩, hS.F ht⟩) hS.2.2 dX5_seek_127
              · have tc_7119 : (x_7060).toInt < 120 := Int32.lt_iff_toInt_lt.mp (nle c_7116)
                have h_7120 : rg x_7060 0 119 := rg_lt1 (nle c_7116) h_7115 (rg_k (120 : Int32) 120 rfl) (by decide)
                have uh_7120 := h_7120.1
                have vh_7120 := h_7120.2
                refine lv_iload hx hb dX5_seek_67 (lv_at hl 5 rfl) ?_
                refine lv_if_eq (tgt := 127) hx hb dX5_seek_69 (by decide) (fun c_7121 => ?_) (fun c_7121 => ?_)
                · have tc_7122 : (x_7059).toInt = 0 := congrArg Int32.toInt c_7121
                  have h_7123 : rg x_7059 0 0 := rg_and h_7114 (rg_of_eq c_7121 (rg_k (0 : Int32) 0 rfl)) (by decide)
                  have uh_7123 := h_7123.1
                  have vh_7123 := h_7123.2
                  subst hQ
                  exact W.vret hx hb hr (fun t1 ht hW => ⟨⟨(σ, I_7061, J_8, ri_7062, rj_10, rq), rfl, ⟨I_7061, J_8, ri_7062, rj_10, rfl, hG⟩, by rw [ht]; exact hP, va_K.moved hW.alike hK, hD⟩, hS.F ht⟩) hS.2.2 dX5_seek_127
                · have tc_7124 : (x_7059).toInt ≠ 0 := fun q => c_7121 (Int32.toInt_inj.mp q)
                  have h_7125 : rg x_7059 1 1 := rg_ne c_7121 h_7114 0 rfl (by decide)
                  have uh_7125 := h_7125.1
                  have vh_7125 := h_7125.2
                  refine lv_aload_n hx hb dX5_seek_72 rfl (lv_at hl 0 rfl) ?_
                  refine lv_aload_n hx hb dX5_seek_73 rfl (lv_at hl 1 rfl) ?_
                  refine lv_aload_n hx hb dX5_seek_74 rfl (lv_at hl 2 rfl) ?_
                  refine lv_iload hx hb dX5_seek_75 (lv_at hl 3 rfl) ?_
                  refine lv_bipush (v := 12) hx hb dX5_seek_77 (by decide) ?_
                  refine va_mmin hx hb (hml.trans hl.1.symm) hown (hts _ (tw_c tw_1440)) (hts _ (tw_c tw_467)) (hts _ (tw_c tw_276)) (hts _ (tw_c tw_468)) (Nat.le_of_ble_eq_true rfl) (Nat.le_of_ble_eq_true rfl) (Nat.zero_le _) (Nat.zero_le _) dX5_seek_79 ?_
                  refine lv_topi (fun x_7126 ex_7126 => ?_)
                  have h_7127 : rg x_7126 1 12 := rg_of_eq ex_7126 (rg_min2 h_a3 (rg_k (12 : Int32) 12 rfl) (by decide))
                  have uh_7127 := h_7127.1
                  have vh_7127 := h_7127.2
                  have tx_7126 : (x_7126).toInt ≤ (a3).toInt ∧ (x_7126).toInt ≤ 12 := by rw [ex_7126]; exact min_le _ _
                  refine pk_i (va_runV (As := [.ref a0, .ref a1, .int x_7126]) (rest := []) ⟨hx, hb, hml, hown, hts⟩ (s_X5_lacksOf l D t σ I_7061 J_8 ri_7062 rj_10 rq H.size tg hSH hG.1 this a0 a1 x_7126 hL_this hK_this hL_a0 hK_a0 hL_a1 hK_a1 (rg_w h_7127 (by decide))) (cwV 3 hts (tw_V tw_1454 tw_1455 tw_1456 tw_21 tw_1457) rfl rfl rfl (by decide +kernel) ⟨Nat.le_of_ble_eq_true rfl, Nat.le_of_ble_eq_true rfl⟩) ⟨pq_blind, pq_recv hK hP hL_this hK_this (by decide) rfl, pq_pre hK hN hP hD⟩ rfl rfl hl.1 rfl (lv_room (Nat.le_of_ble_eq_true rfl)) dX5_seek_82 ⟨Nat.le_of_ble_eq_true rfl, Nat.le_of_ble_eq_true rfl⟩) hD hS hA (fun x_7128 σ1 μ1 H locs hw_7129 hP hD hS => ?_)
                  obtain ⟨I_7130, ri_7131, hu_7132, hg_7133⟩ := hw_7129
                  obtain ⟨hu_7132a, hu_7132b⟩ := Prod.mk.inj hu_7132
                  rw [hu_7132a, hu_7132b] at hP hD
                  have hG := GX.tr hG hg_7133 (by decide)
                  refine lv_istore (lv' := [(8, .int x_7128), (0, .ref this), (1, .ref a0), (2, .ref a1), (4, .int a3), (5, .int (I 64 w_1)), (6, .int x_7059), (7, .int x_7060)]) hx hb dX5_seek_85 hl (by decide) rfl (fun ls hl => ?_)
                  refine lv_iload hx hb dX5_seek_87 (lv_at hl 0 rfl) ?_
                  refine lv_aload_n hx hb dX5_seek_89 rfl (lv_at hl 1 rfl) ?_
                  refine pg_f (v := .int (I_7130 160 this)) (C := RX5) (T := TX5) (N := 8) hx hb hts (tw_i inlX5) hown hK hP hL_this hK_this (by decide) rfl 0 (by decide) (hts _ (tw_c tw_1441)) rfl dX5_seek_90 ?_
                  have K_7161 : ∀  (I_7150 : Nat → Nat → Int32) (ri_7151 : Nat → Nat → Int32) (H : Heap) (locs : List Loc) (ls : Array Slot), GX [320] tg σ I I_7150 ri_7151 rq → va_P D vwCl (pq_P t σ (I_7150, J_8, ri_7151, rj_10, rq)) H → va_D A (pq_P t σ (I_7150, J_8, ri_7151, rj_10, rq)) → va_S A s.heap H locs → lv_has ls 9 [(0, .ref this), (1, .ref a0), (2, .ref a1), (4, .int a3), (5, .int (I 64 w_1)), (7, .int x_7060)] → W p l e ({ frames := 6, cells := 0, slots := 0, locals := 169 } : Room) s m (List.toArray ([.ref this, .ref a0, .ref a1, .int a2, .int a3] : List Value)) below meth c H locs 0 0 Q (F0 m 113 ls []) := by
                    intro I_7150 ri_7151 H locs ls hG hP hD hS hl
                    refine lv_aload_n hx hb dX5_seek_113 rfl (lv_at hl 0 rfl) ?_
                    refine lv_iload hx hb dX5_seek_114 (lv_at hl 4 rfl) ?_
                    refine pk_i (va_runV (As := [.int (I 64 w_1)]) (rest := []) ⟨hx, hb, hml, hown, hts⟩ (s_X5_toNextOrder l D t σ I_7150 J_8 ri_7151 rj_10 rq H.size tg hSH hG.1 this (I 64 w_1) hL_this hK_this (rg_w h_2 (by decide))) (cwV 1 hts (tw_V tw_1475 tw_1476 tw_1477 tw_21 tw_1478) rfl rfl rfl (by decide +kernel) ⟨Nat.le_of_ble_eq_true rfl, Nat.le_of_ble_eq_true rfl⟩) ⟨pq_blind, pq_recv hK hP hL_this hK_this (by decide) rfl, pq_pre hK hN hP hD⟩ rfl rfl hl.1 rfl (lv_room (Nat.le_of_ble_eq_true rfl)) dX5_seek_116 ⟨Nat.le_of_ble_eq_true rfl, Nat.le_of_ble_eq_true rfl⟩) hD hS hA (fun x_7162 σ1 μ1 H locs hw_7163 hP hD hS => ?_)
                    obtain ⟨ri_7164, hu_7165, hg_7166, hr_7167⟩ := hw_7163
                    obtain ⟨hu_7165a, hu_7165b⟩ := Prod.mk.inj hu_7165
                    rw [hu_7165a, hu_7165b] at hP hD
                    have hG := GX.tr hG hg_7166 (by decide)
                    have h_7168 : rg x_7162 0 1 := by rcases hr_7167 with ⟨q, -⟩ | ⟨q, -⟩ <;> rw [q] <;> exact ⟨by decide, by decide⟩
                    have uh_7168 := h_7168.1
                    have vh_7168 := h_7168.2
                    refine lv_istore (lv' := [(6, .int x_7162), (0, .ref this), (1, .ref a0), (2, .ref a1), (4, .int a3), (5, .int (I 64 w_1)), (7, .int x_7060)]) hx hb dX5_seek_119 hl (by decide) rfl (fun ls hl => ?_)
                    obtain ⟨x_7169, ex_7169⟩ : ∃ y : Int32, y = x_7060 + Int32.ofInt 1 := ⟨_, rfl⟩
                    have h_7170 : rg x_7169 1 120 := rg_of_eq ex_7169 (rg_add h_7120 (rg_k (Int32.ofInt 1) 1 rfl) (by decide))
                    have uh_7170 := h_7170.1
                    have vh_7170 := h_7170.2
                    have tx_7169 : (x_7169).toInt = (x_7060).toInt + 1 := by rw [ex_7169]; exact i_add_rg (a2 := (x_7060).toInt) (b2 := 1) rfl rfl h_7120 (rg_k (Int32.ofInt 1) 1 rfl) (by decide)
                    refine lv_iinc (v := x_7169) (lv' := [(7, .int x_7169), (6, .int x_7162), (0, .ref this), (1, .ref a0), (2, .ref a1), (4, .int a3), (5, .int (I 64 w_1))]) hx hb dX5_seek_121 hl (k := 6) rfl ex_7169.symm (by decide) rfl (fun ls hl => ?_)
                    refine lv_goto (tgt := 60) hx hb dX5_seek_124 (by decide) ?_
                    exact ih_7111 x_7162 x_7169 I_7150 ri_7164 _ _ _ (rg_w h_7168 (by decide)) (rg_w h_7170 (by decide)) (ms_up 1 hm ex_7169 rfl (by decide) h_7120 (by decide) (by decide)) hG hP hD hS (lv_sub hl [2, 3, 4, 5, 6, 1, 0] rfl)
                  refine lv_icmp_ge (tgt := 113) hx hb dX5_seek_93 (by decide) (fun c_7171 => ?_) (fun c_7171 => ?_)
                  · have tc_7172 : (I_7130 160 this).toInt ≤ (x_7128).toInt := Int32.le_iff_toInt_le.mp c_7171
                    exact K_7161 I_7130 ri_7131 _ _ _ hG hP hD hS (lv_sub hl [1, 2, 3, 4, 5, 7] rfl)
                  · have tc_7173 : (x_7128).toInt < (I_7130 160 this).toInt := Int32.lt_iff_toInt_lt.mp (nle c_7171)
                    have h_7174 : rg x_7128 (-2147483648) 2147483646 := rg_lt1 (nle c_7171) (rg_full _) (rg_full _) (by decide)
                    have uh_7174 := h_7174.1
                    have vh_7174 := h_7174.2
                    have h_7175 : rg (I_7130 160 this) (-2147483647) 2147483647 := rg_lt2 (nle c_7171) (rg_full _) (rg_full _) (by decide)
                    have uh_7175 := h_7175.1
                    have vh_7175 := h_7175.2
                    refine lv_aload_n hx hb dX5_seek_96 rfl (lv_at hl 1 rfl) ?_
                    refine lv_iload hx hb dX5_seek_97 (lv_at hl 0 rfl) ?_
                    refine pp_i (v := x_7128) (ty := .int) (C := RX5) (T := TX5) (N := 8) hx hb hts (tw_i inlX5) tyX5 tyX5_ok nmX5 hown hK hP hD hS hL_this hK_this (by decide) rfl 0 160 (by decide) (hts _ (tw_c tw_1441)) rfl (by decide +kernel) rfl rfl (Nat.le_of_ble_eq_true rfl) (ps_160 _ _ _ _ _) dX5_seek_99 (fun I_7176 H locs eI_7176 hP hD hS => ?_)
                    have hG := GX.wI hG 160 rfl eI_7176 (rg_w h_7174 (by decide)) (by decide)
                    refine lv_aload_n hx hb dX5_seek_102 rfl (lv_at hl 1 rfl) ?_
                    obtain ⟨w_7177, hR_w_7177, hL_w_7177, hK_w_7177, hN_w_7177, hT_w_7177⟩ := sh_a hSH 162 (ci := 5) (kd := 13) (len := 5) rfl (by decide) hL_this hK_this
                    refine pg_f (v := .ref w_7177) (C := RX5) (T := TX5) (N := 8) hx hb hts (tw_i inlX5) hown hK hP hL_this hK_this (by decide) rfl 2 (by decide) (hts _ (tw_c tw_143)) (pq_hv rfl hR_w_7177) dX5_seek_103 ?_
                    refine lv_aload_n hx hb dX5_seek_106 rfl (lv_at hl 1 rfl) ?_
                    obtain ⟨w_7178, hR_w_7178, hL_w_7178, hK_w_7178, hN_w_7178, hT_w_7178⟩ := sh_a hSH 161 (ci := 5) (kd := 13) (len := 5) rfl (by decide) hL_this hK_this
                    refine pg_f (v := .ref w_7178) (C := RX5) (T := TX5) (N := 8) hx hb hts (tw_i inlX5) hown hK hP hL_this hK_this (by decide) rfl 1 (by decide) (hts _ (tw_c tw_142)) (pq_hv rfl hR_w_7178) dX5_seek_107 ?_
                    refine pk_v (va_runSN (As := [.ref w_7177, .ref w_7178]) (rest := []) ⟨hx, hb, hml, hown, hts⟩ (s_X11_copy_162_161 l D t σ I_7176 J_8 ri_7131 rj_10 rq H.size tg hSH hG.1 w_7177 w_7178 hL_w_7177 hK_w_7177 hN_w_7177 hT_w_7177 hL_w_7178 hK_w_7178 hN_w_7178 hT_w_7178) ⟨va_cnB (host := "RingsUnder") 2 hts (tw_W tw_1102) rfl rfl rfl (nl_23 hN) (hts _ (tw_c tw_2)) (by decide +kernel) ⟨Nat.le_of_ble_eq_true rfl, Nat.le_of_ble_eq_true rfl⟩, hts (.static yX11_copy) (by decide +kernel), trivial⟩ ⟨pq_blind, pq_pre hK hN hP hD⟩ rfl rfl hl.1 rfl (lv_room (Nat.le_of_ble_eq_true rfl)) dX5_seek_110 ⟨Nat.le_of_ble_eq_true rfl, Nat.le_of_ble_eq_true rfl⟩) hD hS hA (fun σ1 μ1 H locs hw_7180 hP hD hS => ?_)
                    obtain ⟨ri_7181, hu_7182, hg_7183, hp_7185⟩ := hw_7180
                    obtain ⟨hu_7182a, hu_7182b⟩ := Prod.mk.inj hu_7182
                    rw [hu_7182a, hu_7182b] at hP hD
                    have hG := GX.tr hG hg_7183 (by decide)
                    exact K_7161 I_7176 ri_7181 _ _ _ hG hP hD hS (lv_sub hl [1, 2, 3, 4, 5, 7] rfl)
          exact L_7110 _ (1 : Int32) (0 : Int32) I_6284 ri_5394 _ _ _ (rg_w (rg_k (1 : Int32) 1 rfl) (by decide)) (rg_w (rg_k (0 : Int32) 0 rfl) (by decide)) (Nat.lt_succ_self _) hG hP hD hS (lv_sub hl [2, 3, 4, 5, 6, 1, 0] rfl)
        · have tc_7186 : (x_5393).toInt < (I 64 w_1).toInt := Int32.lt_iff_toInt_lt.mp (nle c_6282)
          have h_7187 : rg x_5393 0 4 := rg_lt1 (nle c_6282) h_6281 h_2 (by decide)
          have uh_7187 := h_7187.1
          have vh_7187 := h_7187.2
          have h_7188 : rg (I 64 w_1) 1 5 := rg_lt2 (nle c_6282) h_6281 h_2 (by decide)
          have uh_7188 := h_7188.1
          have vh_7188 := h_7188.2
          refine lv_aload_n hx hb dX5_seek_32 rfl (lv_at hl 0 rfl) ?_
          obtain ⟨w_7189, hR_w_7189, hL_w_7189, hK_w_7189, hN_w_7189, hT_w_7189⟩ := sh_a hSH 162 (ci := 5) (kd := 13) (len := 5) rfl (by decide) hL_this hK_this
          refine pg_f (v := .ref w_7189) (C := RX5) (T := TX5) (N := 8) hx hb hts (tw_i inlX5) hown hK hP hL_this hK_this (by decide) rfl 2 (by decide) (hts _ (tw_c tw_143)) (pq_hv rfl hR_w_7189) dX5_seek_33 ?_
          refine lv_iload hx hb dX5_seek_36 (lv_at hl 5 rfl) ?_
          refine lv_iload hx hb dX5_seek_38 (lv_at hl 5 rfl) ?_
          refine pt_i hx hb hK hP hD hS hL_w_7189 hK_w_7189 hN_w_7189 (rg_in h_7187 (by decide)) dX5_seek_40 (fun r_7190 H locs er_7190 hP hD hS => ?_)
          have hG := GX.wR hG hSH hT_w_7189 rfl er_7190 (rg_w h_7187 (by decide)) (by decide)
          obtain ⟨x_7191, ex_7191⟩ : ∃ y : Int32, y = x_5393 + Int32.ofInt 1 := ⟨_, rfl⟩
          have h_7192 : rg x_7191 1 5 := rg_of_eq ex_7191 (rg_add h_7187 (rg_k (Int32.ofInt 1) 1 rfl) (by decide))
          have uh_7192 := h_7192.1
          have vh_7192 := h_7192.2
          have tx_7191 : (x_7191).toInt = (x_5393).toInt + 1 := by rw [ex_7191]; exact i_add_rg (a2 := (x_5393).toInt) (b2 := 1) rfl rfl h_7187 (rg_k (Int32.ofInt 1) 1 rfl) (by decide)
          refine lv_iinc (v := x_7191) (lv' := [(6, .int x_7191), (0, .ref this), (1, .ref a0), (2, .ref a1), (4, .int a3), (5, .int (I 64 w_1))]) hx hb dX5_seek_41 hl (k := 5) rfl ex_7191.symm (by decide) rfl (fun ls hl => ?_)
          refine lv_goto (tgt := 25) hx hb dX5_seek_44 (by decide) ?_
          exact ih_6279 x_7191 r_7190 _ _ _ (rg_w h_7192 (by decide)) (ms_up 1 hm ex_7191 rfl (by decide) h_7187 (by decide) (by decide)) hG hP hD hS (lv_sub hl [1, 2, 3, 4, 5, 0] rfl)
    exact L_6278 _ (0 : Int32) ri_9 _ _ _ (rg_w (rg_k (0 : Int32) 0 rfl) (by decide)) (Nat.lt_succ_self _) hG hP hD hS (lv_sub hl [2, 3, 4, 6, 1, 0] rfl)
  exact go _ _ _ hP hD hS hl

set_option maxHeartbeats 4000000 in
set_option maxRecDepth 100000 in
theorem s_X6_append (l : Launch) (D : va_G) (t : pq_T) (σ : pq_S) (I : Nat → Nat → Int32) (J : Nat → Nat → Int64) (ri : Nat → Nat → Int32) (rj : Nat → Nat → Int64) (rq : Nat → Nat → Option Nat) (sz : Nat) (tg : Nat → Nat) (hSH : SH σ tg) (hG0 : GS tg σ I ri rq) (this : Nat) (a0 : Int32) (hL_this : this ∈ σ.1) (hK_this : σ.2.1 this = 6) : MetV l yX6_append (wa yX6_append cX6_append 3 none) ({ frames := 0, cells := 0, slots := 0, locals := 0 }) [.ref this, .int a0] D t σ (I, J, ri, rj, rq) sz 0 0 (fun (u : pq_S × pq_M) => ∃ I' : Nat → Nat → Int32, ∃ ri' : Nat → Nat → Int32, u = (σ, I', J, ri', rj, rq) ∧ GX [193] tg σ I I' ri' rq) := by
  refine Met.ofW (cc := cX6_append) (maxL := 3) (ret := none) (by decide) rfl ?_
  intro p e s m args below meth c s₁ B hml hv
  obtain ⟨rfl, hsz, hP, hK, hD0, hN⟩ := hv
  have hx := B.exec
  have hb := B.bytes
  have hr := B.returns
  have hts := atoms_spec (ws := (wa yX6_append cX6_append 3 none)) B.pre
  have hown : s.vm.findClass RX6 = some m.cls := findClass_of_methodNamed B.named
  have hlocks := B.notSynchronized
  subst hsz
  have hD : va_D (pq_B t σ (I, J, ri, rj, rq) s.heap.size) (pq_P t σ (I, J, ri, rj, rq)) := hD0.self
  generalize hAe : pq_B t σ (I, J, ri, rj, rq) s.heap.size = A at hD ⊢
  have hA : ∀ q : Nat, s.heap.size ≤ q → A q := fun q h => by rw [← hAe]; exact Or.inr h
  have hS : va_S A s.heap s.heap [] := va_S.rf
  have hG : GX [193] tg σ I I ri rq := ⟨hG0, fun _ _ _ => rfl⟩
  have hl := lv_entry ([.ref this, .int a0]) (n := 3) (Nat.le_of_ble_eq_true rfl)
  rw [lg_entry_eq]
  generalize (lg_sl ([.ref this, .int a0]) ++ List.replicate (3 - (lg_sl ([.ref this, .int a0])).length) Slot.unset).toArray = ls at hl ⊢
  have hl : lv_has ls 3 [(0, .ref this), (1, .int a0)] := hl
  refine q_gen (fun Q hQ => ?_)
  have go : ∀ (H : Heap) (locs : List Loc) (ls : Array Slot), va_P D vwCl (pq_P t σ (I, J, ri, rj, rq)) H → va_D A (pq_P t σ (I, J, ri, rj, rq)) → va_S A s.heap H locs → lv_has ls 3 [(0, .ref this), (1, .int a0)] → W p l e ({ frames := 0, cells := 0, slots := 0, locals := 0 } : Room) s m (List.toArray ([.ref this, .int a0] : List Value)) below meth c H locs 0 0 Q (F0 m 0 ls []) := by
    intro H locs ls hP hD hS hl
    refine lv_bipush (v := 24) hx hb dX6_append_0 (by decide) ?_
    refine lv_istore_n (lv' := [(2, .int 24), (0, .ref this), (1, .int a0)]) hx hb dX6_append_2 rfl hl (by decide) rfl (fun ls hl => ?_)
    have L_131 : ∀ (n_ : Nat) (x_111 : Int32) (I_112 : Nat → Nat → Int32) (ri_113 : Nat → Nat → Int32) (H : Heap) (locs : List Loc) (ls : Array Slot), rg x_111 (-8) 24 → ((x_111).toInt - (-8)).toNat < n_ → GX [193] tg σ I I_112 ri_113 rq → va_P D vwCl (pq_P t σ (I_112, J, ri_113, rj, rq)) H → va_D A (pq_P t σ (I_112, J, ri_113, rj, rq)) → va_S A s.heap H locs → lv_has ls 3 [(0, .ref this), (1, .int a0), (2, .int x_111)] → W p l e ({ frames := 0, cells := 0, slots := 0, locals := 0 } : Room) s m (List.toArray ([.ref this, .int a0] : List Value)) below meth c H locs 0 0 Q (F0 m 3 ls []) := by
      intro n_
      induction n_ with
      | zero => intro x_111 I_112 ri_113 H locs ls h_134 hm hG hP hD hS hl; exact absurd hm (Nat.not_lt_zero _)
      | succ n_ ih_132 =>
        intro x_111 I_112 ri_113 H locs ls h_134 hm hG hP hD hS hl
        refine lv_iload_n hx hb dX6_append_3 rfl (lv_at hl 2 rfl) ?_
        refine lv_if_lt (tgt := 49) hx hb dX6_append_4 (by decide) (fun c_135 => ?_) (fun c_135 => ?_)
        · have h_136 : rg x_111 (-8) (-1) := rg_lt1 c_135 h_134 (rg_k (0 : Int32) 0 rfl) (by decide)
          subst hQ
          exact W.vret hx hb hr (fun t1 ht hW => ⟨⟨(σ, I_112, J, ri_113, rj, rq), rfl, ⟨I_112, ri_113, rfl, hG⟩, by rw [ht]; exact hP, va_K.moved hW.alike hK, hD⟩, hS.F ht⟩) hS.2.2 dX6_append_49
        · have h_137 : rg x_111 0 24 := rg_le2 (nlt c_135) (rg_k (0 : Int32) 0 rfl) h_134 (by decide)
          refine lv_aload_n hx hb dX6_append_7 rfl (lv_at hl 0 rfl) ?_
          refine pg_f (v := .int (I_112 193 this)) (C := RX6) (T := TX6) (N := 6) hx hb hts (tw_i inlX6) hown hK hP hL_this hK_this (by decide) rfl 1 (by decide) (hts _ (tw_c tw_626)) rfl dX6_append_8 ?_
          have h_138 : rg (I_112 193 this) 0 300 := GX.rI hG 193 rfl
          refine lv_sipush (v := 300) hx hb dX6_append_11 (by decide) ?_
          refine lv_icmp_ge (tgt := 49) hx hb dX6_append_14 (by decide) (fun c_139 => ?_) (fun c_139 => ?_)
          · have h_140 : rg (I_112 193 this) 300 300 := rg_le2 c_139 (rg_k (300 : Int32) 300 rfl) h_138 (by decide)
            subst hQ
            exact W.vret hx hb hr (fun t1 ht hW => ⟨⟨(σ, I_112, J, ri_113, rj, rq), rfl, ⟨I_112, ri_113, rfl, hG⟩, by rw [ht]; exact hP, va_K.moved hW.alike hK, hD⟩, hS.F ht⟩) hS.2.2 dX6_append_49
          · have h_141 : rg (I_112 193 this) 0 299 := rg_lt1 (nle c_139) h_138 (rg_k (300 : Int32) 300 rfl) (by decide)
            refine lv_aload_n hx hb dX6_append_17 rfl (lv_at hl 0 rfl) ?_
            obtain ⟨w_142, hR_w_142, hL_w_142, hK_w_142, hN_w_142, hT_w_142⟩ := sh_a hSH 192 (ci := 6) (kd := 13) (len := 300) rfl (by decide) hL_this hK_this
            refine pg_f (v := .ref w_142) (C := RX6) (T := TX6) (N := 6) hx hb hts (tw_i inlX6) hown hK hP hL_this hK_this (by decide) rfl 0 (by decide) (hts _ (tw_c tw_165)) (pq_hv rfl hR_w_142) dX6_append_18 ?_
            refine lv_aload_n hx hb dX6_append_21 rfl (lv_at hl 0 rfl) ?_
            refine pg_f (v := .int (I_112 193 this)) (C := RX6) (T := TX6) (N := 6) hx hb hts (tw_i inlX6) hown hK hP hL_this hK_this (by decide) rfl 1 (by decide) (hts _ (tw_c tw_626)) rfl dX6_append_22 ?_
            refine lv_iload_n hx hb dX6_append_25 rfl (lv_at hl 1 rfl) ?_
            refine lv_iload_n hx hb dX6_append_26 rfl (lv_at hl 2 rfl) ?_
            refine lv_iushr hx hb dX6_append_27 rfl ?_
            refine lv_topi (fun x_143 ex_143 => ?_)
            refine lv_sipush (v := 255) hx hb dX6_append_28 (by decide) ?_
            refine lv_iand hx hb dX6_append_31 ?_
            refine lv_topi (fun x_144 ex_144 => ?_)
            refine pt_i hx hb hK hP hD hS hL_w_142 hK_w_142 hN_w_142 (rg_in h_141 (by decide)) dX6_append_32 (fun r_145 H locs er_145 hP hD hS => ?_)
            have hG := GX.wR hG hSH hT_w_142 rfl er_145 (rg_w (rg_full _) (by decide)) (by decide)
            refine lv_aload_n hx hb dX6_append_33 rfl (lv_at hl 0 rfl) ?_
            refine lv_dup hx hb dX6_append_34 rfl ?_
            refine pg_f (v := .int (I_112 193 this)) (C := RX6) (T := TX6) (N := 6) hx hb hts (tw_i inlX6) hown hK hP hL_this hK_this (by decide) rfl 1 (by decide) (hts _ (tw_c tw_626)) rfl dX6_append_35 ?_
            refine lv_iconst (v := 1) hx hb dX6_append_38 (by decide) ?_
            refine lv_iadd hx hb dX6_append_39 ?_
            refine lv_topi (fun x_146 ex_146 => ?_)
            have h_147 : rg x_146 1 300 := rg_of_eq ex_146 (rg_add h_141 (rg_k (1 : Int32) 1 rfl) (by decide))
            refine pp_i (v := x_146) (ty := .int) (C := RX6) (T := TX6) (N := 6) hx hb hts (tw_i inlX6) tyX6 tyX6_ok nmX6 hown hK hP hD hS hL_this hK_this (by decide) rfl 1 193 (by decide) (hts _ (tw_c tw_626)) rfl (by decide +kernel) rfl rfl (Nat.le_of_ble_eq_true rfl) (ps_193 _ _ _ _ _) dX6_append_40 (fun I_148 H locs eI_148 hP hD hS => ?_)
            have hG := GX.wI hG 193 rfl eI_148 (rg_w h_147 (by decide)) (by decide)
            obtain ⟨x_149, ex_149⟩ : ∃ y : Int32, y = x_111 + Int32.ofInt (-8) := ⟨_, rfl⟩
            have h_150 : rg x_149 (-8) 16 := rg_of_eq ex_149 (rg_add h_137 (rg_k (Int32.ofInt (-8)) (-8) rfl) (by decide))
            refine lv_iinc (v := x_149) (lv' := [(2, .int x_149), (0, .ref this), (1, .int a0)]) hx hb dX6_append_43 hl (k := 2) rfl ex_149.symm (by decide) rfl (fun ls hl => ?_)
            refine lv_goto (tgt := 3) hx hb dX6_append_46 (by decide) ?_
            exact ih_132 x_149 I_148 r_145 _ _ _ (rg_w h_150 (by decide)) (ms_dn 8 hm ex_149 rfl (by decide) h_137 (by decide) (by decide)) hG hP hD hS (lv_sub hl [1, 2, 0] rfl)
    exact L_131 _ (24 : Int32) I ri _ _ _ (rg_w (rg_k (24 : Int32) 24 rfl) (by decide)) (Nat.lt_succ_self _) hG hP hD hS (lv_sub hl [1, 2, 0] rfl)
  exact go _ _ _ hP hD hS hl

set_option maxHeartbeats 4000000 in
set_option maxRecDepth 100000 in
theorem s_X6_rewind (l : Launch) (D : va_G) (t : pq_T) (σ : pq_S) (I : Nat → Nat → Int32) (J : Nat → Nat → Int64) (ri : Nat → Nat → Int32) (rj : Nat → Nat → Int64) (rq : Nat → Nat → Option Nat) (sz : Nat) (tg : Nat → Nat) (hSH : SH σ tg) (hG0 : GS tg σ I ri rq) (this : Nat) (hL_this : this ∈ σ.1) (hK_this : σ.2.1 this = 6) : MetV l yX6_rewind (wa yX6_rewind cX6_rewind 1 none) ({ frames := 0, cells := 0, slots := 0, locals := 0 }) [.ref this] D t σ (I, J, ri, rj, rq) sz 0 0 (fun (u : pq_S × pq_M) => ∃ I' : Nat → Nat → Int32, u = (σ, I', J, ri, rj, rq) ∧ GX [] tg σ I I' ri rq) := by
  refine Met.ofW (cc := cX6_rewind) (maxL := 1) (ret := none) (by decide) rfl ?_
  intro p e s m args below meth c s₁ B hml hv
  obtain ⟨rfl, hsz, hP, hK, hD0, hN⟩ := hv
  have hx := B.exec
  have hb := B.bytes
  have hr := B.returns
  have hts := atoms_spec (ws := (wa yX6_rewind cX6_rewind 1 none)) B.pre
  have hown : s.vm.findClass RX6 = some m.cls := findClass_of_methodNamed B.named
  have hlocks := B.notSynchronized
  subst hsz
  have hD : va_D (pq_B t σ (I, J, ri, rj, rq) s.heap.size) (pq_P t σ (I, J, ri, rj, rq)) := hD0.self
  generalize hAe : pq_B t σ (I, J, ri, rj, rq) s.heap.size = A at hD ⊢
  have hA : ∀ q : Nat, s.heap.size ≤ q → A q := fun q h => by rw [← hAe]; exact Or.inr h
  have hS : va_S A s.heap s.heap [] := va_S.rf
  have hG : GX [] tg σ I I ri rq := ⟨hG0, fun _ _ _ => rfl⟩
  have hl := lv_entry ([.ref this]) (n := 1) (Nat.le_of_ble_eq_true rfl)
  rw [lg_entry_eq]
  generalize (lg_sl ([.ref this]) ++ List.replicate (1 - (lg_sl ([.ref this])).length) Slot.unset).toArray = ls at hl ⊢
  have hl : lv_has ls 1 [(0, .ref this)] := hl
  refine q_gen (fun Q hQ => ?_)
  have go : ∀ (H : Heap) (locs : List Loc) (ls : Array Slot), va_P D vwCl (pq_P t σ (I, J, ri, rj, rq)) H → va_D A (pq_P t σ (I, J, ri, rj, rq)) → va_S A s.heap H locs → lv_has ls 1 [(0, .ref this)] → W p l e ({ frames := 0, cells := 0, slots := 0, locals := 0 } : Room) s m (List.toArray ([.ref this] : List Value)) below meth c H locs 0 0 Q (F0 m 0 ls []) := by
    intro H locs ls hP hD hS hl
    refine lv_aload_n hx hb dX6_rewind_0 rfl (lv_at hl 0 rfl) ?_
    refine lv_iconst (v := 0) hx hb dX6_rewind_1 (by decide) ?_
    refine pp_i (v := 0) (ty := .int) (C := RX6) (T := TX6) (N := 6) hx hb hts (tw_i inlX6) tyX6 tyX6_ok nmX6 hown hK hP hD hS hL_this hK_this (by decide) rfl 5 197 (by decide) (hts _ (tw_c tw_662)) rfl (by decide +kernel) rfl rfl (Nat.le_of_ble_eq_true rfl) (ps_197 _ _ _ _ _) dX6_rewind_2 (fun I_1 H locs eI_1 hP hD hS => ?_)
    have hG := GX.wI hG 197 rfl eI_1 (rg_w (rg_k (0 : Int32) 0 rfl) (by decide)) (by decide)
    subst hQ
    exact W.vret hx hb hr (fun t1 ht hW => ⟨⟨(σ, I_1, J, ri, rj, rq), rfl, ⟨I_1, rfl, hG⟩, by rw [ht]; exact hP, va_K.moved hW.alike hK, hD⟩, hS.F ht⟩) hS.2.2 dX6_rewind_5
  exact go _ _ _ hP hD hS hl

set_option maxHeartbeats 4000000 in
set_option maxRecDepth 100000 in
theorem s_X6_isDigit (l : Launch) (D : va_G) (t : pq_T) (σ : pq_S) (I : Nat → Nat → Int32) (J : Nat → Nat → Int64) (ri : Nat → Nat → Int32) (rj : Nat → Nat → Int64) (rq : Nat → Nat → Option Nat) (sz : Nat) (tg : Nat → Nat) (hSH : SH σ tg) (hG0 : GS tg σ I ri rq) (a0 : Int32) : MetI l yX6_isDigit (wa yX6_isDigit cX6_isDigit 1 (some .boolean)) ({ frames := 0, cells := 0, slots := 0, locals := 0 }) [.int a0] D t σ (I, J, ri, rj, rq) sz 0 0 (fun (r : Int32) (u : pq_S × pq_M) => u = (σ, I, J, ri, rj, rq) ∧ ((r = 1 ∧ rg a0 48 57) ∨ (r = 0 ∧ True))) := by
  refine Met.ofW (cc := cX6_isDigit) (maxL := 1) (ret := (some .boolean)) (by decide) rfl ?_
  intro p e s m args below meth c s₁ B hml hv
  obtain ⟨rfl, hsz, hP, hK, hD0, hN⟩ := hv
  have hx := B.exec
  have hb := B.bytes
  have hr := B.returns
  have hts := atoms_spec (ws := (wa yX6_isDigit cX6_isDigit 1 (some .boolean))) B.pre
  have hown : s.vm.findClass RX6 = some m.cls := findClass_of_methodNamed B.named
  have hlocks := B.notSynchronized
  subst hsz
  have hD : va_D (pq_B t σ (I, J, ri, rj, rq) s.heap.size) (pq_P t σ (I, J, ri, rj, rq)) := hD0.self
  generalize hAe : pq_B t σ (I, J, ri, rj, rq) s.heap.size = A at hD ⊢
  have hA : ∀ q : Nat, s.heap.size ≤ q → A q := fun q h => by rw [← hAe]; exact Or.inr h
  have hS : va_S A s.heap s.heap [] := va_S.rf
  have hG : GX [] tg σ I I ri rq := ⟨hG0, fun _ _ _ => rfl⟩
  have hl := lv_entry ([.int a0]) (n := 1) (Nat.le_of_ble_eq_true rfl)
  rw [lg_entry_eq]
  generalize (lg_sl ([.int a0]) ++ List.replicate (1 - (lg_sl ([.int a0])).length) Slot.unset).toArray = ls at hl ⊢
  have hl : lv_has ls 1 [(0, .int a0)] := hl
  refine q_gen (fun Q hQ => ?_)
  have go : ∀ (H : Heap) (locs : List Loc) (ls : Array Slot), va_P D vwCl (pq_P t σ (I, J, ri, rj, rq)) H → va_D A (pq_P t σ (I, J, ri, rj, rq)) → va_S A s.heap H locs → lv_has ls 1 [(0, .int a0)] → W p l e ({ frames := 0, cells := 0, slots := 0, locals := 0 } : Room) s m (List.toArray ([.int a0] : List Value)) below meth c H locs 0 0 Q (F0 m 0 ls []) := by
    intro H locs ls hP hD hS hl
    refine lv_iload_n hx hb dX6_isDigit_0 rfl (lv_at hl 0 rfl) ?_
    refine lv_bipush (v := 48) hx hb dX6_isDigit_1 (by decide) ?_
    have K_7 : ∀  (H : Heap) (locs : List Loc) (ls : Array Slot), GX [] tg σ I I ri rq → va_P D vwCl (pq_P t σ (I, J, ri, rj, rq)) H → va_D A (pq_P t σ (I, J, ri, rj, rq)) → va_S A s.heap H locs → lv_has ls 1 [] → W p l e ({ frames := 0, cells := 0, slots := 0, locals := 0 } : Room) s m (List.toArray ([.int a0] : List Value)) below meth c H locs 0 0 Q (F0 m 16 ls []) := by
      intro H locs ls hG hP hD hS hl
      refine lv_iconst (v := 0) hx hb dX6_isDigit_16 (by decide) ?_
      subst hQ
      exact W.zret (v := 0) hx hb hr (by decide) (fun t1 ht hW => ⟨⟨0, (σ, I, J, ri, rj, rq), rfl, ⟨rfl, (Or.inr ⟨rfl, trivial⟩)⟩, by rw [ht]; exact hP, va_K.moved hW.alike hK, hD⟩, hS.F ht⟩) hS.2.2 dX6_isDigit_17
    refine lv_icmp_lt (tgt := 16) hx hb dX6_isDigit_3 (by decide) (fun c_8 => ?_) (fun c_8 => ?_)
    · have h_9 : rg a0 (-2147483648) 47 := rg_lt1 c_8 (rg_full _) (rg_k (48 : Int32) 48 rfl) (by decide)
      exact K_7 _ _ _ hG hP hD hS (lv_sub hl [] rfl)
    · have h_10 : rg a0 48 2147483647 := rg_le2 (nlt c_8) (rg_k (48 : Int32) 48 rfl) (rg_full _) (by decide)
      refine lv_iload_n hx hb dX6_isDigit_6 rfl (lv_at hl 0 rfl) ?_
      refine lv_bipush (v := 57) hx hb dX6_isDigit_7 (by decide) ?_
      refine lv_icmp_gt (tgt := 16) hx hb dX6_isDigit_9 (by decide) (fun c_11 => ?_) (fun c_11 => ?_)
      · have h_12 : rg a0 58 2147483647 := rg_lt2 c_11 (rg_k (57 : Int32) 57 rfl) h_10 (by decide)
        exact K_7 _ _ _ hG hP hD hS (lv_sub hl [] rfl)
      · have h_13 : rg a0 48 57 := rg_le1 (nlt c_11) h_10 (rg_k (57 : Int32) 57 rfl) (by decide)
        refine lv_iconst (v := 1) hx hb dX6_isDigit_12 (by decide) ?_
        refine lv_goto (tgt := 17) hx hb dX6_isDigit_13 (by decide) ?_
        subst hQ
        exact W.zret (v := 1) hx hb hr (by decide) (fun t1 ht hW => ⟨⟨1, (σ, I, J, ri, rj, rq), rfl, ⟨rfl, (Or.inl ⟨rfl, (rg_w h_13 (by decide))⟩)⟩, by rw [ht]; exact hP, va_K.moved hW.alike hK, hD⟩, hS.F ht⟩) hS.2.2 dX6_isDigit_17
  exact go _ _ _ hP hD hS hl

set_option maxHeartbeats 4000000 in
set_option maxRecDepth 100000 in
theorem s_X6_isLetter (l : Launch) (D : va_G) (t : pq_T) (σ : pq_S) (I : Nat → Nat → Int32) (J : Nat → Nat → Int64) (ri : Nat → Nat → Int32) (rj : Nat → Nat → Int64) (rq : Nat → Nat → Option Nat) (sz : Nat) (tg : Nat → Nat) (hSH : SH σ tg) (hG0 : GS tg σ I ri rq) (a0 : Int32) : MetI l yX6_isLetter (wa yX6_isLetter cX6_isLetter 1 (some .boolean)) ({ frames := 0, cells := 0, slots := 0, locals := 0 }) [.int a0] D t σ (I, J, ri, rj, rq) sz 0 0 (fun (r : Int32) (u : pq_S × pq_M) => u = (σ, I, J, ri, rj, rq) ∧ ((r = 1 ∧ rg a0 65 122) ∨ (r = 0 ∧ True))) := by
  refine Met.ofW (cc := cX6_isLetter) (maxL := 1) (ret := (some .boolean)) (by decide) rfl ?_
  intro p e s m args below meth c s₁ B hml hv
  obtain ⟨rfl, hsz, hP, hK, hD0, hN⟩ := hv
  have hx := B.exec
  have hb := B.bytes
  have hr := B.returns
  have hts := atoms_spec (ws := (wa yX6_isLetter cX6_isLetter 1 (some .boolean))) B.pre
  have hown : s.vm.findClass RX6 = some m.cls := findClass_of_methodNamed B.named
  have hlocks := B.notSynchronized
  subst hsz
  have hD : va_D (pq_B t σ (I, J, ri, rj, rq) s.heap.size) (pq_P t σ (I, J, ri, rj, rq)) := hD0.self
  generalize hAe : pq_B t σ (I, J, ri, rj, rq) s.heap.size = A at hD ⊢
  have hA : ∀ q : Nat, s.heap.size ≤ q → A q := fun q h => by rw [← hAe]; exact Or.inr h
  have hS : va_S A s.heap s.heap [] := va_S.rf
  have hG : GX [] tg σ I I ri rq := ⟨hG0, fun _ _ _ => rfl⟩
  have hl := lv_entry ([.int a0]) (n := 1) (Nat.le_of_ble_eq_true rfl)
  rw [lg_entry_eq]
  generalize (lg_sl ([.int a0]) ++ List.replicate (1 - (lg_sl ([.int a0])).length) Slot.unset).toArray = ls at hl ⊢
  have hl : lv_has ls 1 [(0, .int a0)] := hl
  refine q_gen (fun Q hQ => ?_)
  have go : ∀ (H : Heap) (locs : List Loc) (ls : Array Slot), va_P D vwCl (pq_P t σ (I, J, ri, rj, rq)) H → va_D A (pq_P t σ (I, J, ri, rj, rq)) → va_S A s.heap H locs → lv_has ls 1 [(0, .int a0)] → W p l e ({ frames := 0, cells := 0, slots := 0, locals := 0 } : Room) s m (List.toArray ([.int a0] : List Value)) below meth c H locs 0 0 Q (F0 m 0 ls []) := by
    intro H locs ls hP hD hS hl
    refine lv_iload_n hx hb dX6_isLetter_0 rfl (lv_at hl 0 rfl) ?_
    refine lv_bipush (v := 97) hx hb dX6_isLetter_1 (by decide) ?_
    have K_14 : ∀  (H : Heap) (locs : List Loc) (ls : Array Slot), rg (a0) 65 122 → GX [] tg σ I I ri rq → va_P D vwCl (pq_P t σ (I, J, ri, rj, rq)) H → va_D A (pq_P t σ (I, J, ri, rj, rq)) → va_S A s.heap H locs → lv_has ls 1 [] → W p l e ({ frames := 0, cells := 0, slots := 0, locals := 0 } : Room) s m (List.toArray ([.int a0] : List Value)) below meth c H locs 0 0 Q (F0 m 24 ls []) := by
      intro H locs ls h_16 hG hP hD hS hl
      refine lv_iconst (v := 1) hx hb dX6_isLetter_24 (by decide) ?_
      refine lv_goto (tgt := 29) hx hb dX6_isLetter_25 (by decide) ?_
      subst hQ
      exact W.zret (v := 1) hx hb hr (by decide) (fun t1 ht hW => ⟨⟨1, (σ, I, J, ri, rj, rq), rfl, ⟨rfl, (Or.inl ⟨rfl, (rg_w h_16 (by decide))⟩)⟩, by rw [ht]; exact hP, va_K.moved hW.alike hK, hD⟩, hS.F ht⟩) hS.2.2 dX6_isLetter_29
    have K_17 : ∀  (H : Heap) (locs : List Loc) (ls : Array Slot), GX [] tg σ I I ri rq → va_P D vwCl (pq_P t σ (I, J, ri, rj, rq)) H → va_D A (pq_P t σ (I, J, ri, rj, rq)) → va_S A s.heap H locs → lv_has ls 1 [(0, .int a0)] → W p l e ({ frames := 0, cells := 0, slots := 0, locals := 0 } : Room) s m (List.toArray ([.int a0] : List Value)) below meth c H locs 0 0 Q (F0 m 12 ls []) := by
      intro H locs ls hG hP hD hS hl
      refine lv_iload_n hx hb dX6_isLetter_12 rfl (lv_at hl 0 rfl) ?_
      refine lv_bipush (v := 65) hx hb dX6_isLetter_13 (by decide) ?_
      have K_24 : ∀  (H : Heap) (locs : List Loc) (ls : Array Slot), GX [] tg σ I I ri rq → va_P D vwCl (pq_P t σ (I, J, ri, rj, rq)) H → va_D A (pq_P t σ (I, J, ri, rj, rq)) → va_S A s.heap H locs → lv_has ls 1 [] → W p l e ({ frames := 0, cells := 0, slots := 0, locals := 0 } : Room) s m (List.toArray ([.int a0] : List Value)) below meth c H locs 0 0 Q (F0 m 28 ls []) := by
        intro H locs ls hG hP hD hS hl
        refine lv_iconst (v := 0) hx hb dX6_isLetter_28 (by decide) ?_
        subst hQ
        exact W.zret (v := 0) hx hb hr (by decide) (fun t1 ht hW => ⟨⟨0, (σ, I, J, ri, rj, rq), rfl, ⟨rfl, (Or.inr ⟨rfl, trivial⟩)⟩, by rw [ht]; exact hP, va_K.moved hW.alike hK, hD⟩, hS.F ht⟩) hS.2.2 dX6_isLetter_29
      refine lv_icmp_lt (tgt := 28) hx hb dX6_isLetter_15 (by decide) (fun c_25 => ?_) (fun c_25 => ?_)
      · have h_26 : rg a0 (-2147483648) 64 := rg_lt1 c_25 (rg_full _) (rg_k (65 : Int32) 65 rfl) (by decide)
        exact K_24 _ _ _ hG hP hD hS (lv_sub hl [] rfl)
      · have h_27 : rg a0 65 2147483647 := rg_le2 (nlt c_25) (rg_k (65 : Int32) 65 rfl) (rg_full _) (by decide)
        refine lv_iload_n hx hb dX6_isLetter_18 rfl (lv_at hl 0 rfl) ?_
        refine lv_bipush (v := 90) hx hb dX6_isLetter_19 (by decide) ?_
        refine lv_icmp_gt (tgt := 28) hx hb dX6_isLetter_21 (by decide) (fun c_28 => ?_) (fun c_28 => ?_)
        · have h_29 : rg a0 91 2147483647 := rg_lt2 c_28 (rg_k (90 : Int32) 90 rfl) h_27 (by decide)
          exact K_24 _ _ _ hG hP hD hS (lv_sub hl [] rfl)
        · have h_30 : rg a0 65 90 := rg_le1 (nlt c_28) h_27 (rg_k (90 : Int32) 90 rfl) (by decide)
          exact K_14 _ _ _ (rg_w h_30 (by decide)) hG hP hD hS (lv_sub hl [] rfl)
    refine lv_icmp_lt (tgt := 12) hx hb dX6_isLetter_3 (by decide) (fun c_31 => ?_) (fun c_31 => ?_)
    · have h_32 : rg a0 (-2147483648) 96 := rg_lt1 c_31 (rg_full _) (rg_k (97 : Int32) 97 rfl) (by decide)
      exact K_17 _ _ _ hG hP hD hS (lv_sub hl [0] rfl)
    · have h_33 : rg a0 97 2147483647 := rg_le2 (nlt c_31) (rg_k (97 : Int32) 97 rfl) (rg_full _) (by decide)
      refine lv_iload_n hx hb dX6_isLetter_6 rfl (lv_at hl 0 rfl) ?_
      refine lv_bipush (v := 122) hx hb dX6_isLetter_7 (by decide) ?_
      refine lv_icmp_le (tgt := 24) hx hb dX6_isLetter_9 (by decide) (fun c_34 => ?_) (fun c_34 => ?_)
      · have h_35 : rg a0 97 122 := rg_le1 c_34 h_33 (rg_k (122 : Int32) 122 rfl) (by decide)
        exact K_14 _ _ _ (rg_w h_35 (by decide)) hG hP hD hS (lv_sub hl [] rfl)
      · have h_36 : rg a0 123 2147483647 := rg_lt2 (nle c_34) (rg_k (122 : Int32) 122 rfl) h_33 (by decide)
        exact K_17 _ _ _ hG hP hD hS (lv_sub hl [0] rfl)
  exact go _ _ _ hP hD hS hl

set_option maxHeartbeats 4000000 in
set_option maxRecDepth 100000 in
theorem s_X6_signOf (l : Launch) (D : va_G) (t : pq_T) (σ : pq_S) (I : Nat → Nat → Int32) (J : Nat → Nat → Int64) (ri : Nat → Nat → Int32) (rj : Nat → Nat → Int64) (rq : Nat → Nat → Option Nat) (sz : Nat) (tg : Nat → Nat) (hSH : SH σ tg) (hG0 : GS tg σ I ri rq) (a0 : Int32) : MetI l yX6_signOf (wa yX6_signOf cX6_signOf 1 (some .int)) ({ frames := 0, cells := 0, slots := 0, locals := 0 }) [.int a0] D t σ (I, J, ri, rj, rq) sz 0 0 (fun (r : Int32) (u : pq_S × pq_M) => u = (σ, I, J, ri, rj, rq) ∧ rg r 19 34) := by
  refine Met.ofW (cc := cX6_signOf) (maxL := 1) (ret := (some .int)) (by decide) rfl ?_
  intro p e s m args below meth c s₁ B hml hv
  obtain ⟨rfl, hsz, hP, hK, hD0, hN⟩ := hv
  have hx := B.exec
  have hb := B.bytes
  have hr := B.returns
  have hts := atoms_spec (ws := (wa yX6_signOf cX6_signOf 1 (some .int))) B.pre
  have hown : s.vm.findClass RX6 = some m.cls := findClass_of_methodNamed B.named
  have hlocks := B.notSynchronized
  subst hsz
  have hD : va_D (pq_B t σ (I, J, ri, rj, rq) s.heap.size) (pq_P t σ (I, J, ri, rj, rq)) := hD0.self
  generalize hAe : pq_B t σ (I, J, ri, rj, rq) s.heap.size = A at hD ⊢
  have hA : ∀ q : Nat, s.heap.size ≤ q → A q := fun q h => by rw [← hAe]; exact Or.inr h
  have hS : va_S A s.heap s.heap [] := va_S.rf
  have hG : GX [] tg σ I I ri rq := ⟨hG0, fun _ _ _ => rfl⟩
  have hl := lv_entry ([.int a0]) (n := 1) (Nat.le_of_ble_eq_true rfl)
  rw [lg_entry_eq]
  generalize (lg_sl ([.int a0]) ++ List.replicate (1 - (lg_sl ([.int a0])).length) Slot.unset).toArray = ls at hl ⊢
  have hl : lv_has ls 1 [(0, .int a0)] := hl
  refine q_gen (fun Q hQ => ?_)
  have go : ∀ (H : Heap) (locs : List Loc) (ls : Array Slot), va_P D vwCl (pq_P t σ (I, J, ri, rj, rq)) H → va_D A (pq_P t σ (I, J, ri, rj, rq)) → va_S A s.heap H locs → lv_has ls 1 [(0, .int a0)] → W p l e ({ frames := 0, cells := 0, slots := 0, locals := 0 } : Room) s m (List.toArray ([.int a0] : List Value)) below meth c H locs 0 0 Q (F0 m 0 ls []) := by
    intro H locs ls hP hD hS hl
    refine lv_iload_n hx hb dX6_signOf_0 rfl (lv_at hl 0 rfl) ?_
    by_cases k_1 : a0 = (35 : Int32)
    · have h_2 : rg a0 35 35 := rg_and (rg_full _) (rg_of_eq k_1 (rg_k (35 : Int32) 35 rfl)) (by decide)
      refine lv_tov 35 k_1 ?_
      refine lv_tableIn (tgt := 137) hx hb dX6_signOf_1 (by decide) (by decide) rfl (by decide) ?_
      refine lv_bipush (v := 24) hx hb dX6_signOf_137 (by decide) ?_
      subst hQ
      exact W.iret (v := 24) hx hb hr (fun t1 ht hW => ⟨⟨24, (σ, I, J, ri, rj, rq), rfl, ⟨rfl, (rg_w (rg_k (24 : Int32) 24 rfl) (by decide))⟩, by rw [ht]; exact hP, va_K.moved hW.alike hK, hD⟩, hS.F ht⟩) hS.2.2 dX6_signOf_139
    by_cases k_3 : a0 = (36 : Int32)
    · have h_4 : rg a0 36 36 := rg_and (rg_full _) (rg_of_eq k_3 (rg_k (36 : Int32) 36 rfl)) (by decide)
      refine lv_tov 36 k_3 ?_
      refine lv_tableIn (tgt := 164) hx hb dX6_signOf_1 (by decide) (by decide) rfl (by decide) ?_
      refine lv_bipush (v := 34) hx hb dX6_signOf_164 (by decide) ?_
      subst hQ
      exact W.iret (v := 34) hx hb hr (fun t1 ht hW => ⟨⟨34, (σ, I, J, ri, rj, rq), rfl, ⟨rfl, (rg_w (rg_k (34 : Int32) 34 rfl) (by decide))⟩, by rw [ht]; exact hP, va_K.moved hW.alike hK, hD⟩, hS.F ht⟩) hS.2.2 dX6_signOf_166
    by_cases k_5 : a0 = (37 : Int32)
    · have h_6 : rg a0 37 37 := rg_and (rg_full _) (rg_of_eq k_5 (rg_k (37 : Int32) 37 rfl)) (by decide)
      refine lv_tov 37 k_5 ?_
      refine lv_tableIn (tgt := 164) hx hb dX6_signOf_1 (by decide) (by decide) rfl (by decide) ?_
      refine lv_bipush (v := 34) hx hb dX6_signOf_164 (by decide) ?_
      subst hQ
      exact W.iret (v := 34) hx hb hr (fun t1 ht hW => ⟨⟨34, (σ, I, J, ri, rj, rq), rfl, ⟨rfl, (rg_w (rg_k (34 : Int32) 34 rfl) (by decide))⟩, by rw [ht]; exact hP, va_K.moved hW.alike hK, hD⟩, hS.F ht⟩) hS.2.2 dX6_signOf_166
    by_cases k_7 : a0 = (38 : Int32)
    · have h_8 : rg a0 38 38 := rg_and (rg_full _) (rg_of_eq k_7 (rg_k (38 : Int32) 38 rfl)) (by decide)
      refine lv_tov 38 k_7 ?_
      refine lv_tableIn (tgt := 164) hx hb dX6_signOf_1 (by decide) (by decide) rfl (by decide) ?_
      refine lv_bipush (v := 34) hx hb dX6_signOf_164 (by decide) ?_
      subst hQ
      exact W.iret (v := 34) hx hb hr (fun t1 ht hW => ⟨⟨34, (σ, I, J, ri, rj, rq), rfl, ⟨rfl, (rg_w (rg_k (34 : Int32) 34 rfl) (by decide))⟩, by rw [ht]; exact hP, va_K.moved hW.alike hK, hD⟩, hS.F ht⟩) hS.2.2 dX6_signOf_166
    by_cases k_9 : a0 = (39 : Int32)
    · have h_10 : rg a0 39 39 := rg_and (rg_full _) (rg_of_eq k_9 (rg_k (39 : Int32) 39 rfl)) (by decide)
      refine lv_tov 39 k_9 ?_
      refine lv_tableIn (tgt := 164) hx hb dX6_signOf_1 (by decide) (by decide) rfl (by decide) ?_
      refine lv_bipush (v := 34) hx hb dX6_signOf_164 (by decide) ?_
      subst hQ
      exact W.iret (v := 34) hx hb hr (fun t1 ht hW => ⟨⟨34, (σ, I, J, ri, rj, rq), rfl, ⟨rfl, (rg_w (rg_k (34 : Int32) 34 rfl) (by decide))⟩, by rw [ht]; exact hP, va_K.moved hW.alike hK, hD⟩, hS.F ht⟩) hS.2.2 dX6_signOf_166
    by_cases k_11 : a0 = (40 : Int32)
    · have h_12 : rg a0 40 40 := rg_and (rg_full _) (rg_of_eq k_11 (rg_k (40 : Int32) 40 rfl)) (by decide)
      refine lv_tov 40 k_11 ?_
      refine lv_tableIn (tgt := 152) hx hb dX6_signOf_1 (by decide) (by decide) rfl (by decide) ?_
      refine lv_bipush (v := 29) hx hb dX6_signOf_152 (by decide) ?_
      subst hQ
      exact W.iret (v := 29) hx hb hr (fun t1 ht hW => ⟨⟨29, (σ, I, J, ri, rj, rq), rfl, ⟨rfl, (rg_w (rg_k (29 : Int32) 29 rfl) (by decide))⟩, by rw [ht]; exact hP, va_K.moved hW.alike hK, hD⟩, hS.F ht⟩) hS.2.2 dX6_signOf_154
    by_cases k_13 : a0 = (41 : Int32)
    · have h_14 : rg a0 41 41 := rg_and (rg_full _) (rg_of_eq k_13 (rg_k (41 : Int32) 41 rfl)) (by decide)
      refine lv_tov 41 k_13 ?_
      refine lv_tableIn (tgt := 155) hx hb dX6_signOf_1 (by decide) (by decide) rfl (by decide) ?_
      refine lv_bipush (v := 30) hx hb dX6_signOf_155 (by decide) ?_
      subst hQ
      exact W.iret (v := 30) hx hb hr (fun t1 ht hW => ⟨⟨30, (σ, I, J, ri, rj, rq), rfl, ⟨rfl, (rg_w (rg_k (30 : Int32) 30 rfl) (by decide))⟩, by rw [ht]; exact hP, va_K.moved hW.alike hK, hD⟩, hS.F ht⟩) hS.2.2 dX6_signOf_157
    by_cases k_15 : a0 = (42 : Int32)
    · have h_16 : rg a0 42 42 := rg_and (rg_full _) (rg_of_eq k_15 (rg_k (42 : Int32) 42 rfl)) (by decide)
      refine lv_tov 42 k_15 ?_
      refine lv_tableIn (tgt := 146) hx hb dX6_signOf_1 (by decide) (by decide) rfl (by decide) ?_
      refine lv_bipush (v := 27) hx hb dX6_signOf_146 (by decide) ?_
      subst hQ
      exact W.iret (v := 27) hx hb hr (fun t1 ht hW => ⟨⟨27, (σ, I, J, ri, rj, rq), rfl, ⟨rfl, (rg_w (rg_k (27 : Int32) 27 rfl) (by decide))⟩, by rw [ht]; exact hP, va_K.moved hW.alike hK, hD⟩, hS.F ht⟩) hS.2.2 dX6_signOf_148
    by_cases k_17 : a0 = (43 : Int32)
    · have h_18 : rg a0 43 43 := rg_and (rg_full _) (rg_of_eq k_17 (rg_k (43 : Int32) 43 rfl)) (by decide)
      refine lv_tov 43 k_17 ?_
      refine lv_tableIn (tgt := 140) hx hb dX6_signOf_1 (by decide) (by decide) rfl (by decide) ?_
      refine lv_bipush (v := 25) hx hb dX6_signOf_140 (by decide) ?_
      subst hQ
      exact W.iret (v := 25) hx hb hr (fun t1 ht hW => ⟨⟨25, (σ, I, J, ri, rj, rq), rfl, ⟨rfl, (rg_w (rg_k (25 : Int32) 25 rfl) (by decide))⟩, by rw [ht]; exact hP, va_K.moved hW.alike hK, hD⟩, hS.F ht⟩) hS.2.2 dX6_signOf_142
    by_cases k_19 : a0 = (44 : Int32)
    · have h_20 : rg a0 44 44 := rg_and (rg_full _) (rg_of_eq k_19 (rg_k (44 : Int32) 44 rfl)) (by decide)
      refine lv_tov 44 k_19 ?_
      refine lv_tableIn (tgt := 158) hx hb dX6_signOf_1 (by decide) (by decide) rfl (by decide) ?_
      refine lv_bipush (v := 31) hx hb dX6_signOf_158 (by decide) ?_
      subst hQ
      exact W.iret (v := 31) hx hb hr (fun t1 ht hW => ⟨⟨31, (σ, I, J, ri, rj, rq), rfl, ⟨rfl, (rg_w (rg_k (31 : Int32) 31 rfl) (by decide))⟩, by rw [ht]; exact hP, va_K.moved hW.alike hK, hD⟩, hS.F ht⟩) hS.2.2 dX6_signOf_160
    by_cases k_21 : a0 = (45 : Int32)
    · have h_22 : rg a0 45 45 := rg_and (rg_full _) (rg_of_eq k_21 (rg_k (45 : Int32) 45 rfl)) (by decide)
      refine lv_tov 45 k_21 ?_
      refine lv_tableIn (tgt := 143) hx hb dX6_signOf_1 (by decide) (by decide) rfl (by decide) ?_
      refine lv_bipush (v := 26) hx hb dX6_signOf_143 (by decide) ?_
      subst hQ
      exact W.iret (v := 26) hx hb hr (fun t1 ht hW => ⟨⟨26, (σ, I, J, ri, rj, rq), rfl, ⟨rfl, (rg_w (rg_k (26 : Int32) 26 rfl) (by decide))⟩, by rw [ht]; exact hP, va_K.moved hW.alike hK, hD⟩, hS.F ht⟩) hS.2.2 dX6_signOf_145
    by_cases k_23 : a0 = (46 : Int32)
    · have h_24 : rg a0 46 46 := rg_and (rg_full _) (rg_of_eq k_23 (rg_k (46 : Int32) 46 rfl)) (by decide)
      refine lv_tov 46 k_23 ?_
      refine lv_tableIn (tgt := 164) hx hb dX6_signOf_1 (by decide) (by decide) rfl (by decide) ?_
      refine lv_bipush (v := 34) hx hb dX6_signOf_164 (by decide) ?_
      subst hQ
      exact W.iret (v := 34) hx hb hr (fun t1 ht hW => ⟨⟨34, (σ, I, J, ri, rj, rq), rfl, ⟨rfl, (rg_w (rg_k (34 : Int32) 34 rfl) (by decide))⟩, by rw [ht]; exact hP, va_K.moved hW.alike hK, hD⟩, hS.F ht⟩) hS.2.2 dX6_signOf_166
    by_cases k_25 : a0 = (47 : Int32)
    · have h_26 : rg a0 47 47 := rg_and (rg_full _) (rg_of_eq k_25 (rg_k (47 : Int32) 47 rfl)) (by decide)
      refine lv_tov 47 k_25 ?_
      refine lv_tableIn (tgt := 149) hx hb dX6_signOf_1 (by decide) (by decide) rfl (by decide) ?_
      refine lv_bipush (v := 28) hx hb dX6_signOf_149 (by decide) ?_
      subst hQ
      exact W.iret (v := 28) hx hb hr (fun t1 ht hW => ⟨⟨28, (σ, I, J, ri, rj, rq), rfl, ⟨rfl, (rg_w (rg_k (28 : Int32) 28 rfl) (by decide))⟩, by rw [ht]; exact hP, va_K.moved hW.alike hK, hD⟩, hS.F ht⟩) hS.2.2 dX6_signOf_151
    by_cases k_27 : a0 = (48 : Int32)
    · have h_28 : rg a0 48 48 := rg_and (rg_full _) (rg_of_eq k_27 (rg_k (48 : Int32) 48 rfl)) (by decide)
      refine lv_tov 48 k_27 ?_
      refine lv_tableIn (tgt := 164) hx hb dX6_signOf_1 (by decide) (by decide) rfl (by decide) ?_
      refine lv_bipush (v := 34) hx hb dX6_signOf_164 (by decide) ?_
      subst hQ
      exact W.iret (v := 34) hx hb hr (fun t1 ht hW => ⟨⟨34, (σ, I, J, ri, rj, rq), rfl, ⟨rfl, (rg_w (rg_k (34 : Int32) 34 rfl) (by decide))⟩, by rw [ht]; exact hP, va_K.moved hW.alike hK, hD⟩, hS.F ht⟩) hS.2.2 dX6_signOf_166
    by_cases k_29 : a0 = (49 : Int32)
    · have h_30 : rg a0 49 49 := rg_and (rg_full _) (rg_of_eq k_29 (rg_k (49 : Int32) 49 rfl)) (by decide)
      refine lv_tov 49 k_29 ?_
      refine lv_tableIn (tgt := 164) hx hb dX6_signOf_1 (by decide) (by decide) rfl (by decide) ?_
      refine lv_bipush (v := 34) hx hb dX6_signOf_164 (by decide) ?_
      subst hQ
      exact W.iret (v := 34) hx hb hr (fun t1 ht hW => ⟨⟨34, (σ, I, J, ri, rj, rq), rfl, ⟨rfl, (rg_w (rg_k (34 : Int32) 34 rfl) (by decide))⟩, by rw [ht]; exact hP, va_K.moved hW.alike hK, hD⟩, hS.F ht⟩) hS.2.2 dX6_signOf_166
    by_cases k_31 : a0 = (50 : Int32)
    · have h_32 : rg a0 50 50 := rg_and (rg_full _) (rg_of_eq k_31 (rg_k (50 : Int32) 50 rfl)) (by decide)
      refine lv_tov 50 k_31 ?_
      refine lv_tableIn (tgt := 164) hx hb dX6_signOf_1 (by decide) (by decide) rfl (by decide) ?_
      refine lv_bipush (v := 34) hx hb dX6_signOf_164 (by decide) ?_
      subst hQ
      exact W.iret (v := 34) hx hb hr (fun t1 ht hW => ⟨⟨34, (σ, I, J, ri, rj, rq), rfl, ⟨rfl, (rg_w (rg_k (34 : Int32) 34 rfl) (by decide))⟩, by rw [ht]; exact hP, va_K.moved hW.alike hK, hD⟩, hS.F ht⟩) hS.2.2 dX6_signOf_166
    by_cases k_33 : a0 = (51 : Int32)
    · have h_34 : rg a0 51 51 := rg_and (rg_full _) (rg_of_eq k_33 (rg_k (51 : Int32) 51 rfl)) (by decide)
      refine lv_tov 51 k_33 ?_
      refine lv_tableIn (tgt := 164) hx hb dX6_signOf_1 (by decide) (by decide) rfl (by decide) ?_
      refine lv_bipush (v := 34) hx hb dX6_signOf_164 (by decide) ?_
      subst hQ
      exact W.iret (v := 34) hx hb hr (fun t1 ht hW => ⟨⟨34, (σ, I, J, ri, rj, rq), rfl, ⟨rfl, (rg_w (rg_k (34 : Int32) 34 rfl) (by decide))⟩, by rw [ht]; exact hP, va_K.moved hW.alike hK, hD⟩, hS.F ht⟩) hS.2.2 dX6_signOf_166
    by_cases k_35 : a0 = (52 : Int32)
    · have h_36 : rg a0 52 52 := rg_and (rg_full _) (rg_of_eq k_35 (rg_k (52 : Int32) 52 rfl)) (by decide)
      refine lv_tov 52 k_35 ?_
      refine lv_tableIn (tgt := 164) hx hb dX6_signOf_1 (by decide) (by decide) rfl (by decide) ?_
      refine lv_bipush (v := 34) hx hb dX6_signOf_164 (by decide) ?_
      subst hQ
      exact W.iret (v := 34) hx hb hr (fun t1 ht hW => ⟨⟨34, (σ, I, J, ri, rj, rq), rfl, ⟨rfl, (rg_w (rg_k (34 : Int32) 34 rfl) (by decide))⟩, by rw [ht]; exact hP, va_K.moved hW.alike hK, hD⟩, hS.F ht⟩) hS.2.2 dX6_signOf_166
    by_cases k_37 : a0 = (53 : Int32)
    · have h_38 : rg a0 53 53 := rg_and (rg_full _) (rg_of_eq k_37 (rg_k (53 : Int32) 53 rfl)) (by decide)
      refine lv_tov 53 k_37 ?_
      refine lv_tableIn (tgt := 164) hx hb dX6_signOf_1 (by decide) (by decide) rfl (by decide) ?_
      refine lv_bipush (v := 34) hx hb dX6_signOf_164 (by decide) ?_
      subst hQ
      exact W.iret (v := 34) hx hb hr (fun t1 ht hW => ⟨⟨34, (σ, I, J, ri, rj, rq), rfl, ⟨rfl, (rg_w (rg_k (34 : Int32) 34 rfl) (by decide))⟩, by rw [ht]; exact hP, va_K.moved hW.alike hK, hD⟩, hS.F ht⟩) hS.2.2 dX6_signOf_166
    by_cases k_39 : a0 = (54 : Int32)
    · have h_40 : rg a0 54 54 := rg_and (rg_full _) (rg_of_eq k_39 (rg_k (54 : Int32) 54 rfl)) (by decide)
      refine lv_tov 54 k_39 ?_
      refine lv_tableIn (tgt := 164) hx hb dX6_signOf_1 (by decide) (by decide) rfl (by decide) ?_
      refine lv_bipush (v := 34) hx hb dX6_signOf_164 (by decide) ?_
      subst hQ
      exact W.iret (v := 34) hx hb hr (fun t1 ht hW => ⟨⟨34, (σ, I, J, ri, rj, rq), rfl, ⟨rfl, (rg_w (rg_k (34 : Int32) 34 rfl) (by decide))⟩, by rw [ht]; exact hP, va_K.moved hW.alike hK, hD⟩, hS.F ht⟩) hS.2.2 dX6_signOf_166
    by_cases k_41 : a0 = (55 : Int32)
    · have h_42 : rg a0 55 55 := rg_and (rg_full _) (rg_of_eq k_41 (rg_k (55 : Int32) 55 rfl)) (by decide)
      refine lv_tov 55 k_41 ?_
      refine lv_tableIn (tgt := 164) hx hb dX6_signOf_1 (by decide) (by decide) rfl (by decide) ?_
      refine lv_bipush (v := 34) hx hb dX6_signOf_164 (by decide) ?_
      subst hQ
      exact W.iret (v := 34) hx hb hr (fun t1 ht hW => ⟨⟨34, (σ, I, J, ri, rj, rq), rfl, ⟨rfl, (rg_w (rg_k (34 : Int32) 34 rfl) (by decide))⟩, by rw [ht]; exact hP, va_K.moved hW.alike hK, hD⟩, hS.F ht⟩) hS.2.2 dX6_signOf_166
    by_cases k_43 : a0 = (56 : Int32)
    · have h_44 : rg a0 56 56 := rg_and (rg_full _) (rg_of_eq k_43 (rg_k (56 : Int32) 56 rfl)) (by decide)
      refine lv_tov 56 k_43 ?_
      refine lv_tableIn (tgt := 164) hx hb dX6_signOf_1 (by decide) (by decide) rfl (by decide) ?_
      refine lv_bipush (v := 34) hx hb dX6_signOf_164 (by decide) ?_
      subst hQ
      exact W.iret (v := 34) hx hb hr (fun t1 ht hW => ⟨⟨34, (σ, I, J, ri, rj, rq), rfl, ⟨rfl, (rg_w (rg_k (34 : Int32) 34 rfl) (by decide))⟩, by rw [ht]; exact hP, va_K.moved hW.alike hK, hD⟩, hS.F ht⟩) hS.2.2 dX6_signOf_166
    by_cases k_45 : a0 = (57 : Int32)
    · have h_46 : rg a0 57 57 := rg_and (rg_full _) (rg_of_eq k_45 (rg_k (57 : Int32) 57 rfl)) (by decide)
      refine lv_tov 57 k_45 ?_
      refine lv_tableIn (tgt := 164) hx hb dX6_signOf_1 (by decide) (by decide) rfl (by decide) ?_
      refine lv_bipush (v := 34) hx hb dX6_signOf_164 (by decide) ?_
      subst hQ
      exact W.iret (v := 34) hx hb hr (fun t1 ht hW => ⟨⟨34, (σ, I, J, ri, rj, rq), rfl, ⟨rfl, (rg_w (rg_k (34 : Int32) 34 rfl) (by decide))⟩, by rw [ht]; exact hP, va_K.moved hW.alike hK, hD⟩, hS.F ht⟩) hS.2.2 dX6_signOf_166
    by_cases k_47 : a0 = (58 : Int32)
    · have h_48 : rg a0 58 58 := rg_and (rg_full _) (rg_of_eq k_47 (rg_k (58 : Int32) 58 rfl)) (by decide)
      refine lv_tov 58 k_47 ?_
      refine lv_tableIn (tgt := 164) hx hb dX6_signOf_1 (by decide) (by decide) rfl (by decide) ?_
      refine lv_bipush (v := 34) hx hb dX6_signOf_164 (by decide) ?_
      subst hQ
      exact W.iret (v := 34) hx hb hr (fun t1 ht hW => ⟨⟨34, (σ, I, J, ri, rj, rq), rfl, ⟨rfl, (rg_w (rg_k (34 : Int32) 34 rfl) (by decide))⟩, by rw [ht]; exact hP, va_K.moved hW.alike hK, hD⟩, hS.F ht⟩) hS.2.2 dX6_signOf_166
    by_cases k_49 : a0 = (59 : Int32)
    · have h_50 : rg a0 59 59 := rg_and (rg_full _) (rg_of_eq k_49 (rg_k (59 : Int32) 59 rfl)) (by decide)
      refine lv_tov 59 k_49 ?_
      refine lv_tableIn (tgt := 161) hx hb dX6_signOf_1 (by decide) (by decide) rfl (by decide) ?_
      refine lv_bipush (v := 32) hx hb dX6_signOf_161 (by decide) ?_
      subst hQ
      exact W.iret (v := 32) hx hb hr (fun t1 ht hW => ⟨⟨32, (σ, I, J, ri, rj, rq), rfl, ⟨rfl, (rg_w (rg_k (32 : Int32) 32 rfl) (by decide))⟩, by rw [ht]; exact hP, va_K.moved hW.alike hK, hD⟩, hS.F ht⟩) hS.2.2 dX6_signOf_163
    by_cases k_51 : a0 = (60 : Int32)
    · have h_52 : rg a0 60 60 := rg_and (rg_full _) (rg_of_eq k_51 (rg_k (60 : Int32) 60 rfl)) (by decide)
      refine lv_tov 60 k_51 ?_
      refine lv_tableIn (tgt := 128) hx hb dX6_signOf_1 (by decide) (by decide) rfl (by decide) ?_
      refine lv_bipush (v := 19) hx hb dX6_signOf_128 (by decide) ?_
      subst hQ
      exact W.iret (v := 19) hx hb hr (fun t1 ht hW => ⟨⟨19, (σ, I, J, ri, rj, rq), rfl, ⟨rfl, (rg_w (rg_k (19 : Int32) 19 rfl) (by decide))⟩, by rw [ht]; exact hP, va_K.moved hW.alike hK, hD⟩, hS.F ht⟩) hS.2.2 dX6_signOf_130
    by_cases k_53 : a0 = (61 : Int32)
    · have h_54 : rg a0 61 61 := rg_and (rg_full _) (rg_of_eq k_53 (rg_k (61 : Int32) 61 rfl)) (by decide)
      refine lv_tov 61 k_53 ?_
      refine lv_tableIn (tgt := 134) hx hb dX6_signOf_1 (by decide) (by decide) rfl (by decide) ?_
      refine lv_bipush (v := 23) hx hb dX6_signOf_134 (by decide) ?_
      subst hQ
      exact W.iret (v := 23) hx hb hr (fun t1 ht hW => ⟨⟨23, (σ, I, J, ri, rj, rq), rfl, ⟨rfl, (rg_w (rg_k (23 : Int32) 23 rfl) (by decide))⟩, by rw [ht]; exact hP, va_K.moved hW.alike hK, hD⟩, hS.F ht⟩) hS.2.2 dX6_signOf_136
    by_cases k_55 : a0 = (62 : Int32)
    · have h_56 : rg a0 62 62 := rg_and (rg_full _) (rg_of_eq k_55 (rg_k (62 : Int32) 62 rfl)) (by decide)
      refine lv_tov 62 k_55 ?_
      refine lv_tableIn (tgt := 131) hx hb dX6_signOf_1 (by decide) (by decide) rfl (by decide) ?_
      refine lv_bipush (v := 21) hx hb dX6_signOf_131 (by decide) ?_
      subst hQ
      exact W.iret (v := 21) hx hb hr (fun t1 ht hW => ⟨⟨21, (σ, I, J, ri, rj, rq), rfl, ⟨rfl, (rg_w (rg_k (21 : Int32) 21 rfl) (by decide))⟩, by rw [ht]; exact hP, va_K.moved hW.alike hK, hD⟩, hS.F ht⟩) hS.2.2 dX6_signOf_133
    refine lv_tableOut (tgt := 164) hx hb dX6_signOf_1 (by have z_k_1 := sw_ne k_1 (n := 35) rfl; have z_k_3 := sw_ne k_3 (n := 36) rfl; have z_k_5 := sw_ne k_5 (n := 37) rfl; have z_k_7 := sw_ne k_7 (n := 38) rfl; have z_k_9 := sw_ne k_9 (n := 39) rfl; have z_k_11 := sw_ne k_11 (n := 40) rfl; have z_k_13 := sw_ne k_13 (n := 41) rfl; have z_k_15 := sw_ne k_15 (n := 42) rfl; have z_k_17 := sw_ne k_17 (n := 43) rfl; have z_k_19 := sw_ne k_19 (n := 44) rfl; have z_k_21 := sw_ne k_21 (n := 45) rfl; have z_k_23 := sw_ne k_23 (n := 46) rfl; have z_k_25 := sw_ne k_25 (n := 47) rfl; have z_k_27 := sw_ne k_27 (n := 48) rfl; have z_k_29 := sw_ne k_29 (n := 49) rfl; have z_k_31 := sw_ne k_31 (n := 50) rfl; have z_k_33 := sw_ne k_33 (n := 51) rfl; have z_k_35 := sw_ne k_35 (n := 52) rfl; have z_k_37 := sw_ne k_37 (n := 53) rfl; have z_k_39 := sw_ne k_39 (n := 54) rfl; have z_k_41 := sw_ne k_41 (n := 55) rfl; have z_k_43 := sw_ne k_43 (n := 56) rfl; have z_k_45 := sw_ne k_45 (n := 57) rfl; have z_k_47 := sw_ne k_47 (n := 58) rfl; have z_k_49 := sw_ne k_49 (n := 59) rfl; have z_k_51 := sw_ne k_51 (n := 60) rfl; have z_k_53 := sw_ne k_53 (n := 61) rfl; have z_k_55 := sw_ne k_55 (n := 62) rfl; omega) (by decide) ?_
    refine lv_bipush (v := 34) hx hb dX6_signOf_164 (by decide) ?_
    subst hQ
    exact W.iret (v := 34) hx hb hr (fun t1 ht hW => ⟨⟨34, (σ, I, J, ri, rj, rq), rfl, ⟨rfl, (rg_w (rg_k (34 : Int32) 34 rfl) (by decide))⟩, by rw [ht]; exact hP, va_K.moved hW.alike hK, hD⟩, hS.F ht⟩) hS.2.2 dX6_signOf_166
  exact go _ _ _ hP hD hS hl

set_option maxHeartbeats 4000000 in
set_option maxRecDepth 100000 in
theorem s_X6_takeLonger (l : Launch) (D : va_G) (t : pq_T) (σ : pq_S) (I : Nat → Nat → Int32) (J : Nat → Nat → Int64) (ri : Nat → Nat → Int32) (rj : Nat → Nat → Int64) (rq : Nat → Nat → Option Nat) (sz : Nat) (tg : Nat → Nat) (hSH : SH σ tg) (hG0 : GS tg σ I ri rq) (this : Nat) (hL_this : this ∈ σ.1) (hK_this : σ.2.1 this = 6) : MetV l yX6_takeLonger (wa yX6_takeLonger cX6_takeLonger 2 none) ({ frames := 0, cells := 0, slots := 0, locals := 0 }) [.ref this] D t σ (I, J, ri, rj, rq) sz 0 0 (fun (u : pq_S × pq_M) => ∃ I' : Nat → Nat → Int32, u = (σ, I', J, ri, rj, rq) ∧ GX [] tg σ I I' ri rq) := by
  refine Met.ofW (cc := cX6_takeLonger) (maxL := 2) (ret := none) (by decide) rfl ?_
  intro p e s m args below meth c s₁ B hml hv
  obtain ⟨rfl, hsz, hP, hK, hD0, hN⟩ := hv
  have hx := B.exec
  have hb := B.bytes
  have hr := B.returns
  have hts := atoms_spec (ws := (wa yX6_takeLonger cX6_takeLonger 2 none)) B.pre
  have hown : s.vm.findClass RX6 = some m.cls := findClass_of_methodNamed B.named
  have hlocks := B.notSynchronized
  subst hsz
  have hD : va_D (pq_B t σ (I, J, ri, rj, rq) s.heap.size) (pq_P t σ (I, J, ri, rj, rq)) := hD0.self
  generalize hAe : pq_B t σ (I, J, ri, rj, rq) s.heap.size = A at hD ⊢
  have hA : ∀ q : Nat, s.heap.size ≤ q → A q := fun q h => by rw [← hAe]; exact Or.inr h
  have hS : va_S A s.heap s.heap [] := va_S.rf
  have hG : GX [] tg σ I I ri rq := ⟨hG0, fun _ _ _ => rfl⟩
  have hl := lv_entry ([.ref this]) (n := 2) (Nat.le_of_ble_eq_true rfl)
  rw [lg_entry_eq]
  generalize (lg_sl ([.ref this]) ++ List.replicate (2 - (lg_sl ([.ref this])).length) Slot.unset).toArray = ls at hl ⊢
  have hl : lv_has ls 2 [(0, .ref this)] := hl
  refine q_gen (fun Q hQ => ?_)
  have go : ∀ (H : Heap) (locs : List Loc) (ls : Array Slot), va_P D vwCl (pq_P t σ (I, J, ri, rj, rq)) H → va_D A (pq_P t σ (I, J, ri, rj, rq)) → va_S A s.heap H locs → lv_has ls 2 [(0, .ref this)] → W p l e ({ frames := 0, cells := 0, slots := 0, locals := 0 } : Room) s m (List.toArray ([.ref this] : List Value)) below meth c H locs 0 0 Q (F0 m 0 ls []) := by
    intro H locs ls hP hD hS hl
    refine lv_aload_n hx hb dX6_takeLonger_0 rfl (lv_at hl 0 rfl) ?_
    refine pg_f (v := .int (I 197 this)) (C := RX6) (T := TX6) (N := 6) hx hb hts (tw_i inlX6) hown hK hP hL_this hK_this (by decide) rfl 5 (by decide) (hts _ (tw_c tw_662)) rfl dX6_takeLonger_1 ?_
    have h_1 : rg (I 197 this) 0 300 := GX.rI hG 197 rfl
    refine lv_aload_n hx hb dX6_takeLonger_4 rfl (lv_at hl 0 rfl) ?_
    refine pg_f (v := .int (I 193 this)) (C := RX6) (T := TX6) (N := 6) hx hb hts (tw_i inlX6) hown hK hP hL_this hK_this (by decide) rfl 1 (by decide) (hts _ (tw_c tw_626)) rfl dX6_takeLonger_5 ?_
    have h_2 : rg (I 193 this) 0 300 := GX.rI hG 193 rfl
    have K_34 : ∀  (H : Heap) (locs : List Loc) (ls : Array Slot), rg (I 193 this) 1 300 → rg (I 197 this) 0 299 → GX [] tg σ I I ri rq → va_P D vwCl (pq_P t σ (I, J, ri, rj, rq)) H → va_D A (pq_P t σ (I, J, ri, rj, rq)) → va_S A s.heap H locs → lv_has ls 2 [(0, .ref this)] → W p l e ({ frames := 0, cells := 0, slots := 0, locals := 0 } : Room) s m (List.toArray ([.ref this] : List Value)) below meth c H locs 0 0 Q (F0 m 30 ls [.int 1]) := by
      intro H locs ls h_37 h_38 hG hP hD hS hl
      refine lv_istore_n (lv' := [(1, .int 1), (0, .ref this)]) hx hb dX6_takeLonger_30 rfl hl (by decide) rfl (fun ls hl => ?_)
      refine lv_iload_n hx hb dX6_takeLonger_31 rfl (lv_at hl 0 rfl) ?_
      refine lv_if_eq (tgt := 83) hx hb dX6_takeLonger_32 (by decide) (fun c_39 => absurd c_39 (by decide)) (fun c_39 => ?_)
      refine lv_aload_n hx hb dX6_takeLonger_35 rfl (lv_at hl 1 rfl) ?_
      refine pg_f (v := .int (I 194 this)) (C := RX6) (T := TX6) (N := 6) hx hb hts (tw_i inlX6) hown hK hP hL_this hK_this (by decide) rfl 2 (by decide) (hts _ (tw_c tw_668)) rfl dX6_takeLonger_36 ?_
      refine lv_bipush (v := 19) hx hb dX6_takeLonger_39 (by decide) ?_
      have K_60 : ∀  (H : Heap) (locs : List Loc) (ls : Array Slot), rg (I 194 this) 19 21 → GX [] tg σ I I ri rq → va_P D vwCl (pq_P t σ (I, J, ri, rj, rq)) H → va_D A (pq_P t σ (I, J, ri, rj, rq)) → va_S A s.heap H locs → lv_has ls 2 [(0, .ref this)] → W p l e ({ frames := 0, cells := 0, slots := 0, locals := 0 } : Room) s m (List.toArray ([.ref this] : List Value)) below meth c H locs 0 0 Q (F0 m 53 ls []) := by
        intro H locs ls h_62 hG hP hD hS hl
        refine lv_aload_n hx hb dX6_takeLonger_53 rfl (lv_at hl 0 rfl) ?_
        refine lv_aload_n hx hb dX6_takeLonger_54 rfl (lv_at hl 0 rfl) ?_
        refine pg_f (v := .int (I 194 this)) (C := RX6) (T := TX6) (N := 6) hx hb hts (tw_i inlX6) hown hK hP hL_this hK_this (by decide) rfl 2 (by decide) (hts _ (tw_c tw_668)) rfl dX6_takeLonger_55 ?_
        refine lv_bipush (v := 19) hx hb dX6_takeLonger_58 (by decide) ?_
        have K_78 : ∀  (H : Heap) (locs : List Loc) (ls : Array Slot), rg (I 194 this) 20 21 → GX [] tg σ I I ri rq → va_P D vwCl (pq_P t σ (I, J, ri, rj, rq)) H → va_D A (pq_P t σ (I, J, ri, rj, rq)) → va_S A s.heap H locs → lv_has ls 2 [(0, .ref this)] → W p l e ({ frames := 0, cells := 0, slots := 0, locals := 0 } : Room) s m (List.toArray ([.ref this] : List Value)) below meth c H locs 0 0 Q (F0 m 70 ls [.int 22, .ref this]) := by
          intro H locs ls h_80 hG hP hD hS hl
          refine pp_i (v := 22) (ty := .int) (C := RX6) (T := TX6) (N := 6) hx hb hts (tw_i inlX6) tyX6 tyX6_ok nmX6 hown hK hP hD hS hL_this hK_this (by decide) rfl 2 194 (by decide) (hts _ (tw_c tw_668)) rfl (by decide +kernel) rfl rfl (Nat.le_of_ble_eq_true rfl) (ps_194 _ _ _ _ _) dX6_takeLonger_70 (fun I_81 H locs eI_81 hP hD hS => ?_)
          have hG := GX.wI hG 194 rfl eI_81 (rg_w (rg_k (22 : Int32) 22 rfl) (by decide)) (by decide)
          refine lv_aload_n hx hb dX6_takeLonger_73 rfl (lv_at hl 0 rfl) ?_
          refine lv_dup hx hb dX6_takeLonger_74 rfl ?_
          refine pg_f (v := .int (I_81 197 this)) (C := RX6) (T := TX6) (N := 6) hx hb hts (tw_i inlX6) hown hK hP hL_this hK_this (by decide) rfl 5 (by decide) (hts _ (tw_c tw_662)) rfl dX6_takeLonger_75 ?_
          have h_82 : rg (I_81 197 this) 0 299 := (by rw [eI_81, pq_uf _ _ _ (by decide)]; exact h_38)
          refine lv_iconst (v := 1) hx hb dX6_takeLonger_78 (by decide) ?_
          refine lv_iadd hx hb dX6_takeLonger_79 ?_
          refine lv_topi (fun x_83 ex_83 => ?_)
          have h_84 : rg x_83 1 300 := rg_of_eq ex_83 (rg_add h_82 (rg_k (1 : Int32) 1 rfl) (by decide))
          refine pp_i (v := x_83) (ty := .int) (C := RX6) (T := TX6) (N := 6) hx hb hts (tw_i inlX6) tyX6 tyX6_ok nmX6 hown hK hP hD hS hL_this hK_this (by decide) rfl 5 197 (by decide) (hts _ (tw_c tw_662)) rfl (by decide +kernel) rfl rfl (Nat.le_of_ble_eq_true rfl) (ps_197 _ _ _ _ _) dX6_takeLonger_80 (fun I_85 H locs eI_85 hP hD hS => ?_)
          have hG := GX.wI hG 197 rfl eI_85 (rg_w h_84 (by decide)) (by decide)
          subst hQ
          exact W.vret hx hb hr (fun t1 ht hW => ⟨⟨(σ, I_85, J, ri, rj, rq), rfl, ⟨I_85, rfl, hG⟩, by rw [ht]; exact hP, va_K.moved hW.alike hK, hD⟩, hS.F ht⟩) hS.2.2 dX6_takeLonger_83
        have K_86 : ∀  (H : Heap) (locs : List Loc) (ls : Array Slot), rg (I 194 this) 19 19 → GX [] tg σ I I ri rq → va_P D vwCl (pq_P t σ (I, J, ri, rj, rq)) H → va_D A (pq_P t σ (I, J, ri, rj, rq)) → va_S A s.heap H locs → lv_has ls 2 [(0, .ref this)] → W p l e ({ frames := 0, cells := 0, slots := 0, locals := 0 } : Room) s m (List.toArray ([.ref this] : List Value)) below meth c H locs 0 0 Q (F0 m 70 ls [.int 20, .ref this]) := by
          intro H locs ls h_88 hG hP hD hS hl
          refine pp_i (v := 20) (ty := .int) (C := RX6) (T := TX6) (N := 6) hx hb hts (tw_i inlX6) tyX6 tyX6_ok nmX6 hown hK hP hD hS hL_this hK_this (by decide) rfl 2 194 (by decide) (hts _ (tw_c tw_668)) rfl (by decide +kernel) rfl rfl (Nat.le_of_ble_eq_true rfl) (ps_194 _ _ _ _ _) dX6_takeLonger_70 (fun I_89 H locs eI_89 hP hD hS => ?_)
          have hG := GX.wI hG 194 rfl eI_89 (rg_w (rg_k (20 : Int32) 20 rfl) (by decide)) (by decide)
          refine lv_aload_n hx hb dX6_takeLonger_73 rfl (lv_at hl 0 rfl) ?_
          refine lv_dup hx hb dX6_takeLonger_74 rfl ?_
          refine pg_f (v := .int (I_89 197 this)) (C := RX6) (T := TX6) (N := 6) hx hb hts (tw_i inlX6) hown hK hP hL_this hK_this (by decide) rfl 5 (by decide) (hts _ (tw_c tw_662)) rfl dX6_takeLonger_75 ?_
          have h_90 : rg (I_89 197 this) 0 299 := (by rw [eI_89, pq_uf _ _ _ (by decide)]; exact h_38)
          refine lv_iconst (v := 1) hx hb dX6_takeLonger_78 (by decide) ?_
          refine lv_iadd hx hb dX6_takeLonger_79 ?_
          refine lv_topi (fun x_91 ex_91 => ?_)
          have h_92 : rg x_91 1 300 := rg_of_eq ex_91 (rg_add h_90 (rg_k (1 : Int32) 1 rfl) (by decide))
          refine pp_i (v := x_91) (ty := .int) (C := RX6) (T := TX6) (N := 6) hx hb hts (tw_i inlX6) tyX6 tyX6_ok nmX6 hown hK hP hD hS hL_this hK_this (by decide) rfl 5 197 (by decide) (hts _ (tw_c tw_662)) rfl (by decide +kernel) rfl rfl (Nat.le_of_ble_eq_true rfl) (ps_197 _ _ _ _ _) dX6_takeLonger_80 (fun I_93 H locs eI_93 hP hD hS => ?_)
          have hG := GX.wI hG 197 rfl eI_93 (rg_w h_92 (by decide)) (by decide)
          subst hQ
          exact W.vret hx hb hr (fun t1 ht hW => ⟨⟨(σ, I_93, J, ri, rj, rq), rfl, ⟨I_93, rfl, hG⟩, by rw [ht]; exact hP, va_K.moved hW.alike hK, hD⟩, hS.F ht⟩) hS.2.2 dX6_takeLonger_83
        refine lv_icmp_ne (tgt := 68) hx hb dX6_takeLonger_60 (by decide) (fun c_94 => ?_) (fun c_94 => ?_)
        · have h_95 : rg (I 194 this) 20 21 := rg_ne c_94 h_62 19 rfl (by decide)
          refine lv_bipush (v := 22) hx hb dX6_takeLonger_68 (by decide) ?_
          exact K_78 _ _ _ (rg_w h_95 (by decide)) hG hP hD hS (lv_sub hl [0] rfl)
        · have h_96 : rg (I 194 this) 19 19 := rg_and h_62 (rg_of_eq c_94 (rg_k (19 : Int32) 19 rfl)) (by decide)
          refine lv_bipush (v := 20) hx hb dX6_takeLonger_63 (by decide) ?_
          refine lv_goto (tgt := 70) hx hb dX6_takeLonger_65 (by decide) ?_
          exact K_86 _ _ _ (rg_w h_96 (by decide)) hG hP hD hS (lv_sub hl [0] rfl)
      refine lv_icmp_eq (tgt := 53) hx hb dX6_takeLonger_41 (by decide) (fun c_97 => ?_) (fun c_97 => ?_)
      · have h_98 : rg (I 194 this) 19 19 := rg_and (rg_full _) (rg_of_eq c_97 (rg_k (19 : Int32) 19 rfl)) (by decide)
        exact K_60 _ _ _ (rg_w h_98 (by decide)) hG hP hD hS (lv_sub hl [1] rfl)
      · refine lv_aload_n hx hb dX6_takeLonger_44 rfl (lv_at hl 1 rfl) ?_
        refine pg_f (v := .int (I 194 this)) (C := RX6) (T := TX6) (N := 6) hx hb hts (tw_i inlX6) hown hK hP hL_this hK_this (by decide) rfl 2 (by decide) (hts _ (tw_c tw_668)) rfl dX6_takeLonger_45 ?_
        refine lv_bipush (v := 21) hx hb dX6_takeLonger_48 (by decide) ?_
        refine lv_icmp_ne (tgt := 83) hx hb dX6_takeLonger_50 (by decide) (fun c_99 => ?_) (fun c_99 => ?_)
        · subst hQ
          exact W.vret hx hb hr (fun t1 ht hW => ⟨⟨(σ, I, J, ri, rj, rq), rfl, ⟨I, rfl, hG⟩, by rw [ht]; exact hP, va_K.moved hW.alike hK, hD⟩, hS.F ht⟩) hS.2.2 dX6_takeLonger_83
        · have h_100 : rg (I 194 this) 21 21 := rg_and (rg_full _) (rg_of_eq c_99 (rg_k (21 : Int32) 21 rfl)) (by decide)
          exact K_60 _ _ _ (rg_w h_100 (by decide)) hG hP hD hS (lv_sub hl [1] rfl)
    have K_101 : ∀  (H : Heap) (locs : List Loc) (ls : Array Slot), GX [] tg σ I I ri rq → va_P D vwCl (pq_P t σ (I, J, ri, rj, rq)) H → va_D A (pq_P t σ (I, J, ri, rj, rq)) → va_S A s.heap H locs → lv_has ls 2 [(0, .ref this)] → W p l e ({ frames := 0, cells := 0, slots := 0, locals := 0 } : Room) s m (List.toArray ([.ref this] : List Value)) below meth c H locs 0 0 Q (F0 m 30 ls [.int 0]) := by
      intro H locs ls hG hP hD hS hl
      refine lv_istore_n (lv' := [(1, .int 0), (0, .ref this)]) hx hb dX6_takeLonger_30 rfl hl (by decide) rfl (fun ls hl => ?_)
      refine lv_iload_n hx hb dX6_takeLonger_31 rfl (lv_at hl 0 rfl) ?_
      refine lv_if_eq (tgt := 83) hx hb dX6_takeLonger_32 (by decide) (fun c_102 => ?_) (fun c_102 => absurd c_102 (by decide))
      subst hQ
      exact W.vret hx hb hr (fun t1 ht hW => ⟨⟨(σ, I, J, ri, rj, rq), rfl, ⟨I, rfl, hG⟩, by rw [ht]; exact hP, va_K.moved hW.alike hK, hD⟩, hS.F ht⟩) hS.2.2 dX6_takeLonger_83
    have K_103 : ∀  (H : Heap) (locs : List Loc) (ls : Array Slot), GX [] tg σ I I ri rq → va_P D vwCl (pq_P t σ (I, J, ri, rj, rq)) H → va_D A (pq_P t σ (I, J, ri, rj, rq)) → va_S A s.heap H locs → lv_has ls 2 [(0, .ref this)] → W p l e ({ frames := 0, cells := 0, slots := 0, locals := 0 } : Room) s m (List.toArray ([.ref this] : List Value)) below meth c H locs 0 0 Q (F0 m 29 ls []) := by
      intro H locs ls hG hP hD hS hl
      refine lv_iconst (v := 0) hx hb dX6_takeLonger_29 (by decide) ?_
      exact K_101 _ _ _ hG hP hD hS (lv_sub hl [0] rfl)
    refine lv_icmp_ge (tgt := 29) hx hb dX6_takeLonger_8 (by decide) (fun c_104 => ?_) (fun c_104 => ?_)
    · exact K_103 _ _ _ hG hP hD hS (lv_sub hl [0] rfl)
    · have h_105 : rg (I 197 this) 0 299 := rg_lt1 (nle c_104) h_1 h_2 (by decide)
      have h_106 : rg (I 193 this) 1 300 := rg_lt2 (nle c_104) h_1 h_2 (by decide)
      refine lv_aload_n hx hb dX6_takeLonger_11 rfl (lv_at hl 0 rfl) ?_
      obtain ⟨w_107, hR_w_107, hL_w_107, hK_w_107, hN_w_107, hT_w_107⟩ := sh_a hSH 192 (ci := 6) (kd := 13) (len := 300) rfl (by decide) hL_this hK_this
      refine pg_f (v := .ref w_107) (C := RX6) (T := TX6) (N := 6) hx hb hts (tw_i inlX6) hown hK hP hL_this hK_this (by decide) rfl 0 (by decide) (hts _ (tw_c tw_165)) (pq_hv rfl hR_w_107) dX6_takeLonger_12 ?_
      refine lv_aload_n hx hb dX6_takeLonger_15 rfl (lv_at hl 0 rfl) ?_
      refine pg_f (v := .int (I 197 this)) (C := RX6) (T := TX6) (N := 6) hx hb hts (tw_i inlX6) hown hK hP hL_this hK_this (by decide) rfl 5 (by decide) (hts _ (tw_c tw_662)) rfl dX6_takeLonger_16 ?_
      refine pl_i hx hb hK hP hL_w_107 hK_w_107 hN_w_107 (rg_in h_105 (by decide)) dX6_takeLonger_19 ?_
      refine lv_topi (fun x_108 ex_108 => ?_)
      refine lv_bipush (v := 61) hx hb dX6_takeLonger_20 (by decide) ?_
      refine lv_icmp_ne (tgt := 29) hx hb dX6_takeLonger_22 (by decide) (fun c_109 => ?_) (fun c_109 => ?_)
      · exact K_103 _ _ _ hG hP hD hS (lv_sub hl [0] rfl)
      · have h_110 : rg x_108 61 61 := rg_and (rg_full _) (rg_of_eq c_109 (rg_k (61 : Int32) 61 rfl)) (by decide)
        refine lv_iconst (v := 1) hx hb dX6_takeLonger_25 (by decide) ?_
        refine lv_goto (tgt := 30) hx hb dX6_takeLonger_26 (by decide) ?_
        exact K_34 _ _ _ (rg_w h_106 (by decide)) (rg_w h_105 (by decide)) hG hP hD hS (lv_sub hl [0] rfl)
  exact go _ _ _ hP hD hS hl
