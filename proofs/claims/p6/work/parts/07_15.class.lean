theorem dX5_lacksOf_0 : decode cX5_lacksOf 0 = .ok (.aload_n 2, 1) := oc_44 (by decide +kernel)
theorem dX5_lacksOf_1 : decode cX5_lacksOf 1 = .ok (.getfield 31, 3) := oc_180 (a := 0) (b := 31) (by decide +kernel)
theorem tw_1458 : Cond.fieldLink RX5 102 "RingsUnder$Land" "wells" "LRingsUnder$Wells;" ∈ wsL_law := sg_61 _ (List.mem_of_getElem? (i := 18) rfl)
theorem dX5_lacksOf_4 : decode cX5_lacksOf 4 = .ok (.getfield 102, 3) := oc_180 (a := 0) (b := 102) (by decide +kernel)
theorem dX5_lacksOf_7 : decode cX5_lacksOf 7 = .ok (.aload_n 1, 1) := oc_43 (by decide +kernel)
theorem dX5_lacksOf_8 : decode cX5_lacksOf 8 = .ok (.getfield 31, 3) := oc_180 (a := 0) (b := 31) (by decide +kernel)
theorem dX5_lacksOf_11 : decode cX5_lacksOf 11 = .ok (.getfield 102, 3) := oc_180 (a := 0) (b := 102) (by decide +kernel)
theorem tw_1465 : Cond.methodLink RX5 106 yX9_copyFrom ∈ wsL_law := sg_62 _ (List.mem_of_getElem? (i := 1) rfl)
theorem dX5_lacksOf_14 : decode cX5_lacksOf 14 = .ok (.invokevirtual 106, 3) := oc_182 (a := 0) (b := 106) (by decide +kernel)
theorem dX5_lacksOf_17 : decode cX5_lacksOf 17 = .ok (.aload_n 1, 1) := oc_43 (by decide +kernel)
theorem dX5_lacksOf_18 : decode cX5_lacksOf 18 = .ok (.getfield 68, 3) := oc_180 (a := 0) (b := 68) (by decide +kernel)
theorem dX5_lacksOf_21 : decode cX5_lacksOf 21 = .ok (.getfield 112, 3) := oc_180 (a := 0) (b := 112) (by decide +kernel)
theorem dX5_lacksOf_24 : decode cX5_lacksOf 24 = .ok (.aload_n 2, 1) := oc_44 (by decide +kernel)
theorem dX5_lacksOf_25 : decode cX5_lacksOf 25 = .ok (.getfield 68, 3) := oc_180 (a := 0) (b := 68) (by decide +kernel)
theorem dX5_lacksOf_28 : decode cX5_lacksOf 28 = .ok (.getfield 112, 3) := oc_180 (a := 0) (b := 112) (by decide +kernel)
theorem dX5_lacksOf_31 : decode cX5_lacksOf 31 = .ok (.invokestatic 60, 3) := oc_184 (a := 0) (b := 60) (by decide +kernel)
theorem dX5_lacksOf_34 : decode cX5_lacksOf 34 = .ok (.aload_n 0, 1) := oc_42 (by decide +kernel)
theorem dX5_lacksOf_35 : decode cX5_lacksOf 35 = .ok (.aload_n 1, 1) := oc_43 (by decide +kernel)
theorem dX5_lacksOf_36 : decode cX5_lacksOf 36 = .ok (.getfield 68, 3) := oc_180 (a := 0) (b := 68) (by decide +kernel)
theorem dX5_lacksOf_39 : decode cX5_lacksOf 39 = .ok (.aload_n 1, 1) := oc_43 (by decide +kernel)
theorem dX5_lacksOf_40 : decode cX5_lacksOf 40 = .ok (.getfield 31, 3) := oc_180 (a := 0) (b := 31) (by decide +kernel)
theorem tw_1439 : Cond.fieldLink RX5 37 "RingsUnder$Land" "rings" "I" ∈ wsL_law := sg_60 _ (List.mem_of_getElem? (i := 23) rfl)
theorem dX5_lacksOf_43 : decode cX5_lacksOf 43 = .ok (.getfield 37, 3) := oc_180 (a := 0) (b := 37) (by decide +kernel)
theorem tw_1466 : Cond.methodLink RX5 115 yX5_lineUp ∈ wsL_law := sg_62 _ (List.mem_of_getElem? (i := 2) rfl)
theorem tw_1467 : Cond.instanceMethod yX5_lineUp ∈ wsL_law := sg_62 _ (List.mem_of_getElem? (i := 3) rfl)
theorem tw_1468 : Cond.selects RX5 yX5_lineUp yX5_lineUp ∈ wsL_law := sg_62 _ (List.mem_of_getElem? (i := 4) rfl)
theorem tw_21 : Cond.initialized RX5 ∈ wsL_law := sg_1 _ (List.mem_of_getElem? (i := 21) rfl)
theorem tw_1469 : Cond.code yX5_lineUp cX5_lineUp 5 none ∈ wsL_law := sg_62 _ (List.mem_of_getElem? (i := 5) rfl)
theorem dX5_lacksOf_46 : decode cX5_lacksOf 46 = .ok (.invokevirtual 115, 3) := oc_182 (a := 0) (b := 115) (by decide +kernel)
theorem dX5_lacksOf_49 : decode cX5_lacksOf 49 = .ok (.iconst 0, 1) := oc_3 (by decide +kernel)
theorem dX5_lacksOf_50 : decode cX5_lacksOf 50 = .ok (.istore 4, 2) := oc_54 (by decide +kernel)
theorem dX5_lacksOf_52 : decode cX5_lacksOf 52 = .ok (.iconst 0, 1) := oc_3 (by decide +kernel)
theorem dX5_lacksOf_53 : decode cX5_lacksOf 53 = .ok (.istore 5, 2) := oc_54 (by decide +kernel)
theorem dX5_lacksOf_55 : decode cX5_lacksOf 55 = .ok (.iload 5, 2) := oc_21 (by decide +kernel)
theorem dX5_lacksOf_57 : decode cX5_lacksOf 57 = .ok (.iload_n 3, 1) := oc_29 (by decide +kernel)
theorem dX5_lacksOf_193 : decode cX5_lacksOf 193 = .ok (.iload 4, 2) := oc_21 (by decide +kernel)
theorem dX5_lacksOf_195 : decode cX5_lacksOf 195 = .ok (.ireturn, 1) := oc_172 (by decide +kernel)
theorem dX5_lacksOf_58 : decode cX5_lacksOf 58 = .ok (.if_icmp .ge 135, 3) := oc_162 (a := 0) (b := 135) (by decide +kernel)
theorem dX5_lacksOf_61 : decode cX5_lacksOf 61 = .ok (.iload 4, 2) := oc_21 (by decide +kernel)
theorem dX5_lacksOf_63 : decode cX5_lacksOf 63 = .ok (.aload_n 0, 1) := oc_42 (by decide +kernel)
theorem tw_1441 : Cond.fieldLink RX5 53 "RingsUnder$RingOrders" "least" "I" ∈ wsL_law := sg_61 _ (List.mem_of_getElem? (i := 1) rfl)
theorem dX5_lacksOf_64 : decode cX5_lacksOf 64 = .ok (.getfield 53, 3) := oc_180 (a := 0) (b := 53) (by decide +kernel)
theorem dX5_lacksOf_67 : decode cX5_lacksOf 67 = .ok (.if_icmp .ge 126, 3) := oc_162 (a := 0) (b := 126) (by decide +kernel)
theorem dX5_lacksOf_70 : decode cX5_lacksOf 70 = .ok (.aload_n 1, 1) := oc_43 (by decide +kernel)
theorem dX5_lacksOf_71 : decode cX5_lacksOf 71 = .ok (.getfield 93, 3) := oc_180 (a := 0) (b := 93) (by decide +kernel)
theorem dX5_lacksOf_74 : decode cX5_lacksOf 74 = .ok (.iload 5, 2) := oc_21 (by decide +kernel)
theorem dX5_lacksOf_76 : decode cX5_lacksOf 76 = .ok (.iadd, 1) := oc_96 (by decide +kernel)
theorem dX5_lacksOf_77 : decode cX5_lacksOf 77 = .ok (.istore 6, 2) := oc_54 (by decide +kernel)
theorem dX5_lacksOf_79 : decode cX5_lacksOf 79 = .ok (.aload_n 2, 1) := oc_44 (by decide +kernel)
theorem dX5_lacksOf_80 : decode cX5_lacksOf 80 = .ok (.getfield 31, 3) := oc_180 (a := 0) (b := 31) (by decide +kernel)
theorem dX5_lacksOf_83 : decode cX5_lacksOf 83 = .ok (.getfield 102, 3) := oc_180 (a := 0) (b := 102) (by decide +kernel)
theorem dX5_lacksOf_86 : decode cX5_lacksOf 86 = .ok (.aload_n 2, 1) := oc_44 (by decide +kernel)
theorem dX5_lacksOf_87 : decode cX5_lacksOf 87 = .ok (.getfield 31, 3) := oc_180 (a := 0) (b := 31) (by decide +kernel)
theorem tw_1460 : Cond.fieldLink RX5 119 "RingsUnder$Land" "cells" "I" ∈ wsL_law := sg_61 _ (List.mem_of_getElem? (i := 20) rfl)
theorem dX5_lacksOf_90 : decode cX5_lacksOf 90 = .ok (.getfield 119, 3) := oc_180 (a := 0) (b := 119) (by decide +kernel)
theorem dX5_lacksOf_93 : decode cX5_lacksOf 93 = .ok (.aload_n 0, 1) := oc_42 (by decide +kernel)
theorem dX5_lacksOf_94 : decode cX5_lacksOf 94 = .ok (.getfield 21, 3) := oc_180 (a := 0) (b := 21) (by decide +kernel)
theorem dX5_lacksOf_97 : decode cX5_lacksOf 97 = .ok (.iload 5, 2) := oc_21 (by decide +kernel)
theorem dX5_lacksOf_99 : decode cX5_lacksOf 99 = .ok (.laload, 1) := oc_47 (by decide +kernel)
theorem dX5_lacksOf_100 : decode cX5_lacksOf 100 = .ok (.aload_n 1, 1) := oc_43 (by decide +kernel)
theorem tw_1461 : Cond.fieldLink RX5 122 "RingsUnder$World" "seas" "LRingsUnder$Seas;" ∈ wsL_law := sg_61 _ (List.mem_of_getElem? (i := 21) rfl)
theorem dX5_lacksOf_101 : decode cX5_lacksOf 101 = .ok (.getfield 122, 3) := oc_180 (a := 0) (b := 122) (by decide +kernel)
theorem tw_1462 : Cond.fieldLink RX5 126 "RingsUnder$Seas" "rain" "[I" ∈ wsL_law := sg_61 _ (List.mem_of_getElem? (i := 22) rfl)
theorem dX5_lacksOf_104 : decode cX5_lacksOf 104 = .ok (.getfield 126, 3) := oc_180 (a := 0) (b := 126) (by decide +kernel)
theorem dX5_lacksOf_107 : decode cX5_lacksOf 107 = .ok (.iload 6, 2) := oc_21 (by decide +kernel)
theorem dX5_lacksOf_109 : decode cX5_lacksOf 109 = .ok (.bipush 12, 2) := oc_16 (a := 12) (by decide +kernel)
theorem dX5_lacksOf_111 : decode cX5_lacksOf 111 = .ok (.irem, 1) := oc_112 (by decide +kernel)
theorem dX5_lacksOf_112 : decode cX5_lacksOf 112 = .ok (.iaload, 1) := oc_46 (by decide +kernel)
theorem tw_1471 : Cond.methodLink RX5 131 yX9_fillUp ∈ wsL_law := sg_62 _ (List.mem_of_getElem? (i := 7) rfl)
theorem tw_1084 : Cond.instanceMethod yX9_fillUp ∈ wsL_law := sg_46 _ (List.mem_of_getElem? (i := 4) rfl)
theorem tw_1085 : Cond.selects RX9 yX9_fillUp yX9_fillUp ∈ wsL_law := sg_46 _ (List.mem_of_getElem? (i := 5) rfl)
theorem tw_1086 : Cond.code yX9_fillUp cX9_fillUp 6 none ∈ wsL_law := sg_46 _ (List.mem_of_getElem? (i := 6) rfl)
theorem dX5_lacksOf_113 : decode cX5_lacksOf 113 = .ok (.invokevirtual 131, 3) := oc_182 (a := 0) (b := 131) (by decide +kernel)
theorem dX5_lacksOf_116 : decode cX5_lacksOf 116 = .ok (.iload 4, 2) := oc_21 (by decide +kernel)
theorem dX5_lacksOf_118 : decode cX5_lacksOf 118 = .ok (.aload_n 2, 1) := oc_44 (by decide +kernel)
theorem dX5_lacksOf_119 : decode cX5_lacksOf 119 = .ok (.getfield 68, 3) := oc_180 (a := 0) (b := 68) (by decide +kernel)
theorem dX5_lacksOf_122 : decode cX5_lacksOf 122 = .ok (.aload_n 2, 1) := oc_44 (by decide +kernel)
theorem dX5_lacksOf_123 : decode cX5_lacksOf 123 = .ok (.getfield 31, 3) := oc_180 (a := 0) (b := 31) (by decide +kernel)
theorem tw_1472 : Cond.methodLink RX5 135 yX0_drink ∈ wsL_law := sg_62 _ (List.mem_of_getElem? (i := 8) rfl)
theorem tw_1095 : Cond.instanceMethod yX0_drink ∈ wsL_law := sg_46 _ (List.mem_of_getElem? (i := 15) rfl)
theorem tw_1096 : Cond.selects RX0 yX0_drink yX0_drink ∈ wsL_law := sg_46 _ (List.mem_of_getElem? (i := 16) rfl)
theorem tw_1097 : Cond.code yX0_drink cX0_drink 5 (some .int) ∈ wsL_law := sg_46 _ (List.mem_of_getElem? (i := 17) rfl)
theorem dX5_lacksOf_126 : decode cX5_lacksOf 126 = .ok (.invokevirtual 135, 3) := oc_182 (a := 0) (b := 135) (by decide +kernel)
theorem dX5_lacksOf_129 : decode cX5_lacksOf 129 = .ok (.iadd, 1) := oc_96 (by decide +kernel)
theorem dX5_lacksOf_130 : decode cX5_lacksOf 130 = .ok (.istore 4, 2) := oc_54 (by decide +kernel)
theorem dX5_lacksOf_132 : decode cX5_lacksOf 132 = .ok (.iload 4, 2) := oc_21 (by decide +kernel)
theorem dX5_lacksOf_134 : decode cX5_lacksOf 134 = .ok (.aload_n 2, 1) := oc_44 (by decide +kernel)
theorem dX5_lacksOf_135 : decode cX5_lacksOf 135 = .ok (.getfield 68, 3) := oc_180 (a := 0) (b := 68) (by decide +kernel)
theorem dX5_lacksOf_138 : decode cX5_lacksOf 138 = .ok (.aload_n 0, 1) := oc_42 (by decide +kernel)
theorem dX5_lacksOf_139 : decode cX5_lacksOf 139 = .ok (.getfield 25, 3) := oc_180 (a := 0) (b := 25) (by decide +kernel)
theorem dX5_lacksOf_142 : decode cX5_lacksOf 142 = .ok (.iload 5, 2) := oc_21 (by decide +kernel)
theorem dX5_lacksOf_144 : decode cX5_lacksOf 144 = .ok (.iconst 5, 1) := oc_8 (by decide +kernel)
theorem dX5_lacksOf_145 : decode cX5_lacksOf 145 = .ok (.imul, 1) := oc_104 (by decide +kernel)
theorem tw_1473 : Cond.methodLink RX5 139 yX0_sleep ∈ wsL_law := sg_62 _ (List.mem_of_getElem? (i := 9) rfl)
theorem tw_1121 : Cond.instanceMethod yX0_sleep ∈ wsL_law := sg_47 _ (List.mem_of_getElem? (i := 17) rfl)
theorem tw_1122 : Cond.selects RX0 yX0_sleep yX0_sleep ∈ wsL_law := sg_47 _ (List.mem_of_getElem? (i := 18) rfl)
theorem tw_1123 : Cond.code yX0_sleep cX0_sleep 5 (some .int) ∈ wsL_law := sg_47 _ (List.mem_of_getElem? (i := 19) rfl)
theorem dX5_lacksOf_146 : decode cX5_lacksOf 146 = .ok (.invokevirtual 139, 3) := oc_182 (a := 0) (b := 139) (by decide +kernel)
theorem dX5_lacksOf_149 : decode cX5_lacksOf 149 = .ok (.iadd, 1) := oc_96 (by decide +kernel)
theorem dX5_lacksOf_150 : decode cX5_lacksOf 150 = .ok (.istore 4, 2) := oc_54 (by decide +kernel)
theorem dX5_lacksOf_152 : decode cX5_lacksOf 152 = .ok (.aload_n 1, 1) := oc_43 (by decide +kernel)
theorem tw_1463 : Cond.fieldLink RX5 143 "RingsUnder$World" "boats" "I" ∈ wsL_law := sg_61 _ (List.mem_of_getElem? (i := 23) rfl)
theorem dX5_lacksOf_153 : decode cX5_lacksOf 153 = .ok (.getfield 143, 3) := oc_180 (a := 0) (b := 143) (by decide +kernel)
theorem dX5_lacksOf_187 : decode cX5_lacksOf 187 = .ok (.iinc 5 1, 3) := oc_132 (b := 1) (by decide +kernel)
theorem dX5_lacksOf_190 : decode cX5_lacksOf 190 = .ok (.goto (-135), 3) := oc_167 (a := 255) (b := 121) (by decide +kernel)
theorem dX5_lacksOf_156 : decode cX5_lacksOf 156 = .ok (.ifCond .le 31, 3) := oc_158 (a := 0) (b := 31) (by decide +kernel)
theorem dX5_lacksOf_159 : decode cX5_lacksOf 159 = .ok (.aload_n 2, 1) := oc_44 (by decide +kernel)
theorem dX5_lacksOf_160 : decode cX5_lacksOf 160 = .ok (.getfield 68, 3) := oc_180 (a := 0) (b := 68) (by decide +kernel)
theorem dX5_lacksOf_163 : decode cX5_lacksOf 163 = .ok (.aload_n 0, 1) := oc_42 (by decide +kernel)
theorem dX5_lacksOf_164 : decode cX5_lacksOf 164 = .ok (.getfield 28, 3) := oc_180 (a := 0) (b := 28) (by decide +kernel)
theorem dX5_lacksOf_167 : decode cX5_lacksOf 167 = .ok (.iload 5, 2) := oc_21 (by decide +kernel)
theorem dX5_lacksOf_169 : decode cX5_lacksOf 169 = .ok (.laload, 1) := oc_47 (by decide +kernel)
theorem dX5_lacksOf_170 : decode cX5_lacksOf 170 = .ok (.aload_n 0, 1) := oc_42 (by decide +kernel)
theorem dX5_lacksOf_171 : decode cX5_lacksOf 171 = .ok (.getfield 18, 3) := oc_180 (a := 0) (b := 18) (by decide +kernel)
theorem dX5_lacksOf_174 : decode cX5_lacksOf 174 = .ok (.aload_n 0, 1) := oc_42 (by decide +kernel)
theorem dX5_lacksOf_175 : decode cX5_lacksOf 175 = .ok (.getfield 146, 3) := oc_180 (a := 0) (b := 146) (by decide +kernel)
theorem dX5_lacksOf_178 : decode cX5_lacksOf 178 = .ok (.aload_n 1, 1) := oc_43 (by decide +kernel)
theorem dX5_lacksOf_179 : decode cX5_lacksOf 179 = .ok (.getfield 143, 3) := oc_180 (a := 0) (b := 143) (by decide +kernel)
theorem dX5_lacksOf_182 : decode cX5_lacksOf 182 = .ok (.iload 6, 2) := oc_21 (by decide +kernel)
theorem tw_1474 : Cond.methodLink RX5 149 yX0_board ∈ wsL_law := sg_62 _ (List.mem_of_getElem? (i := 10) rfl)
theorem tw_1168 : Cond.instanceMethod yX0_board ∈ wsL_law := sg_49 _ (List.mem_of_getElem? (i := 16) rfl)
theorem tw_1169 : Cond.selects RX0 yX0_board yX0_board ∈ wsL_law := sg_49 _ (List.mem_of_getElem? (i := 17) rfl)
theorem tw_1170 : Cond.code yX0_board cX0_board 11 none ∈ wsL_law := sg_49 _ (List.mem_of_getElem? (i := 18) rfl)
theorem dX5_lacksOf_184 : decode cX5_lacksOf 184 = .ok (.invokevirtual 149, 3) := oc_182 (a := 0) (b := 149) (by decide +kernel)
theorem dX5_swap_0 : decode cX5_swap 0 = .ok (.aload_n 0, 1) := oc_42 (by decide +kernel)
theorem dX5_swap_1 : decode cX5_swap 1 = .ok (.getfield 15, 3) := oc_180 (a := 0) (b := 15) (by decide +kernel)
theorem dX5_swap_4 : decode cX5_swap 4 = .ok (.iload_n 1, 1) := oc_27 (by decide +kernel)
theorem dX5_swap_5 : decode cX5_swap 5 = .ok (.iaload, 1) := oc_46 (by decide +kernel)
theorem dX5_swap_6 : decode cX5_swap 6 = .ok (.istore_n 3, 1) := oc_62 (by decide +kernel)
theorem dX5_swap_7 : decode cX5_swap 7 = .ok (.aload_n 0, 1) := oc_42 (by decide +kernel)
theorem dX5_swap_8 : decode cX5_swap 8 = .ok (.getfield 15, 3) := oc_180 (a := 0) (b := 15) (by decide +kernel)
theorem dX5_swap_11 : decode cX5_swap 11 = .ok (.iload_n 1, 1) := oc_27 (by decide +kernel)
theorem dX5_swap_12 : decode cX5_swap 12 = .ok (.aload_n 0, 1) := oc_42 (by decide +kernel)
theorem dX5_swap_13 : decode cX5_swap 13 = .ok (.getfield 15, 3) := oc_180 (a := 0) (b := 15) (by decide +kernel)
theorem dX5_swap_16 : decode cX5_swap 16 = .ok (.iload_n 2, 1) := oc_28 (by decide +kernel)
theorem dX5_swap_17 : decode cX5_swap 17 = .ok (.iaload, 1) := oc_46 (by decide +kernel)
theorem dX5_swap_18 : decode cX5_swap 18 = .ok (.iastore, 1) := oc_79 (by decide +kernel)
theorem dX5_swap_19 : decode cX5_swap 19 = .ok (.aload_n 0, 1) := oc_42 (by decide +kernel)
theorem dX5_swap_20 : decode cX5_swap 20 = .ok (.getfield 15, 3) := oc_180 (a := 0) (b := 15) (by decide +kernel)
theorem dX5_swap_23 : decode cX5_swap 23 = .ok (.iload_n 2, 1) := oc_28 (by decide +kernel)
theorem dX5_swap_24 : decode cX5_swap 24 = .ok (.iload_n 3, 1) := oc_29 (by decide +kernel)
theorem dX5_swap_25 : decode cX5_swap 25 = .ok (.iastore, 1) := oc_79 (by decide +kernel)
theorem dX5_swap_26 : decode cX5_swap 26 = .ok (.return_, 1) := oc_177 (by decide +kernel)
theorem dX5_toNextOrder_0 : decode cX5_toNextOrder 0 = .ok (.iload_n 1, 1) := oc_27 (by decide +kernel)
theorem dX5_toNextOrder_1 : decode cX5_toNextOrder 1 = .ok (.iconst 2, 1) := oc_5 (by decide +kernel)
theorem dX5_toNextOrder_2 : decode cX5_toNextOrder 2 = .ok (.isub, 1) := oc_100 (by decide +kernel)
theorem dX5_toNextOrder_3 : decode cX5_toNextOrder 3 = .ok (.istore_n 2, 1) := oc_61 (by decide +kernel)
theorem dX5_toNextOrder_4 : decode cX5_toNextOrder 4 = .ok (.iload_n 2, 1) := oc_28 (by decide +kernel)
theorem dX5_toNextOrder_31 : decode cX5_toNextOrder 31 = .ok (.iload_n 2, 1) := oc_28 (by decide +kernel)
theorem dX5_toNextOrder_32 : decode cX5_toNextOrder 32 = .ok (.ifCond .ge 5, 3) := oc_156 (a := 0) (b := 5) (by decide +kernel)
theorem dX5_toNextOrder_37 : decode cX5_toNextOrder 37 = .ok (.iload_n 1, 1) := oc_27 (by decide +kernel)
theorem dX5_toNextOrder_38 : decode cX5_toNextOrder 38 = .ok (.iconst 1, 1) := oc_4 (by decide +kernel)
theorem dX5_toNextOrder_39 : decode cX5_toNextOrder 39 = .ok (.isub, 1) := oc_100 (by decide +kernel)
theorem dX5_toNextOrder_40 : decode cX5_toNextOrder 40 = .ok (.istore_n 3, 1) := oc_62 (by decide +kernel)
theorem dX5_toNextOrder_41 : decode cX5_toNextOrder 41 = .ok (.iload_n 3, 1) := oc_29 (by decide +kernel)
theorem dX5_toNextOrder_42 : decode cX5_toNextOrder 42 = .ok (.iload_n 2, 1) := oc_28 (by decide +kernel)
theorem dX5_toNextOrder_67 : decode cX5_toNextOrder 67 = .ok (.aload_n 0, 1) := oc_42 (by decide +kernel)
theorem dX5_toNextOrder_68 : decode cX5_toNextOrder 68 = .ok (.iload_n 2, 1) := oc_28 (by decide +kernel)
theorem dX5_toNextOrder_69 : decode cX5_toNextOrder 69 = .ok (.iload_n 3, 1) := oc_29 (by decide +kernel)
theorem tw_1479 : Cond.methodLink RX5 156 yX5_swap ∈ wsL_law := sg_62 _ (List.mem_of_getElem? (i := 15) rfl)
theorem tw_1480 : Cond.instanceMethod yX5_swap ∈ wsL_law := sg_62 _ (List.mem_of_getElem? (i := 16) rfl)
theorem tw_1481 : Cond.selects RX5 yX5_swap yX5_swap ∈ wsL_law := sg_62 _ (List.mem_of_getElem? (i := 17) rfl)
theorem tw_1482 : Cond.code yX5_swap cX5_swap 4 none ∈ wsL_law := sg_62 _ (List.mem_of_getElem? (i := 18) rfl)
theorem dX5_toNextOrder_70 : decode cX5_toNextOrder 70 = .ok (.invokevirtual 156, 3) := oc_182 (a := 0) (b := 156) (by decide +kernel)
theorem dX5_toNextOrder_73 : decode cX5_toNextOrder 73 = .ok (.iload_n 2, 1) := oc_28 (by decide +kernel)
theorem dX5_toNextOrder_74 : decode cX5_toNextOrder 74 = .ok (.iconst 1, 1) := oc_4 (by decide +kernel)
theorem dX5_toNextOrder_75 : decode cX5_toNextOrder 75 = .ok (.iadd, 1) := oc_96 (by decide +kernel)
theorem dX5_toNextOrder_76 : decode cX5_toNextOrder 76 = .ok (.istore 4, 2) := oc_54 (by decide +kernel)
theorem dX5_toNextOrder_78 : decode cX5_toNextOrder 78 = .ok (.iload_n 1, 1) := oc_27 (by decide +kernel)
theorem dX5_toNextOrder_79 : decode cX5_toNextOrder 79 = .ok (.iconst 1, 1) := oc_4 (by decide +kernel)
theorem dX5_toNextOrder_80 : decode cX5_toNextOrder 80 = .ok (.isub, 1) := oc_100 (by decide +kernel)
theorem dX5_toNextOrder_81 : decode cX5_toNextOrder 81 = .ok (.istore 5, 2) := oc_54 (by decide +kernel)
theorem dX5_toNextOrder_83 : decode cX5_toNextOrder 83 = .ok (.iload 4, 2) := oc_21 (by decide +kernel)
theorem dX5_toNextOrder_85 : decode cX5_toNextOrder 85 = .ok (.iload 5, 2) := oc_21 (by decide +kernel)
theorem dX5_toNextOrder_87 : decode cX5_toNextOrder 87 = .ok (.if_icmp .ge 20, 3) := oc_162 (a := 0) (b := 20) (by decide +kernel)
theorem dX5_toNextOrder_107 : decode cX5_toNextOrder 107 = .ok (.iconst 1, 1) := oc_4 (by decide +kernel)
theorem dX5_toNextOrder_108 : decode cX5_toNextOrder 108 = .ok (.ireturn, 1) := oc_172 (by decide +kernel)
theorem dX5_toNextOrder_90 : decode cX5_toNextOrder 90 = .ok (.aload_n 0, 1) := oc_42 (by decide +kernel)
theorem dX5_toNextOrder_91 : decode cX5_toNextOrder 91 = .ok (.iload 4, 2) := oc_21 (by decide +kernel)
theorem dX5_toNextOrder_93 : decode cX5_toNextOrder 93 = .ok (.iload 5, 2) := oc_21 (by decide +kernel)
theorem dX5_toNextOrder_95 : decode cX5_toNextOrder 95 = .ok (.invokevirtual 156, 3) := oc_182 (a := 0) (b := 156) (by decide +kernel)
theorem dX5_toNextOrder_98 : decode cX5_toNextOrder 98 = .ok (.iinc 4 1, 3) := oc_132 (b := 1) (by decide +kernel)
theorem dX5_toNextOrder_101 : decode cX5_toNextOrder 101 = .ok (.iinc 5 (-1), 3) := oc_132 (b := 255) (by decide +kernel)
theorem dX5_toNextOrder_104 : decode cX5_toNextOrder 104 = .ok (.goto (-21), 3) := oc_167 (a := 255) (b := 235) (by decide +kernel)
theorem dX5_toNextOrder_43 : decode cX5_toNextOrder 43 = .ok (.if_icmp .le 24, 3) := oc_164 (a := 0) (b := 24) (by decide +kernel)
theorem dX5_toNextOrder_46 : decode cX5_toNextOrder 46 = .ok (.aload_n 0, 1) := oc_42 (by decide +kernel)
theorem dX5_toNextOrder_47 : decode cX5_toNextOrder 47 = .ok (.getfield 15, 3) := oc_180 (a := 0) (b := 15) (by decide +kernel)
theorem dX5_toNextOrder_50 : decode cX5_toNextOrder 50 = .ok (.iload_n 3, 1) := oc_29 (by decide +kernel)
theorem dX5_toNextOrder_51 : decode cX5_toNextOrder 51 = .ok (.iaload, 1) := oc_46 (by decide +kernel)
theorem dX5_toNextOrder_52 : decode cX5_toNextOrder 52 = .ok (.aload_n 0, 1) := oc_42 (by decide +kernel)
theorem dX5_toNextOrder_53 : decode cX5_toNextOrder 53 = .ok (.getfield 15, 3) := oc_180 (a := 0) (b := 15) (by decide +kernel)
theorem dX5_toNextOrder_56 : decode cX5_toNextOrder 56 = .ok (.iload_n 2, 1) := oc_28 (by decide +kernel)
theorem dX5_toNextOrder_57 : decode cX5_toNextOrder 57 = .ok (.iaload, 1) := oc_46 (by decide +kernel)
theorem dX5_toNextOrder_58 : decode cX5_toNextOrder 58 = .ok (.if_icmp .ge 9, 3) := oc_162 (a := 0) (b := 9) (by decide +kernel)
theorem dX5_toNextOrder_61 : decode cX5_toNextOrder 61 = .ok (.iinc 3 (-1), 3) := oc_132 (b := 255) (by decide +kernel)
theorem dX5_toNextOrder_64 : decode cX5_toNextOrder 64 = .ok (.goto (-23), 3) := oc_167 (a := 255) (b := 233) (by decide +kernel)
theorem dX5_toNextOrder_35 : decode cX5_toNextOrder 35 = .ok (.iconst 0, 1) := oc_3 (by decide +kernel)
theorem dX5_toNextOrder_36 : decode cX5_toNextOrder 36 = .ok (.ireturn, 1) := oc_172 (by decide +kernel)
theorem dX5_toNextOrder_5 : decode cX5_toNextOrder 5 = .ok (.ifCond .lt 26, 3) := oc_155 (a := 0) (b := 26) (by decide +kernel)
theorem dX5_toNextOrder_8 : decode cX5_toNextOrder 8 = .ok (.aload_n 0, 1) := oc_42 (by decide +kernel)
theorem dX5_toNextOrder_9 : decode cX5_toNextOrder 9 = .ok (.getfield 15, 3) := oc_180 (a := 0) (b := 15) (by decide +kernel)
theorem dX5_toNextOrder_12 : decode cX5_toNextOrder 12 = .ok (.iload_n 2, 1) := oc_28 (by decide +kernel)
theorem dX5_toNextOrder_13 : decode cX5_toNextOrder 13 = .ok (.iaload, 1) := oc_46 (by decide +kernel)
theorem dX5_toNextOrder_14 : decode cX5_toNextOrder 14 = .ok (.aload_n 0, 1) := oc_42 (by decide +kernel)
theorem dX5_toNextOrder_15 : decode cX5_toNextOrder 15 = .ok (.getfield 15, 3) := oc_180 (a := 0) (b := 15) (by decide +kernel)
theorem dX5_toNextOrder_18 : decode cX5_toNextOrder 18 = .ok (.iload_n 2, 1) := oc_28 (by decide +kernel)
theorem dX5_toNextOrder_19 : decode cX5_toNextOrder 19 = .ok (.iconst 1, 1) := oc_4 (by decide +kernel)
theorem dX5_toNextOrder_20 : decode cX5_toNextOrder 20 = .ok (.iadd, 1) := oc_96 (by decide +kernel)
theorem dX5_toNextOrder_21 : decode cX5_toNextOrder 21 = .ok (.iaload, 1) := oc_46 (by decide +kernel)
theorem dX5_toNextOrder_22 : decode cX5_toNextOrder 22 = .ok (.if_icmp .le 9, 3) := oc_164 (a := 0) (b := 9) (by decide +kernel)
theorem dX5_toNextOrder_25 : decode cX5_toNextOrder 25 = .ok (.iinc 2 (-1), 3) := oc_132 (b := 255) (by decide +kernel)
theorem dX5_toNextOrder_28 : decode cX5_toNextOrder 28 = .ok (.goto (-24), 3) := oc_167 (a := 255) (b := 232) (by decide +kernel)
theorem dX5_seek_0 : decode cX5_seek 0 = .ok (.aload_n 1, 1) := oc_43 (by decide +kernel)
theorem dX5_seek_1 : decode cX5_seek 1 = .ok (.getfield 31, 3) := oc_180 (a := 0) (b := 31) (by decide +kernel)
theorem dX5_seek_4 : decode cX5_seek 4 = .ok (.getfield 37, 3) := oc_180 (a := 0) (b := 37) (by decide +kernel)
theorem dX5_seek_7 : decode cX5_seek 7 = .ok (.istore 5, 2) := oc_54 (by decide +kernel)
theorem dX5_seek_9 : decode cX5_seek 9 = .ok (.aload_n 0, 1) := oc_42 (by decide +kernel)
theorem dX5_seek_10 : decode cX5_seek 10 = .ok (.aload_n 2, 1) := oc_44 (by decide +kernel)
theorem dX5_seek_11 : decode cX5_seek 11 = .ok (.iload_n 3, 1) := oc_29 (by decide +kernel)
theorem dX5_seek_12 : decode cX5_seek 12 = .ok (.iload 4, 2) := oc_21 (by decide +kernel)
theorem dX5_seek_14 : decode cX5_seek 14 = .ok (.bipush 12, 2) := oc_16 (a := 12) (by decide +kernel)
theorem tw_1440 : Cond.methodLink RX5 43 Lib.Math.min.name ∈ wsL_law := sg_61 _ (List.mem_of_getElem? (i := 0) rfl)
theorem dX5_seek_16 : decode cX5_seek 16 = .ok (.invokestatic 43, 3) := oc_184 (a := 0) (b := 43) (by decide +kernel)
theorem tw_1442 : Cond.methodLink RX5 49 yX5_foresee ∈ wsL_law := sg_61 _ (List.mem_of_getElem? (i := 2) rfl)
theorem tw_1443 : Cond.instanceMethod yX5_foresee ∈ wsL_law := sg_61 _ (List.mem_of_getElem? (i := 3) rfl)
theorem tw_1444 : Cond.selects RX5 yX5_foresee yX5_foresee ∈ wsL_law := sg_61 _ (List.mem_of_getElem? (i := 4) rfl)
theorem tw_1445 : Cond.code yX5_foresee cX5_foresee 7 none ∈ wsL_law := sg_61 _ (List.mem_of_getElem? (i := 5) rfl)
theorem dX5_seek_19 : decode cX5_seek 19 = .ok (.invokevirtual 49, 3) := oc_182 (a := 0) (b := 49) (by decide +kernel)
theorem dX5_seek_22 : decode cX5_seek 22 = .ok (.iconst 0, 1) := oc_3 (by decide +kernel)
theorem dX5_seek_23 : decode cX5_seek 23 = .ok (.istore 6, 2) := oc_54 (by decide +kernel)
theorem dX5_seek_25 : decode cX5_seek 25 = .ok (.iload 6, 2) := oc_21 (by decide +kernel)
theorem dX5_seek_27 : decode cX5_seek 27 = .ok (.iload 5, 2) := oc_21 (by decide +kernel)
theorem dX5_seek_29 : decode cX5_seek 29 = .ok (.if_icmp .ge 18, 3) := oc_162 (a := 0) (b := 18) (by decide +kernel)
theorem dX5_seek_47 : decode cX5_seek 47 = .ok (.aload_n 0, 1) := oc_42 (by decide +kernel)
theorem dX5_seek_48 : decode cX5_seek 48 = .ok (.sipush 961, 3) := oc_17 (a := 3) (b := 193) (by decide +kernel)
theorem dX5_seek_51 : decode cX5_seek 51 = .ok (.putfield 53, 3) := oc_181 (a := 0) (b := 53) (by decide +kernel)
theorem dX5_seek_54 : decode cX5_seek 54 = .ok (.iconst 1, 1) := oc_4 (by decide +kernel)
theorem dX5_seek_55 : decode cX5_seek 55 = .ok (.istore 6, 2) := oc_54 (by decide +kernel)
theorem dX5_seek_57 : decode cX5_seek 57 = .ok (.iconst 0, 1) := oc_3 (by decide +kernel)
theorem dX5_seek_58 : decode cX5_seek 58 = .ok (.istore 7, 2) := oc_54 (by decide +kernel)
theorem dX5_seek_60 : decode cX5_seek 60 = .ok (.iload 7, 2) := oc_21 (by decide +kernel)
theorem dX5_seek_62 : decode cX5_seek 62 = .ok (.bipush 120, 2) := oc_16 (a := 120) (by decide +kernel)
theorem dX5_seek_64 : decode cX5_seek 64 = .ok (.if_icmp .ge 63, 3) := oc_162 (a := 0) (b := 63) (by decide +kernel)
theorem dX5_seek_127 : decode cX5_seek 127 = .ok (.return_, 1) := oc_177 (by decide +kernel)
theorem dX5_seek_67 : decode cX5_seek 67 = .ok (.iload 6, 2) := oc_21 (by decide +kernel)
theorem dX5_seek_69 : decode cX5_seek 69 = .ok (.ifCond .eq 58, 3) := oc_153 (a := 0) (b := 58) (by decide +kernel)
theorem dX5_seek_72 : decode cX5_seek 72 = .ok (.aload_n 0, 1) := oc_42 (by decide +kernel)
theorem dX5_seek_73 : decode cX5_seek 73 = .ok (.aload_n 1, 1) := oc_43 (by decide +kernel)
theorem dX5_seek_74 : decode cX5_seek 74 = .ok (.aload_n 2, 1) := oc_44 (by decide +kernel)
theorem dX5_seek_75 : decode cX5_seek 75 = .ok (.iload 4, 2) := oc_21 (by decide +kernel)
theorem dX5_seek_77 : decode cX5_seek 77 = .ok (.bipush 12, 2) := oc_16 (a := 12) (by decide +kernel)
theorem dX5_seek_79 : decode cX5_seek 79 = .ok (.invokestatic 43, 3) := oc_184 (a := 0) (b := 43) (by decide +kernel)
theorem tw_1454 : Cond.methodLink RX5 56 yX5_lacksOf ∈ wsL_law := sg_61 _ (List.mem_of_getElem? (i := 14) rfl)
theorem tw_1455 : Cond.instanceMethod yX5_lacksOf ∈ wsL_law := sg_61 _ (List.mem_of_getElem? (i := 15) rfl)
theorem tw_1456 : Cond.selects RX5 yX5_lacksOf yX5_lacksOf ∈ wsL_law := sg_61 _ (List.mem_of_getElem? (i := 16) rfl)
theorem tw_1457 : Cond.code yX5_lacksOf cX5_lacksOf 7 (some .int) ∈ wsL_law := sg_61 _ (List.mem_of_getElem? (i := 17) rfl)
theorem dX5_seek_82 : decode cX5_seek 82 = .ok (.invokevirtual 56, 3) := oc_182 (a := 0) (b := 56) (by decide +kernel)
theorem dX5_seek_85 : decode cX5_seek 85 = .ok (.istore 8, 2) := oc_54 (by decide +kernel)
theorem dX5_seek_87 : decode cX5_seek 87 = .ok (.iload 8, 2) := oc_21 (by decide +kernel)
theorem dX5_seek_89 : decode cX5_seek 89 = .ok (.aload_n 0, 1) := oc_42 (by decide +kernel)
theorem dX5_seek_90 : decode cX5_seek 90 = .ok (.getfield 53, 3) := oc_180 (a := 0) (b := 53) (by decide +kernel)
theorem dX5_seek_113 : decode cX5_seek 113 = .ok (.aload_n 0, 1) := oc_42 (by decide +kernel)
theorem dX5_seek_114 : decode cX5_seek 114 = .ok (.iload 5, 2) := oc_21 (by decide +kernel)
theorem tw_1475 : Cond.methodLink RX5 64 yX5_toNextOrder ∈ wsL_law := sg_62 _ (List.mem_of_getElem? (i := 11) rfl)
theorem tw_1476 : Cond.instanceMethod yX5_toNextOrder ∈ wsL_law := sg_62 _ (List.mem_of_getElem? (i := 12) rfl)
theorem tw_1477 : Cond.selects RX5 yX5_toNextOrder yX5_toNextOrder ∈ wsL_law := sg_62 _ (List.mem_of_getElem? (i := 13) rfl)
theorem tw_1478 : Cond.code yX5_toNextOrder cX5_toNextOrder 6 (some .boolean) ∈ wsL_law := sg_62 _ (List.mem_of_getElem? (i := 14) rfl)
theorem dX5_seek_116 : decode cX5_seek 116 = .ok (.invokevirtual 64, 3) := oc_182 (a := 0) (b := 64) (by decide +kernel)
theorem dX5_seek_119 : decode cX5_seek 119 = .ok (.istore 6, 2) := oc_54 (by decide +kernel)
theorem dX5_seek_121 : decode cX5_seek 121 = .ok (.iinc 7 1, 3) := oc_132 (b := 1) (by decide +kernel)
theorem dX5_seek_124 : decode cX5_seek 124 = .ok (.goto (-64), 3) := oc_167 (a := 255) (b := 192) (by decide +kernel)
theorem dX5_seek_93 : decode cX5_seek 93 = .ok (.if_icmp .ge 20, 3) := oc_162 (a := 0) (b := 20) (by decide +kernel)
theorem dX5_seek_96 : decode cX5_seek 96 = .ok (.aload_n 0, 1) := oc_42 (by decide +kernel)
theorem dX5_seek_97 : decode cX5_seek 97 = .ok (.iload 8, 2) := oc_21 (by decide +kernel)
theorem dX5_seek_99 : decode cX5_seek 99 = .ok (.putfield 53, 3) := oc_181 (a := 0) (b := 53) (by decide +kernel)
theorem dX5_seek_102 : decode cX5_seek 102 = .ok (.aload_n 0, 1) := oc_42 (by decide +kernel)
theorem dX5_seek_103 : decode cX5_seek 103 = .ok (.getfield 15, 3) := oc_180 (a := 0) (b := 15) (by decide +kernel)
theorem dX5_seek_106 : decode cX5_seek 106 = .ok (.aload_n 0, 1) := oc_42 (by decide +kernel)
theorem tw_142 : Cond.fieldLink RX5 9 "RingsUnder$RingOrders" "best" "[I" ∈ wsL_law := sg_6 _ (List.mem_of_getElem? (i := 22) rfl)
theorem dX5_seek_107 : decode cX5_seek 107 = .ok (.getfield 9, 3) := oc_180 (a := 0) (b := 9) (by decide +kernel)
theorem dX5_seek_110 : decode cX5_seek 110 = .ok (.invokestatic 60, 3) := oc_184 (a := 0) (b := 60) (by decide +kernel)
theorem dX5_seek_32 : decode cX5_seek 32 = .ok (.aload_n 0, 1) := oc_42 (by decide +kernel)
theorem dX5_seek_33 : decode cX5_seek 33 = .ok (.getfield 15, 3) := oc_180 (a := 0) (b := 15) (by decide +kernel)
theorem dX5_seek_36 : decode cX5_seek 36 = .ok (.iload 6, 2) := oc_21 (by decide +kernel)
theorem dX5_seek_38 : decode cX5_seek 38 = .ok (.iload 6, 2) := oc_21 (by decide +kernel)
theorem dX5_seek_40 : decode cX5_seek 40 = .ok (.iastore, 1) := oc_79 (by decide +kernel)
theorem dX5_seek_41 : decode cX5_seek 41 = .ok (.iinc 6 1, 3) := oc_132 (b := 1) (by decide +kernel)
theorem dX5_seek_44 : decode cX5_seek 44 = .ok (.goto (-19), 3) := oc_167 (a := 255) (b := 237) (by decide +kernel)
theorem dX6_append_0 : decode cX6_append 0 = .ok (.bipush 24, 2) := oc_16 (a := 24) (by decide +kernel)
theorem dX6_append_2 : decode cX6_append 2 = .ok (.istore_n 2, 1) := oc_61 (by decide +kernel)
theorem dX6_append_3 : decode cX6_append 3 = .ok (.iload_n 2, 1) := oc_28 (by decide +kernel)
theorem dX6_append_4 : decode cX6_append 4 = .ok (.ifCond .lt 45, 3) := oc_155 (a := 0) (b := 45) (by decide +kernel)
theorem dX6_append_49 : decode cX6_append 49 = .ok (.return_, 1) := oc_177 (by decide +kernel)
theorem dX6_append_7 : decode cX6_append 7 = .ok (.aload_n 0, 1) := oc_42 (by decide +kernel)
theorem tw_626 : Cond.fieldLink RX6 15 "RingsUnder$Scanner" "length" "I" ∈ wsL_law := sg_27 _ (List.mem_of_getElem? (i := 2) rfl)
theorem dX6_append_8 : decode cX6_append 8 = .ok (.getfield 15, 3) := oc_180 (a := 0) (b := 15) (by decide +kernel)
theorem dX6_append_11 : decode cX6_append 11 = .ok (.sipush 300, 3) := oc_17 (a := 1) (b := 44) (by decide +kernel)
theorem dX6_append_14 : decode cX6_append 14 = .ok (.if_icmp .ge 35, 3) := oc_162 (a := 0) (b := 35) (by decide +kernel)
theorem dX6_append_17 : decode cX6_append 17 = .ok (.aload_n 0, 1) := oc_42 (by decide +kernel)
theorem tw_165 : Cond.fieldLink RX6 9 "RingsUnder$Scanner" "tape" "[I" ∈ wsL_law := sg_7 _ (List.mem_of_getElem? (i := 21) rfl)
theorem dX6_append_18 : decode cX6_append 18 = .ok (.getfield 9, 3) := oc_180 (a := 0) (b := 9) (by decide +kernel)
theorem dX6_append_21 : decode cX6_append 21 = .ok (.aload_n 0, 1) := oc_42 (by decide +kernel)
theorem dX6_append_22 : decode cX6_append 22 = .ok (.getfield 15, 3) := oc_180 (a := 0) (b := 15) (by decide +kernel)
theorem dX6_append_25 : decode cX6_append 25 = .ok (.iload_n 1, 1) := oc_27 (by decide +kernel)
theorem dX6_append_26 : decode cX6_append 26 = .ok (.iload_n 2, 1) := oc_28 (by decide +kernel)
theorem dX6_append_27 : decode cX6_append 27 = .ok (.iushr, 1) := oc_124 (by decide +kernel)
theorem dX6_append_28 : decode cX6_append 28 = .ok (.sipush 255, 3) := oc_17 (a := 0) (b := 255) (by decide +kernel)
theorem dX6_append_31 : decode cX6_append 31 = .ok (.iand, 1) := oc_126 (by decide +kernel)
theorem dX6_append_32 : decode cX6_append 32 = .ok (.iastore, 1) := oc_79 (by decide +kernel)
theorem dX6_append_33 : decode cX6_append 33 = .ok (.aload_n 0, 1) := oc_42 (by decide +kernel)
theorem dX6_append_34 : decode cX6_append 34 = .ok (.dup, 1) := oc_89 (by decide +kernel)
theorem dX6_append_35 : decode cX6_append 35 = .ok (.getfield 15, 3) := oc_180 (a := 0) (b := 15) (by decide +kernel)
theorem dX6_append_38 : decode cX6_append 38 = .ok (.iconst 1, 1) := oc_4 (by decide +kernel)
theorem dX6_append_39 : decode cX6_append 39 = .ok (.iadd, 1) := oc_96 (by decide +kernel)
theorem dX6_append_40 : decode cX6_append 40 = .ok (.putfield 15, 3) := oc_181 (a := 0) (b := 15) (by decide +kernel)
theorem dX6_append_43 : decode cX6_append 43 = .ok (.iinc 2 (-8), 3) := oc_132 (b := 248) (by decide +kernel)
theorem dX6_append_46 : decode cX6_append 46 = .ok (.goto (-43), 3) := oc_167 (a := 255) (b := 213) (by decide +kernel)
theorem dX6_rewind_0 : decode cX6_rewind 0 = .ok (.aload_n 0, 1) := oc_42 (by decide +kernel)
theorem dX6_rewind_1 : decode cX6_rewind 1 = .ok (.iconst 0, 1) := oc_3 (by decide +kernel)
theorem tw_662 : Cond.fieldLink RX6 19 "RingsUnder$Scanner" "at" "I" ∈ wsL_law := sg_28 _ (List.mem_of_getElem? (i := 14) rfl)
theorem dX6_rewind_2 : decode cX6_rewind 2 = .ok (.putfield 19, 3) := oc_181 (a := 0) (b := 19) (by decide +kernel)
theorem dX6_rewind_5 : decode cX6_rewind 5 = .ok (.return_, 1) := oc_177 (by decide +kernel)
theorem dX6_isDigit_0 : decode cX6_isDigit 0 = .ok (.iload_n 0, 1) := oc_26 (by decide +kernel)
theorem dX6_isDigit_1 : decode cX6_isDigit 1 = .ok (.bipush 48, 2) := oc_16 (a := 48) (by decide +kernel)
theorem dX6_isDigit_16 : decode cX6_isDigit 16 = .ok (.iconst 0, 1) := oc_3 (by decide +kernel)
theorem dX6_isDigit_17 : decode cX6_isDigit 17 = .ok (.ireturn, 1) := oc_172 (by decide +kernel)
theorem dX6_isDigit_3 : decode cX6_isDigit 3 = .ok (.if_icmp .lt 13, 3) := oc_161 (a := 0) (b := 13) (by decide +kernel)
theorem dX6_isDigit_6 : decode cX6_isDigit 6 = .ok (.iload_n 0, 1) := oc_26 (by decide +kernel)
theorem dX6_isDigit_7 : decode cX6_isDigit 7 = .ok (.bipush 57, 2) := oc_16 (a := 57) (by decide +kernel)
theorem dX6_isDigit_9 : decode cX6_isDigit 9 = .ok (.if_icmp .gt 7, 3) := oc_163 (a := 0) (b := 7) (by decide +kernel)
theorem dX6_isDigit_12 : decode cX6_isDigit 12 = .ok (.iconst 1, 1) := oc_4 (by decide +kernel)
theorem dX6_isDigit_13 : decode cX6_isDigit 13 = .ok (.goto 4, 3) := oc_167 (a := 0) (b := 4) (by decide +kernel)
theorem dX6_isLetter_0 : decode cX6_isLetter 0 = .ok (.iload_n 0, 1) := oc_26 (by decide +kernel)
theorem dX6_isLetter_1 : decode cX6_isLetter 1 = .ok (.bipush 97, 2) := oc_16 (a := 97) (by decide +kernel)
theorem dX6_isLetter_24 : decode cX6_isLetter 24 = .ok (.iconst 1, 1) := oc_4 (by decide +kernel)
theorem dX6_isLetter_25 : decode cX6_isLetter 25 = .ok (.goto 4, 3) := oc_167 (a := 0) (b := 4) (by decide +kernel)
theorem dX6_isLetter_29 : decode cX6_isLetter 29 = .ok (.ireturn, 1) := oc_172 (by decide +kernel)
theorem dX6_isLetter_12 : decode cX6_isLetter 12 = .ok (.iload_n 0, 1) := oc_26 (by decide +kernel)
theorem dX6_isLetter_13 : decode cX6_isLetter 13 = .ok (.bipush 65, 2) := oc_16 (a := 65) (by decide +kernel)
theorem dX6_isLetter_28 : decode cX6_isLetter 28 = .ok (.iconst 0, 1) := oc_3 (by decide +kernel)
theorem dX6_isLetter_15 : decode cX6_isLetter 15 = .ok (.if_icmp .lt 13, 3) := oc_161 (a := 0) (b := 13) (by decide +kernel)
theorem dX6_isLetter_18 : decode cX6_isLetter 18 = .ok (.iload_n 0, 1) := oc_26 (by decide +kernel)
theorem dX6_isLetter_19 : decode cX6_isLetter 19 = .ok (.bipush 90, 2) := oc_16 (a := 90) (by decide +kernel)
theorem dX6_isLetter_21 : decode cX6_isLetter 21 = .ok (.if_icmp .gt 7, 3) := oc_163 (a := 0) (b := 7) (by decide +kernel)
theorem dX6_isLetter_3 : decode cX6_isLetter 3 = .ok (.if_icmp .lt 9, 3) := oc_161 (a := 0) (b := 9) (by decide +kernel)
theorem dX6_isLetter_6 : decode cX6_isLetter 6 = .ok (.iload_n 0, 1) := oc_26 (by decide +kernel)
theorem dX6_isLetter_7 : decode cX6_isLetter 7 = .ok (.bipush 122, 2) := oc_16 (a := 122) (by decide +kernel)
theorem dX6_isLetter_9 : decode cX6_isLetter 9 = .ok (.if_icmp .le 15, 3) := oc_164 (a := 0) (b := 15) (by decide +kernel)
theorem dX6_signOf_0 : decode cX6_signOf 0 = .ok (.iload_n 0, 1) := oc_26 (by decide +kernel)
theorem dX6_signOf_1 : decode cX6_signOf 1 = .ok (.tableswitch 163 35 62 #[136, 163, 163, 163, 163, 151, 154, 145, 139, 157, 142, 163, 148, 163, 163, 163, 163, 163, 163, 163, 163, 163, 163, 163, 160, 127, 133, 130], 127) := by decide +kernel
theorem dX6_signOf_137 : decode cX6_signOf 137 = .ok (.bipush 24, 2) := oc_16 (a := 24) (by decide +kernel)
theorem dX6_signOf_139 : decode cX6_signOf 139 = .ok (.ireturn, 1) := oc_172 (by decide +kernel)
theorem dX6_signOf_164 : decode cX6_signOf 164 = .ok (.bipush 34, 2) := oc_16 (a := 34) (by decide +kernel)
theorem dX6_signOf_166 : decode cX6_signOf 166 = .ok (.ireturn, 1) := oc_172 (by decide +kernel)
theorem dX6_signOf_152 : decode cX6_signOf 152 = .ok (.bipush 29, 2) := oc_16 (a := 29) (by decide +kernel)
theorem dX6_signOf_154 : decode cX6_signOf 154 = .ok (.ireturn, 1) := oc_172 (by decide +kernel)
theorem dX6_signOf_155 : decode cX6_signOf 155 = .ok (.bipush 30, 2) := oc_16 (a := 30) (by decide +kernel)
theorem dX6_signOf_157 : decode cX6_signOf 157 = .ok (.ireturn, 1) := oc_172 (by decide +kernel)
theorem dX6_signOf_146 : decode cX6_signOf 146 = .ok (.bipush 27, 2) := oc_16 (a := 27) (by decide +kernel)
theorem dX6_signOf_148 : decode cX6_signOf 148 = .ok (.ireturn, 1) := oc_172 (by decide +kernel)
theorem dX6_signOf_140 : decode cX6_signOf 140 = .ok (.bipush 25, 2) := oc_16 (a := 25) (by decide +kernel)
theorem dX6_signOf_142 : decode cX6_signOf 142 = .ok (.ireturn, 1) := oc_172 (by decide +kernel)
theorem dX6_signOf_158 : decode cX6_signOf 158 = .ok (.bipush 31, 2) := oc_16 (a := 31) (by decide +kernel)
theorem dX6_signOf_160 : decode cX6_signOf 160 = .ok (.ireturn, 1) := oc_172 (by decide +kernel)
theorem dX6_signOf_143 : decode cX6_signOf 143 = .ok (.bipush 26, 2) := oc_16 (a := 26) (by decide +kernel)
theorem dX6_signOf_145 : decode cX6_signOf 145 = .ok (.ireturn, 1) := oc_172 (by decide +kernel)
theorem dX6_signOf_149 : decode cX6_signOf 149 = .ok (.bipush 28, 2) := oc_16 (a := 28) (by decide +kernel)
theorem dX6_signOf_151 : decode cX6_signOf 151 = .ok (.ireturn, 1) := oc_172 (by decide +kernel)
theorem dX6_signOf_161 : decode cX6_signOf 161 = .ok (.bipush 32, 2) := oc_16 (a := 32) (by decide +kernel)
theorem dX6_signOf_163 : decode cX6_signOf 163 = .ok (.ireturn, 1) := oc_172 (by decide +kernel)
theorem dX6_signOf_128 : decode cX6_signOf 128 = .ok (.bipush 19, 2) := oc_16 (a := 19) (by decide +kernel)
theorem dX6_signOf_130 : decode cX6_signOf 130 = .ok (.ireturn, 1) := oc_172 (by decide +kernel)
theorem dX6_signOf_134 : decode cX6_signOf 134 = .ok (.bipush 23, 2) := oc_16 (a := 23) (by decide +kernel)
theorem dX6_signOf_136 : decode cX6_signOf 136 = .ok (.ireturn, 1) := oc_172 (by decide +kernel)
theorem dX6_signOf_131 : decode cX6_signOf 131 = .ok (.bipush 21, 2) := oc_16 (a := 21) (by decide +kernel)
theorem dX6_signOf_133 : decode cX6_signOf 133 = .ok (.ireturn, 1) := oc_172 (by decide +kernel)
set_option maxHeartbeats 4000000 in
set_option maxRecDepth 100000 in
theorem s_X5_lacksOf (l : Launch) (D : va_G) (t : pq_T) (σ : pq_S) (I : Nat → Nat → Int32) (J : Nat → Nat → Int64) (ri : Nat → Nat → Int32) (rj : Nat → Nat → Int64) (rq : Nat → Nat → Option Nat) (sz : Nat) (tg : Nat → Nat) (hSH : SH σ tg) (hG0 : GS tg σ I ri rq) (this : Nat) (a0 : Nat) (a1 : Nat) (a2 : Int32) (hL_this : this ∈ σ.1) (hK_this : σ.2.1 this = 5) (hL_a0 : a0 ∈ σ.1) (hK_a0 : σ.2.1 a0 = 10) (hL_a1 : a1 ∈ σ.1) (hK_a1 : σ.2.1 a1 = 10) (h_a2 : rg a2 0 12) (hap : AP 10 tg σ a1 a0) : MetI l yX5_lacksOf (wa yX5_lacksOf cX5_lacksOf 7 (some .int)) ({ frames := 4, cells := 0, slots := 0, locals := 105 }) [.ref this, .ref a0, .ref a1, .int a2] D t σ (I, J, ri, rj, rq) sz 0 0 (fun (r : Int32) (u : pq_S × pq_M) => ∃ I' : Nat → Nat → Int32, ∃ ri' : Nat → Nat → Int32, u = (σ, I', J, ri', rj, rq) ∧ GX [1288, 1005] tg σ I ri rj I' ri' rj rq ∧ FR 10 tg σ a1 (I, J, ri, rj, rq) (I', J, ri', rj, rq)) := by
  refine Met.ofW (cc := cX5_lacksOf) (maxL := 7) (ret := (some .int)) (by decide +kernel) rfl ?_
  intro p e s m args below meth c s₁ B hml hv
  obtain ⟨rfl, hsz, hP, hK, hD0, hN⟩ := hv
  have hx := B.exec
  have hb := B.bytes
  have hr := B.returns
  have hts := atoms_spec (ws := (wa yX5_lacksOf cX5_lacksOf 7 (some .int))) B.pre
  have hown : s.vm.findClass RX5 = some m.cls := findClass_of_methodNamed B.named
  have hlocks := B.notSynchronized
  subst hsz
  have hD : va_D (pq_B t σ (I, J, ri, rj, rq) s.heap.size) (pq_P t σ (I, J, ri, rj, rq)) := hD0.self
  generalize hAe : pq_B t σ (I, J, ri, rj, rq) s.heap.size = A at hD ⊢
  have hA : ∀ q : Nat, s.heap.size ≤ q → A q := fun q h => by rw [← hAe]; exact Or.inr h
  have hS : va_S A s.heap s.heap [] := va_S.rf
  have hG : GX [1288, 1005] tg σ I ri rj I ri rj rq := ⟨hG0, fun _ _ _ => rfl, fun _ _ _ _ _ => rfl, fun _ _ _ _ _ => rfl⟩
  have hl := lv_entry ([.ref this, .ref a0, .ref a1, .int a2]) (n := 7) (Nat.le_of_ble_eq_true rfl)
  rw [lg_entry_eq]
  generalize (lg_sl ([.ref this, .ref a0, .ref a1, .int a2]) ++ List.replicate (7 - (lg_sl ([.ref this, .ref a0, .ref a1, .int a2])).length) Slot.unset).toArray = ls at hl ⊢
  have hl : lv_has ls 7 [(0, .ref this), (1, .ref a0), (2, .ref a1), (3, .int a2)] := hl
  refine q_gen (fun Q hQ => ?_)
  have go : ∀ (H : Heap) (locs : List Loc) (ls : Array Slot), va_P D vwCl (pq_P t σ (I, J, ri, rj, rq)) H → va_D A (pq_P t σ (I, J, ri, rj, rq)) → va_S A s.heap H locs → lv_has ls 7 [(0, .ref this), (1, .ref a0), (2, .ref a1), (3, .int a2)] → W p l e ({ frames := 4, cells := 0, slots := 0, locals := 105 } : Room) s m (List.toArray ([.ref this, .ref a0, .ref a1, .int a2] : List Value)) below meth c H locs 0 0 Q (F0 m 0 ls []) := by
    intro H locs ls hP hD hS hl
    have hO_a1 : a1 = vo σ 10 a1 := rfl
    have hO_a0 : a0 = vo σ 10 a0 := rfl
    have hVT : VT 10 σ tg a1 := vt_10 hSH hL_a1 hK_a1
    have hFr : FR 10 tg σ a1 (I, J, ri, rj, rq) (I, J, ri, rj, rq) := fr_rf
    refine lv_aload_n hx hb dX5_lacksOf_0 rfl (lv_at hl 2 rfl) ?_
    obtain ⟨w_1, hR_w_1, hL_w_1, hK_w_1⟩ := sh_o hSH 327 (ci := 10) (kd := 2) rfl hL_a1 hK_a1
    have hO_w_1 : w_1 = vo σ 2 a1 := vo_k (c := 10) hO_a1 hR_w_1
    refine pg_f (v := .ref w_1) (C := RX10) (T := TX10) (N := 13) hx hb hts (tw_i inlX10) hown hK hP hL_a1 hK_a1 (by decide +kernel) rfl 7 (by decide +kernel) (hts _ (tw_c tw_1438)) (pq_hv rfl hR_w_1) dX5_lacksOf_1 ?_
    obtain ⟨w_2, hR_w_2, hL_w_2, hK_w_2⟩ := sh_o hSH 78 (ci := 2) (kd := 9) rfl hL_w_1 hK_w_1
    have hO_w_2 : w_2 = vo σ 9 a1 := vo_k (c := 2) hO_w_1 hR_w_2
    refine pg_f (v := .ref w_2) (C := RX2) (T := TX2) (N := 20) hx hb hts (tw_i inlX2) hown hK hP hL_w_1 hK_w_1 (by decide +kernel) rfl 14 (by decide +kernel) (hts _ (tw_c tw_1458)) (pq_hv rfl hR_w_2) dX5_lacksOf_4 ?_
    refine lv_aload_n hx hb dX5_lacksOf_7 rfl (lv_at hl 1 rfl) ?_
    obtain ⟨w_3, hR_w_3, hL_w_3, hK_w_3⟩ := sh_o hSH 327 (ci := 10) (kd := 2) rfl hL_a0 hK_a0
    have hO_w_3 : w_3 = vo σ 2 a0 := vo_k (c := 10) hO_a0 hR_w_3
    refine pg_f (v := .ref w_3) (C := RX10) (T := TX10) (N := 13) hx hb hts (tw_i inlX10) hown hK hP hL_a0 hK_a0 (by decide +kernel) rfl 7 (by decide +kernel) (hts _ (tw_c tw_1438)) (pq_hv rfl hR_w_3) dX5_lacksOf_8 ?_
    obtain ⟨w_4, hR_w_4, hL_w_4, hK_w_4⟩ := sh_o hSH 78 (ci := 2) (kd := 9) rfl hL_w_3 hK_w_3
    have hO_w_4 : w_4 = vo σ 9 a0 := vo_k (c := 2) hO_w_3 hR_w_4
    refine pg_f (v := .ref w_4) (C := RX2) (T := TX2) (N := 20) hx hb hts (tw_i inlX2) hown hK hP hL_w_3 hK_w_3 (by decide +kernel) rfl 14 (by decide +kernel) (hts _ (tw_c tw_1458)) (pq_hv rfl hR_w_4) dX5_lacksOf_11 ?_
    refine pk_v (va_runV (As := [.ref w_4]) (rest := []) ⟨hx, hb, hml, hown, hts⟩ (s_X9_copyFrom l D t σ I J ri rj rq H.size tg hSH hG.1 w_2 w_4 hL_w_2 hK_w_2 hL_w_4 hK_w_4 a1 hL_a1 hK_a1 a0 hL_a0 hK_a0 hO_w_2 hO_w_4 hap) (cwV 1 hts (tw_V tw_1465 tw_1377 tw_1378 tw_94 tw_1379) rfl rfl rfl cv_yX9_copyFrom_1 ⟨Nat.le_of_ble_eq_true rfl, Nat.le_of_ble_eq_true rfl⟩) ⟨pq_blind, pq_recv hK hP hL_w_2 hK_w_2 (by decide +kernel) rfl, pq_pre hK hN hP hD⟩ rfl rfl hl.1 rfl (lv_room (Nat.le_of_ble_eq_true rfl)) dX5_lacksOf_14 ⟨Nat.le_of_ble_eq_true rfl, Nat.le_of_ble_eq_true rfl⟩) hD hS hA (fun σ1 μ1 H locs hw_6 hP hD hS => ?_)
    obtain ⟨ri_7, hu_8, hg_9, hfn_11, hfr_12⟩ := hw_6
    obtain ⟨hu_8a, hu_8b⟩ := Prod.mk.inj hu_8
    rw [hu_8a, hu_8b] at hP hD
    replace hFr := fr_tr hFr hfr_12
    have hG := GX.tr hG hg_9 (by decide +kernel)
    refine lv_aload_n hx hb dX5_lacksOf_17 rfl (lv_at hl 1 rfl) ?_
    obtain ⟨w_13, hR_w_13, hL_w_13, hK_w_13⟩ := sh_o hSH 328 (ci := 10) (kd := 0) rfl hL_a0 hK_a0
    have hO_w_13 : w_13 = vo σ 0 a0 := vo_k (c := 10) hO_a0 hR_w_13
    refine pg_f (v := .ref w_13) (C := RX10) (T := TX10) (N := 13) hx hb hts (tw_i inlX10) hown hK hP hL_a0 hK_a0 (by decide +kernel) rfl 8 (by decide +kernel) (hts _ (tw_c tw_1446)) (pq_hv rfl hR_w_13) dX5_lacksOf_18 ?_
    obtain ⟨w_14, hR_w_14, hL_w_14, hK_w_14, hN_w_14, hT_w_14⟩ := sh_a hSH 5 (ci := 0) (kd := 13) (len := 40) rfl (by decide +kernel) hL_w_13 hK_w_13
    have hO_w_14 : w_14 = vrow σ 5 a0 := vo_k (c := 0) hO_w_13 hR_w_14
    refine pg_f (v := .ref w_14) (C := RX0) (T := TX0) (N := 16) hx hb hts (tw_i inlX0) hown hK hP hL_w_13 hK_w_13 (by decide +kernel) rfl 5 (by decide +kernel) (hts _ (tw_c tw_1459)) (pq_hv rfl hR_w_14) dX5_lacksOf_21 ?_
    refine lv_aload_n hx hb dX5_lacksOf_24 rfl (lv_at hl 2 rfl) ?_
    obtain ⟨w_15, hR_w_15, hL_w_15, hK_w_15⟩ := sh_o hSH 328 (ci := 10) (kd := 0) rfl hL_a1 hK_a1
    have hO_w_15 : w_15 = vo σ 0 a1 := vo_k (c := 10) hO_a1 hR_w_15
    refine pg_f (v := .ref w_15) (C := RX10) (T := TX10) (N := 13) hx hb hts (tw_i inlX10) hown hK hP hL_a1 hK_a1 (by decide +kernel) rfl 8 (by decide +kernel) (hts _ (tw_c tw_1446)) (pq_hv rfl hR_w_15) dX5_lacksOf_25 ?_
    obtain ⟨w_16, hR_w_16, hL_w_16, hK_w_16, hN_w_16, hT_w_16⟩ := sh_a hSH 5 (ci := 0) (kd := 13) (len := 40) rfl (by decide +kernel) hL_w_15 hK_w_15
    have hO_w_16 : w_16 = vrow σ 5 a1 := vo_k (c := 0) hO_w_15 hR_w_16
    refine pg_f (v := .ref w_16) (C := RX0) (T := TX0) (N := 16) hx hb hts (tw_i inlX0) hown hK hP hL_w_15 hK_w_15 (by decide +kernel) rfl 5 (by decide +kernel) (hts _ (tw_c tw_1459)) (pq_hv rfl hR_w_16) dX5_lacksOf_28 ?_
    refine pk_v (va_runSN (As := [.ref w_14, .ref w_16]) (rest := []) ⟨hx, hb, hml, hown, hts⟩ (s_X11_copy_5_5 l D t σ I J ri_7 rj rq H.size tg hSH hG.1 w_14 w_16 hL_w_14 hK_w_14 hN_w_14 hT_w_14 hL_w_16 hK_w_16 hN_w_16 hT_w_16) ⟨va_cnB (host := "RingsUnder") 2 hts (tw_W tw_1102) rfl rfl rfl (nl_23 hN) (hts _ (tw_c tw_2)) cd_yX11_copy_2 ⟨Nat.le_of_ble_eq_true rfl, Nat.le_of_ble_eq_true rfl⟩, hts (.static yX11_copy) (tw_c tq_static_yX11_copy), trivial⟩ ⟨pq_blind, pq_pre hK hN hP hD⟩ rfl rfl hl.1 rfl (lv_room (Nat.le_of_ble_eq_true rfl)) dX5_lacksOf_31 ⟨Nat.le_of_ble_eq_true rfl, Nat.le_of_ble_eq_true rfl⟩) hD hS hA (fun σ1 μ1 H locs hw_18 hP hD hS => ?_)
    obtain ⟨ri_19, hu_20, hg_21, hp_23, hp_24, hp_25⟩ := hw_18
    obtain ⟨hu_20a, hu_20b⟩ := Prod.mk.inj hu_20
    rw [hu_20a, hu_20b] at hP hD
    replace hFr := fr_R hFr hO_w_16 (by decide +kernel) hp_25
    have hG := GX.tr hG hg_21 (by decide +kernel)
    refine lv_aload_n hx hb dX5_lacksOf_34 rfl (lv_at hl 0 rfl) ?_
    refine lv_aload_n hx hb dX5_lacksOf_35 rfl (lv_at hl 1 rfl) ?_
    refine pg_f (v := .ref w_13) (C := RX10) (T := TX10) (N := 13) hx hb hts (tw_i inlX10) hown hK hP hL_a0 hK_a0 (by decide +kernel) rfl 8 (by decide +kernel) (hts _ (tw_c tw_1446)) (pq_hv rfl hR_w_13) dX5_lacksOf_36 ?_
    refine lv_aload_n hx hb dX5_lacksOf_39 rfl (lv_at hl 1 rfl) ?_
    refine pg_f (v := .ref w_3) (C := RX10) (T := TX10) (N := 13) hx hb hts (tw_i inlX10) hown hK hP hL_a0 hK_a0 (by decide +kernel) rfl 7 (by decide +kernel) (hts _ (tw_c tw_1438)) (pq_hv rfl hR_w_3) dX5_lacksOf_40 ?_
    refine pg_f (v := .int (I 64 w_3)) (C := RX2) (T := TX2) (N := 20) hx hb hts (tw_i inlX2) hown hK hP hL_w_3 hK_w_3 (by decide +kernel) rfl 0 (by decide +kernel) (hts _ (tw_c tw_1439)) rfl dX5_lacksOf_43 ?_
    have h_28 : rg (I 64 w_3) 0 5 := GX.rI hG 64 rfl
    refine pk_v (va_runV (As := [.ref w_13, .int (I 64 w_3)]) (rest := []) ⟨hx, hb, hml, hown, hts⟩ (s_X5_lineUp l D t σ I J ri_19 rj rq H.size tg hSH hG.1 this w_13 (I 64 w_3) hL_this hK_this hL_w_13 hK_w_13 (rg_w h_28 (by decide +kernel)) a1 hL_a1 hK_a1) (cwV 2 hts (tw_V tw_1466 tw_1467 tw_1468 tw_21 tw_1469) rfl rfl rfl cv_yX5_lineUp_2 ⟨Nat.le_of_ble_eq_true rfl, Nat.le_of_ble_eq_true rfl⟩) ⟨pq_blind, pq_recv hK hP hL_this hK_this (by decide +kernel) rfl, pq_pre hK hN hP hD⟩ rfl rfl hl.1 rfl (lv_room (Nat.le_of_ble_eq_true rfl)) dX5_lacksOf_46 ⟨Nat.le_of_ble_eq_true rfl, Nat.le_of_ble_eq_true rfl⟩) hD hS hA (fun σ1 μ1 H locs hw_30 hP hD hS => ?_)
    obtain ⟨I_31, ri_32, hu_33, hg_34, hfr_37⟩ := hw_30
    obtain ⟨hu_33a, hu_33b⟩ := Prod.mk.inj hu_33
    rw [hu_33a, hu_33b] at hP hD
    replace hFr := fr_tr hFr hfr_37
    have hG := GX.tr hG hg_34 (by decide +kernel)
    refine lv_iconst (v := 0) hx hb dX5_lacksOf_49 (by decide +kernel) ?_
    refine lv_istore (lv' := [(4, .int 0), (0, .ref this), (1, .ref a0), (2, .ref a1), (3, .int a2)]) hx hb dX5_lacksOf_50 hl (by decide +kernel) rfl (fun ls hl => ?_)
    refine lv_iconst (v := 0) hx hb dX5_lacksOf_52 (by decide +kernel) ?_
    refine lv_istore (lv' := [(5, .int 0), (4, .int 0), (0, .ref this), (1, .ref a0), (2, .ref a1), (3, .int a2)]) hx hb dX5_lacksOf_53 hl (by decide +kernel) rfl (fun ls hl => ?_)
    have L_785 : ∀ (n_784 : Nat) (x_715 : Int32) (x_716 : Int32) (ri_717 : Nat → Nat → Int32) (H : Heap) (locs : List Loc) (ls : Array Slot), rg x_716 0 12 → (12 - (x_716).toInt).toNat < n_784 → FR 10 tg σ a1 (I, J, ri, rj, rq) (I_31, J, ri_717, rj, rq) → GX [1288, 1005] tg σ I ri rj I_31 ri_717 rj rq → va_P D vwCl (pq_P t σ (I_31, J, ri_717, rj, rq)) H → va_D A (pq_P t σ (I_31, J, ri_717, rj, rq)) → va_S A s.heap H locs → lv_has ls 7 [(0, .ref this), (1, .ref a0), (2, .ref a1), (3, .int a2), (4, .int x_715), (5, .int x_716)] → W p l e ({ frames := 4, cells := 0, slots := 0, locals := 105 } : Room) s m (List.toArray ([.ref this, .ref a0, .ref a1, .int a2] : List Value)) below meth c H locs 0 0 Q (F0 m 55 ls []) := by
      intro n_784
      induction n_784 with
      | zero => intro x_715 x_716 ri_717 H locs ls h_788 hm_783 hFr hG hP hD hS hl; exact absurd hm_783 (Nat.not_lt_zero _)
      | succ n_784 ih_786 =>
        intro x_715 x_716 ri_717 H locs ls h_788 hm_783 hFr hG hP hD hS hl
        refine lv_iload hx hb dX5_lacksOf_55 (lv_at hl 5 rfl) ?_
        refine lv_iload_n hx hb dX5_lacksOf_57 rfl (lv_at hl 3 rfl) ?_
        have K_853 : ∀  (H : Heap) (locs : List Loc) (ls : Array Slot), FR 10 tg σ a1 (I, J, ri, rj, rq) (I_31, J, ri_717, rj, rq) → GX [1288, 1005] tg σ I ri rj I_31 ri_717 rj rq → va_P D vwCl (pq_P t σ (I_31, J, ri_717, rj, rq)) H → va_D A (pq_P t σ (I_31, J, ri_717, rj, rq)) → va_S A s.heap H locs → lv_has ls 7 [(4, .int x_715)] → W p l e ({ frames := 4, cells := 0, slots := 0, locals := 105 } : Room) s m (List.toArray ([.ref this, .ref a0, .ref a1, .int a2] : List Value)) below meth c H locs 0 0 Q (F0 m 193 ls []) := by
          intro H locs ls hFr hG hP hD hS hl
          refine lv_iload hx hb dX5_lacksOf_193 (lv_at hl 0 rfl) ?_
          subst hQ
          exact W.iret (v := x_715) hx hb hr (fun t1 ht hW => ⟨⟨x_715, (σ, I_31, J, ri_717, rj, rq), rfl, ⟨I_31, ri_717, rfl, hG, hFr⟩, by rw [ht]; exact hP, va_K.moved hW.alike hK, hD⟩, hS.F ht⟩) hS.2.2 dX5_lacksOf_195
        refine lv_icmp_ge (tgt := 193) hx hb dX5_lacksOf_58 (by decide +kernel) (fun c_854 => ?_) (fun c_854 => ?_)
        · exact K_853 _ _ _ hFr hG hP hD hS (lv_sub hl [4] rfl)
        · have h_855 : rg x_716 0 11 := rg_lt1 (nle c_854) h_788 h_a2 (by decide +kernel)
          have h_856 : rg a2 1 12 := rg_lt2 (nle c_854) h_788 h_a2 (by decide +kernel)
          refine lv_iload hx hb dX5_lacksOf_61 (lv_at hl 4 rfl) ?_
          refine lv_aload_n hx hb dX5_lacksOf_63 rfl (lv_at hl 0 rfl) ?_
          refine pg_f (v := .int (I_31 160 this)) (C := RX5) (T := TX5) (N := 8) hx hb hts (tw_i inlX5) hown hK hP hL_this hK_this (by decide +kernel) rfl 0 (by decide +kernel) (hts _ (tw_c tw_1441)) rfl dX5_lacksOf_64 ?_
          refine lv_icmp_ge (tgt := 193) hx hb dX5_lacksOf_67 (by decide +kernel) (fun c_857 => ?_) (fun c_857 => ?_)
          · exact K_853 _ _ _ hFr hG hP hD hS (lv_sub hl [4] rfl)
          · have h_858 : rg x_715 (-2147483648) 2147483646 := rg_lt1 (nle c_857) (rg_full _) (rg_full _) (by decide +kernel)
            have h_859 : rg (I_31 160 this) (-2147483647) 2147483647 := rg_lt2 (nle c_857) (rg_full _) (rg_full _) (by decide +kernel)
            refine lv_aload_n hx hb dX5_lacksOf_70 rfl (lv_at hl 1 rfl) ?_
            refine pg_f (v := .int (I_31 320 a0)) (C := RX10) (T := TX10) (N := 13) hx hb hts (tw_i inlX10) hown hK hP hL_a0 hK_a0 (by decide +kernel) rfl 0 (by decide +kernel) (hts _ (tw_c tw_1449)) rfl dX5_lacksOf_71 ?_
            have h_860 : rg (I_31 320 a0) 0 600 := GX.rI hG 320 rfl
            refine lv_iload hx hb dX5_lacksOf_74 (lv_at hl 5 rfl) ?_
            refine lv_iadd hx hb dX5_lacksOf_76 ?_
            refine lv_topi (fun x_861 ex_861 => ?_)
            have h_862 : rg x_861 0 611 := rg_of_eq ex_861 (rg_add h_860 h_855 (by decide +kernel))
            refine lv_istore (lv' := [(6, .int x_861), (0, .ref this), (1, .ref a0), (2, .ref a1), (3, .int a2), (4, .int x_715), (5, .int x_716)]) hx hb dX5_lacksOf_77 hl (by decide +kernel) rfl (fun ls hl => ?_)
            refine lv_aload_n hx hb dX5_lacksOf_79 rfl (lv_at hl 3 rfl) ?_
            refine pg_f (v := .ref w_1) (C := RX10) (T := TX10) (N := 13) hx hb hts (tw_i inlX10) hown hK hP hL_a1 hK_a1 (by decide +kernel) rfl 7 (by decide +kernel) (hts _ (tw_c tw_1438)) (pq_hv rfl hR_w_1) dX5_lacksOf_80 ?_
            refine pg_f (v := .ref w_2) (C := RX2) (T := TX2) (N := 20) hx hb hts (tw_i inlX2) hown hK hP hL_w_1 hK_w_1 (by decide +kernel) rfl 14 (by decide +kernel) (hts _ (tw_c tw_1458)) (pq_hv rfl hR_w_2) dX5_lacksOf_83 ?_
            refine lv_aload_n hx hb dX5_lacksOf_86 rfl (lv_at hl 3 rfl) ?_
            refine pg_f (v := .ref w_1) (C := RX10) (T := TX10) (N := 13) hx hb hts (tw_i inlX10) hown hK hP hL_a1 hK_a1 (by decide +kernel) rfl 7 (by decide +kernel) (hts _ (tw_c tw_1438)) (pq_hv rfl hR_w_1) dX5_lacksOf_87 ?_
            refine pg_f (v := .int (I_31 65 w_1)) (C := RX2) (T := TX2) (N := 20) hx hb hts (tw_i inlX2) hown hK hP hL_w_1 hK_w_1 (by decide +kernel) rfl 1 (by decide +kernel) (hts _ (tw_c tw_1460)) rfl dX5_lacksOf_90 ?_
            have h_863 : rg (I_31 65 w_1) 0 40 := GX.rI hG 65 rfl
            refine lv_aload_n hx hb dX5_lacksOf_93 rfl (lv_at hl 1 rfl) ?_
            obtain ⟨w_864, hR_w_864, hL_w_864, hK_w_864, hN_w_864, hT_w_864⟩ := sh_a hSH 165 (ci := 5) (kd := 14) (len := 12) rfl (by decide +kernel) hL_this hK_this
            refine pg_f (v := .ref w_864) (C := RX5) (T := TX5) (N := 8) hx hb hts (tw_i inlX5) hown hK hP hL_this hK_this (by decide +kernel) rfl 5 (by decide +kernel) (hts _ (tw_c tw_145)) (pq_hv rfl hR_w_864) dX5_lacksOf_94 ?_
            refine lv_iload hx hb dX5_lacksOf_97 (lv_at hl 6 rfl) ?_
            refine pl_l hx hb hK hP hL_w_864 hK_w_864 hN_w_864 (rg_in h_855 (by decide +kernel)) dX5_lacksOf_99 ?_
            refine lv_topl (fun x_865 ex_865 => ?_)
            refine lv_aload_n hx hb dX5_lacksOf_100 rfl (lv_at hl 2 rfl) ?_
            obtain ⟨w_866, hR_w_866, hL_w_866, hK_w_866⟩ := sh_o hSH 326 (ci := 10) (kd := 7) rfl hL_a0 hK_a0
            have hO_w_866 : w_866 = vo σ 7 a0 := vo_k (c := 10) hO_a0 hR_w_866
            refine pg_f (v := .ref w_866) (C := RX10) (T := TX10) (N := 13) hx hb hts (tw_i inlX10) hown hK hP hL_a0 hK_a0 (by decide +kernel) rfl 6 (by decide +kernel) (hts _ (tw_c tw_1461)) (pq_hv rfl hR_w_866) dX5_lacksOf_101 ?_
            obtain ⟨w_867, hR_w_867, hL_w_867, hK_w_867, hN_w_867, hT_w_867⟩ := sh_a hSH 233 (ci := 7) (kd := 13) (len := 12) rfl (by decide +kernel) hL_w_866 hK_w_866
            have hO_w_867 : w_867 = vrow σ 233 a0 := vo_k (c := 7) hO_w_866 hR_w_867
            refine pg_f (v := .ref w_867) (C := RX7) (T := TX7) (N := 15) hx hb hts (tw_i inlX7) hown hK hP hL_w_866 hK_w_866 (by decide +kernel) rfl 9 (by decide +kernel) (hts _ (tw_c tw_1462)) (pq_hv rfl hR_w_867) dX5_lacksOf_104 ?_
            refine lv_iload hx hb dX5_lacksOf_107 (lv_at hl 0 rfl) ?_
            refine lv_bipush (v := 12) hx hb dX5_lacksOf_109 (by decide +kernel) ?_
            refine lv_irem hx hb dX5_lacksOf_111 (by decide +kernel) ?_
            refine lv_topi (fun x_868 ex_868 => ?_)
            have h_869 : rg x_868 0 11 := rg_of_eq ex_868 (rg_rem h_862 rfl (by decide +kernel))
            refine pl_i hx hb hK hP hL_w_867 hK_w_867 hN_w_867 (rg_in h_869 (by decide +kernel)) dX5_lacksOf_112 ?_
            refine lv_topi (fun x_870 ex_870 => ?_)
            refine pk_v (va_runV (As := [.int (I_31 65 w_1), .long x_865, .int x_870]) (rest := []) ⟨hx, hb, hml, hown, hts⟩ (s_X9_fillUp l D t σ I_31 J ri_717 rj rq H.size tg hSH hG.1 w_2 (I_31 65 w_1) x_865 x_870 hL_w_2 hK_w_2 (rg_w h_863 (by decide +kernel)) a1 hL_a1 hK_a1 hO_w_2) (cwV 3 hts (tw_V tw_1471 tw_1084 tw_1085 tw_94 tw_1086) rfl rfl rfl cv_yX9_fillUp_3 ⟨Nat.le_of_ble_eq_true rfl, Nat.le_of_ble_eq_true rfl⟩) ⟨pq_blind, pq_recv hK hP hL_w_2 hK_w_2 (by decide +kernel) rfl, pq_pre hK hN hP hD⟩ rfl rfl hl.1 rfl (lv_room (Nat.le_of_ble_eq_true rfl)) dX5_lacksOf_113 ⟨Nat.le_of_ble_eq_true rfl, Nat.le_of_ble_eq_true rfl⟩) hD hS hA (fun σ1 μ1 H locs hw_872 hP hD hS => ?_)
            obtain ⟨ri_873, hu_874, hg_875, hfn_877, hfr_878⟩ := hw_872
            obtain ⟨hu_874a, hu_874b⟩ := Prod.mk.inj hu_874
            rw [hu_874a, hu_874b] at hP hD
            replace hFr := fr_tr hFr hfr_878
            have hG := GX.tr hG hg_875 (by decide +kernel)
            refine lv_iload hx hb dX5_lacksOf_116 (lv_at hl 5 rfl) ?_
            refine lv_aload_n hx hb dX5_lacksOf_118 rfl (lv_at hl 3 rfl) ?_
            refine pg_f (v := .ref w_15) (C := RX10) (T := TX10) (N := 13) hx hb hts (tw_i inlX10) hown hK hP hL_a1 hK_a1 (by decide +kernel) rfl 8 (by decide +kernel) (hts _ (tw_c tw_1446)) (pq_hv rfl hR_w_15) dX5_lacksOf_119 ?_
            refine lv_aload_n hx hb dX5_lacksOf_122 rfl (lv_at hl 3 rfl) ?_
            refine pg_f (v := .ref w_1) (C := RX10) (T := TX10) (N := 13) hx hb hts (tw_i inlX10) hown hK hP hL_a1 hK_a1 (by decide +kernel) rfl 7 (by decide +kernel) (hts _ (tw_c tw_1438)) (pq_hv rfl hR_w_1) dX5_lacksOf_123 ?_
            refine pk_i (va_runV (As := [.ref w_1]) (rest := [.int x_715]) ⟨hx, hb, hml, hown, hts⟩ (s_X0_drink l D t σ I_31 J ri_873 rj rq H.size tg hSH hG.1 w_15 w_1 hL_w_15 hK_w_15 hL_w_1 hK_w_1 a1 hL_a1 hK_a1 hO_w_15 hO_w_1) (cwV 1 hts (tw_V tw_1472 tw_1095 tw_1096 tw_45 tw_1097) rfl rfl rfl cv_yX0_drink_1 ⟨Nat.le_of_ble_eq_true rfl, Nat.le_of_ble_eq_true rfl⟩) ⟨pq_blind, pq_recv hK hP hL_w_15 hK_w_15 (by decide +kernel) rfl, pq_pre hK hN hP hD⟩ rfl rfl hl.1 rfl (lv_room (Nat.le_of_ble_eq_true rfl)) dX5_lacksOf_126 ⟨Nat.le_of_ble_eq_true rfl, Nat.le_of_ble_eq_true rfl⟩) hD hS hA (fun x_879 σ1 μ1 H locs hw_880 hP hD hS => ?_)
            obtain ⟨ri_881, hu_882, hg_883, hfn_885, hfr_886⟩ := hw_880
            obtain ⟨hu_882a, hu_882b⟩ := Prod.mk.inj hu_882
            rw [hu_882a, hu_882b] at hP hD
            replace hFr := fr_tr hFr hfr_886
            have hG := GX.tr hG hg_883 (by decide +kernel)
            refine lv_iadd hx hb dX5_lacksOf_129 ?_
            refine lv_topi (fun x_887 ex_887 => ?_)
            refine lv_istore (lv' := [(4, .int x_887), (6, .int x_861), (0, .ref this), (1, .ref a0), (2, .ref a1), (3, .int a2), (5, .int x_716)]) hx hb dX5_lacksOf_130 hl (by decide +kernel) rfl (fun ls hl => ?_)
            refine lv_iload hx hb dX5_lacksOf_132 (lv_at hl 0 rfl) ?_
            refine lv_aload_n hx hb dX5_lacksOf_134 rfl (lv_at hl 4 rfl) ?_
            refine pg_f (v := .ref w_15) (C := RX10) (T := TX10) (N := 13) hx hb hts (tw_i inlX10) hown hK hP hL_a1 hK_a1 (by decide +kernel) rfl 8 (by decide +kernel) (hts _ (tw_c tw_1446)) (pq_hv rfl hR_w_15) dX5_lacksOf_135 ?_
            refine lv_aload_n hx hb dX5_lacksOf_138 rfl (lv_at hl 2 rfl) ?_
            obtain ⟨w_888, hR_w_888, hL_w_888, hK_w_888, hN_w_888, hT_w_888⟩ := sh_a hSH 166 (ci := 5) (kd := 13) (len := 60) rfl (by decide +kernel) hL_this hK_this
            refine pg_f (v := .ref w_888) (C := RX5) (T := TX5) (N := 8) hx hb hts (tw_i inlX5) hown hK hP hL_this hK_this (by decide +kernel) rfl 6 (by decide +kernel) (hts _ (tw_c tw_146)) (pq_hv rfl hR_w_888) dX5_lacksOf_139 ?_
            refine lv_iload hx hb dX5_lacksOf_142 (lv_at hl 6 rfl) ?_
            refine lv_iconst (v := 5) hx hb dX5_lacksOf_144 (by decide +kernel) ?_
            refine lv_imul hx hb dX5_lacksOf_145 ?_
            refine lv_topi (fun x_889 ex_889 => ?_)
            have h_890 : rg x_889 0 55 := rg_of_eq ex_889 (rg_mul h_855 (rg_k (5 : Int32) 5 rfl) (by decide +kernel))
            refine pk_i (va_runV (As := [.ref w_888, .int x_889]) (rest := [.int x_887]) ⟨hx, hb, hml, hown, hts⟩ (s_X0_sleep_166 l D t σ I_31 J ri_881 rj rq H.size tg hSH hG.1 w_15 w_888 x_889 hL_w_15 hK_w_15 hL_w_888 hK_w_888 hN_w_888 hT_w_888 (rg_w h_890 (by decide +kernel)) a1 hL_a1 hK_a1 hO_w_15) (cwV 2 hts (tw_V tw_1473 tw_1121 tw_1122 tw_45 tw_1123) rfl rfl rfl cv_yX0_sleep_2 ⟨Nat.le_of_ble_eq_true rfl, Nat.le_of_ble_eq_true rfl⟩) ⟨pq_blind, pq_recv hK hP hL_w_15 hK_w_15 (by decide +kernel) rfl, pq_pre hK hN hP hD⟩ rfl rfl hl.1 rfl (lv_room (Nat.le_of_ble_eq_true rfl)) dX5_lacksOf_146 ⟨Nat.le_of_ble_eq_true rfl, Nat.le_of_ble_eq_true rfl⟩) hD hS hA (fun x_891 σ1 μ1 H locs hw_892 hP hD hS => ?_)
            obtain ⟨ri_893, hu_894, hg_895, hfr_898⟩ := hw_892
            obtain ⟨hu_894a, hu_894b⟩ := Prod.mk.inj hu_894
            rw [hu_894a, hu_894b] at hP hD
            replace hFr := fr_tr hFr hfr_898
            have hG := GX.tr hG hg_895 (by decide +kernel)
            refine lv_iadd hx hb dX5_lacksOf_149 ?_
            refine lv_topi (fun x_899 ex_899 => ?_)
            refine lv_istore (lv' := [(4, .int x_899), (6, .int x_861), (0, .ref this), (1, .ref a0), (2, .ref a1), (3, .int a2), (5, .int x_716)]) hx hb dX5_lacksOf_150 hl (by decide +kernel) rfl (fun ls hl => ?_)
            refine lv_aload_n hx hb dX5_lacksOf_152 rfl (lv_at hl 3 rfl) ?_
            refine pg_f (v := .int (I_31 322 a0)) (C := RX10) (T := TX10) (N := 13) hx hb hts (tw_i inlX10) hown hK hP hL_a0 hK_a0 (by decide +kernel) rfl 2 (by decide +kernel) (hts _ (tw_c tw_1463)) rfl dX5_lacksOf_153 ?_
            have K_918 : ∀  (ri_915 : Nat → Nat → Int32) (H : Heap) (locs : List Loc) (ls : Array Slot), FR 10 tg σ a1 (I, J, ri, rj, rq) (I_31, J, ri_915, rj, rq) → GX [1288, 1005] tg σ I ri rj I_31 ri_915 rj rq → va_P D vwCl (pq_P t σ (I_31, J, ri_915, rj, rq)) H → va_D A (pq_P t σ (I_31, J, ri_915, rj, rq)) → va_S A s.heap H locs → lv_has ls 7 [(0, .ref this), (1, .ref a0), (2, .ref a1), (3, .int a2), (4, .int x_899), (5, .int x_716)] → W p l e ({ frames := 4, cells := 0, slots := 0, locals := 105 } : Room) s m (List.toArray ([.ref this, .ref a0, .ref a1, .int a2] : List Value)) below meth c H locs 0 0 Q (F0 m 187 ls []) := by
              intro ri_915 H locs ls hFr hG hP hD hS hl
              obtain ⟨x_919, ex_919⟩ : ∃ y : Int32, y = x_716 + Int32.ofInt 1 := ⟨_, rfl⟩
              have h_920 : rg x_919 1 12 := rg_of_eq ex_919 (rg_add h_855 (rg_k (Int32.ofInt 1) 1 rfl) (by decide +kernel))
              refine lv_iinc (v := x_919) (lv' := [(5, .int x_919), (0, .ref this), (1, .ref a0), (2, .ref a1), (3, .int a2), (4, .int x_899)]) hx hb dX5_lacksOf_187 hl (k := 5) rfl ex_919.symm (by decide +kernel) rfl (fun ls hl => ?_)
              refine lv_goto (tgt := 55) hx hb dX5_lacksOf_190 (by decide +kernel) ?_
              exact ih_786 x_899 x_919 ri_915 _ _ _ (rg_w h_920 (by decide +kernel)) (ms_up 1 hm_783 ex_919 rfl (by decide +kernel) h_855 (by decide +kernel) (by decide +kernel)) hFr hG hP hD hS (lv_sub hl [1, 2, 3, 4, 5, 0] rfl)
            refine lv_if_le (tgt := 187) hx hb dX5_lacksOf_156 (by decide +kernel) (fun c_921 => ?_) (fun c_921 => ?_)
            · have h_922 : rg (I_31 322 a0) (-2147483648) 0 := rg_le1 c_921 (rg_full _) (rg_k (0 : Int32) 0 rfl) (by decide +kernel)
              exact K_918 ri_893 _ _ _ hFr hG hP hD hS (lv_sub hl [2, 3, 4, 5, 0, 6] rfl)
            · have h_923 : rg (I_31 322 a0) 1 2147483647 := rg_lt2 (nle c_921) (rg_k (0 : Int32) 0 rfl) (rg_full _) (by decide +kernel)
              refine lv_aload_n hx hb dX5_lacksOf_159 rfl (lv_at hl 4 rfl) ?_
              refine pg_f (v := .ref w_15) (C := RX10) (T := TX10) (N := 13) hx hb hts (tw_i inlX10) hown hK hP hL_a1 hK_a1 (by decide +kernel) rfl 8 (by decide +kernel) (hts _ (tw_c tw_1446)) (pq_hv rfl hR_w_15) dX5_lacksOf_160 ?_
              refine lv_aload_n hx hb dX5_lacksOf_163 rfl (lv_at hl 2 rfl) ?_
              obtain ⟨w_924, hR_w_924, hL_w_924, hK_w_924, hN_w_924, hT_w_924⟩ := sh_a hSH 167 (ci := 5) (kd := 14) (len := 12) rfl (by decide +kernel) hL_this hK_this
              refine pg_f (v := .ref w_924) (C := RX5) (T := TX5) (N := 8) hx hb hts (tw_i inlX5) hown hK hP hL_this hK_this (by decide +kernel) rfl 7 (by decide +kernel) (hts _ (tw_c tw_147)) (pq_hv rfl hR_w_924) dX5_lacksOf_164 ?_
              refine lv_iload hx hb dX5_lacksOf_167 (lv_at hl 6 rfl) ?_
              refine pl_l hx hb hK hP hL_w_924 hK_w_924 hN_w_924 (rg_in h_855 (by decide +kernel)) dX5_lacksOf_169 ?_
              refine lv_topl (fun x_925 ex_925 => ?_)
              refine lv_aload_n hx hb dX5_lacksOf_170 rfl (lv_at hl 2 rfl) ?_
              obtain ⟨w_926, hR_w_926, hL_w_926, hK_w_926, hN_w_926, hT_w_926⟩ := sh_a hSH 163 (ci := 5) (kd := 13) (len := 40) rfl (by decide +kernel) hL_this hK_this
              refine pg_f (v := .ref w_926) (C := RX5) (T := TX5) (N := 8) hx hb hts (tw_i inlX5) hown hK hP hL_this hK_this (by decide +kernel) rfl 3 (by decide +kernel) (hts _ (tw_c tw_144)) (pq_hv rfl hR_w_926) dX5_lacksOf_171 ?_
              refine lv_aload_n hx hb dX5_lacksOf_174 rfl (lv_at hl 2 rfl) ?_
              refine pg_f (v := .int (I_31 164 this)) (C := RX5) (T := TX5) (N := 8) hx hb hts (tw_i inlX5) hown hK hP hL_this hK_this (by decide +kernel) rfl 4 (by decide +kernel) (hts _ (tw_c tw_1464)) rfl dX5_lacksOf_175 ?_
              have h_927 : rg (I_31 164 this) 0 40 := GX.rI hG 164 rfl
              refine lv_aload_n hx hb dX5_lacksOf_178 rfl (lv_at hl 3 rfl) ?_
              refine pg_f (v := .int (I_31 322 a0)) (C := RX10) (T := TX10) (N := 13) hx hb hts (tw_i inlX10) hown hK hP hL_a0 hK_a0 (by decide +kernel) rfl 2 (by decide +kernel) (hts _ (tw_c tw_1463)) rfl dX5_lacksOf_179 ?_
              refine lv_iload hx hb dX5_lacksOf_182 (lv_at hl 1 rfl) ?_
              refine pk_v (va_runV (As := [.long x_925, .ref w_926, .int (I_31 164 this), .int (I_31 322 a0), .int x_861]) (rest := []) ⟨hx, hb, hml, hown, hts⟩ (s_X0_board_163 l D t σ I_31 J ri_893 rj rq H.size tg hSH hG.1 w_15 x_925 w_926 (I_31 164 this) (I_31 322 a0) x_861 hL_w_15 hK_w_15 hL_w_926 hK_w_926 hN_w_926 hT_w_926 a1 hL_a1 hK_a1 hO_w_15) (cwV 5 hts (tw_V tw_1474 tw_1168 tw_1169 tw_45 tw_1170) rfl rfl rfl cv_yX0_board_5 ⟨Nat.le_of_ble_eq_true rfl, Nat.le_of_ble_eq_true rfl⟩) ⟨pq_blind, pq_recv hK hP hL_w_15 hK_w_15 (by decide +kernel) rfl, pq_pre hK hN hP hD⟩ rfl rfl hl.1 rfl (lv_room (Nat.le_of_ble_eq_true rfl)) dX5_lacksOf_184 ⟨Nat.le_of_ble_eq_true rfl, Nat.le_of_ble_eq_true rfl⟩) hD hS hA (fun σ1 μ1 H locs hw_929 hP hD hS => ?_)
              obtain ⟨ri_930, hu_931, hg_932, hfr_935⟩ := hw_929
              obtain ⟨hu_931a, hu_931b⟩ := Prod.mk.inj hu_931
              rw [hu_931a, hu_931b] at hP hD
              replace hFr := fr_tr hFr hfr_935
              have hG := GX.tr hG hg_932 (by decide +kernel)
              exact K_918 ri_930 _ _ _ hFr hG hP hD hS (lv_sub hl [2, 3, 4, 5, 0, 6] rfl)
    exact L_785 _ (0 : Int32) (0 : Int32) ri_32 _ _ _ (rg_w (rg_k (0 : Int32) 0 rfl) (by decide +kernel)) (Nat.lt_succ_self _) hFr hG hP hD hS (lv_sub hl [2, 3, 4, 5, 1, 0] rfl)
  exact go _ _ _ hP hD hS hl

set_option maxHeartbeats 4000000 in
set_option maxRecDepth 100000 in
theorem s_X11_copy_162_161 (l : Launch) (D : va_G) (t : pq_T) (σ : pq_S) (I : Nat → Nat → Int32) (J : Nat → Nat → Int64) (ri : Nat → Nat → Int32) (rj : Nat → Nat → Int64) (rq : Nat → Nat → Option Nat) (sz : Nat) (tg : Nat → Nat) (hSH : SH σ tg) (hG0 : GS tg σ I ri rq) (a0 : Nat) (a1 : Nat) (hL_a0 : a0 ∈ σ.1) (hK_a0 : σ.2.1 a0 = 13) (hN_a0 : σ.2.2.2 a0 = 5) (hT_a0 : tg a0 = 162) (hL_a1 : a1 ∈ σ.1) (hK_a1 : σ.2.1 a1 = 13) (hN_a1 : σ.2.2.2 a1 = 5) (hT_a1 : tg a1 = 161) : MetV l yX11_copy (wa yX11_copy cX11_copy 2 none) ({ frames := 1, cells := 0, slots := 0, locals := 60 }) [.ref a0, .ref a1] D t σ (I, J, ri, rj, rq) sz 0 0 (fun (u : pq_S × pq_M) => ∃ ri' : Nat → Nat → Int32, u = (σ, I, J, ri', rj, rq) ∧ GX [] tg σ I ri rj I ri' rj rq ∧ (∀ j, j < 5 → ri' a1 j = ri a0 j) ∧ (∀ q, q ≠ a1 → ri' q = ri q) ∧ (ri' = va_up ri a1 (va_cpy (ri a0) (ri a1) 0 0 5))) := by
  refine Met.ofW (cc := cX11_copy) (maxL := 2) (ret := none) (by decide +kernel) rfl ?_
  intro p e s m args below meth c s₁ B hml hv
  obtain ⟨rfl, hsz, hP, hK, hD0, hN⟩ := hv
  have hx := B.exec
  have hb := B.bytes
  have hr := B.returns
  have hts := atoms_spec (ws := (wa yX11_copy cX11_copy 2 none)) B.pre
  have hown : s.vm.findClass RX11 = some m.cls := findClass_of_methodNamed B.named
  have hlocks := B.notSynchronized
  subst hsz
  have hD : va_D (pq_B t σ (I, J, ri, rj, rq) s.heap.size) (pq_P t σ (I, J, ri, rj, rq)) := hD0.self
  generalize hAe : pq_B t σ (I, J, ri, rj, rq) s.heap.size = A at hD ⊢
  have hA : ∀ q : Nat, s.heap.size ≤ q → A q := fun q h => by rw [← hAe]; exact Or.inr h
  have hS : va_S A s.heap s.heap [] := va_S.rf
  have hG : GX [] tg σ I ri rj I ri rj rq := ⟨hG0, fun _ _ _ => rfl, fun _ _ _ _ _ => rfl, fun _ _ _ _ _ => rfl⟩
  have hl := lv_entry ([.ref a0, .ref a1]) (n := 2) (Nat.le_of_ble_eq_true rfl)
  rw [lg_entry_eq]
  generalize (lg_sl ([.ref a0, .ref a1]) ++ List.replicate (2 - (lg_sl ([.ref a0, .ref a1])).length) Slot.unset).toArray = ls at hl ⊢
  have hl : lv_has ls 2 [(0, .ref a0), (1, .ref a1)] := hl
  refine q_gen (fun Q hQ => ?_)
  have go : ∀ (H : Heap) (locs : List Loc) (ls : Array Slot), va_P D vwCl (pq_P t σ (I, J, ri, rj, rq)) H → va_D A (pq_P t σ (I, J, ri, rj, rq)) → va_S A s.heap H locs → lv_has ls 2 [(0, .ref a0), (1, .ref a1)] → W p l e ({ frames := 1, cells := 0, slots := 0, locals := 60 } : Room) s m (List.toArray ([.ref a0, .ref a1] : List Value)) below meth c H locs 0 0 Q (F0 m 0 ls []) := by
    intro H locs ls hP hD hS hl
    refine lv_aload_n hx hb dX11_copy_0 rfl (lv_at hl 0 rfl) ?_
    refine lv_iconst (v := 0) hx hb dX11_copy_1 (by decide +kernel) ?_
    refine lv_aload_n hx hb dX11_copy_2 rfl (lv_at hl 1 rfl) ?_
    refine lv_iconst (v := 0) hx hb dX11_copy_3 (by decide +kernel) ?_
    refine lv_aload_n hx hb dX11_copy_4 rfl (lv_at hl 0 rfl) ?_
    refine pn_i (v := 5) hx hb hK hP hL_a0 hK_a0 hN_a0 (by decide +kernel) dX11_copy_5 ?_
    refine lv_aload_n hx hb dX11_copy_6 rfl (lv_at hl 1 rfl) ?_
    refine pn_i (v := 5) hx hb hK hP hL_a1 hK_a1 hN_a1 (by decide +kernel) dX11_copy_7 ?_
    refine va_mmin hx hb (hml.trans hl.1.symm) hown (hts _ (tw_c tw_1103)) (hts _ (tw_c tw_467)) (hts _ (tw_c tw_276)) (hts _ (tw_c tw_468)) (Nat.le_of_ble_eq_true rfl) (Nat.le_of_ble_eq_true rfl) (Nat.zero_le _) (Nat.zero_le _) dX11_copy_8 ?_
    refine lv_topi (fun x_1 ex_1 => ?_)
    have h_2 : rg x_1 5 5 := rg_of_eq ex_1 (rg_min2 (rg_k (5 : Int32) 5 rfl) (rg_k (5 : Int32) 5 rfl) (by decide +kernel))
    refine pc_i hx hb (hml.trans hl.1.symm) hown (hts _ (tw_c tw_1104)) (hts _ (tw_c tw_1105)) (hts _ (tw_c tw_1106)) (hts _ (tw_c tw_1107)) hK hP hD hS hL_a0 hK_a0 hN_a0 hL_a1 hK_a1 hN_a1 (rg_pos (rg_k (0 : Int32) 0 rfl) (by decide +kernel)) (rg_pos h_2 (by decide +kernel)) (rg_cp (rg_k (0 : Int32) 0 rfl) h_2 (by decide +kernel)) (rg_cl h_2 (by decide +kernel)) (Nat.le_of_ble_eq_true rfl) (Nat.le_of_ble_eq_true rfl) dX11_copy_11 (fun r_3 H locs er_3 hP hD hS => ?_)
    have hG := GX.cR hG hSH hT_a0 rfl hT_a1 rfl er_3 (by decide +kernel)
    subst hQ
    exact W.vret hx hb hr (fun t1 ht hW => ⟨⟨(σ, I, J, r_3, rj, rq), rfl, ⟨r_3, rfl, hG, (cpy_eq er_3 h_2 rfl), (fun q hq => by rw [er_3, va_up_ne _ _ hq]), (by rw [er_3, show (x_1).toNatClampNeg = 5 from by have z_i := clampE x_1; have z_r := h_2; have z_1 := z_r.1; have z_2 := z_r.2; omega]; rfl)⟩, by rw [ht]; exact hP, va_K.moved hW.alike hK, hD⟩, hS.F ht⟩) hS.2.2 dX11_copy_14
  exact go _ _ _ hP hD hS hl

set_option maxHeartbeats 4000000 in
set_option maxRecDepth 100000 in
theorem s_X5_swap (l : Launch) (D : va_G) (t : pq_T) (σ : pq_S) (I : Nat → Nat → Int32) (J : Nat → Nat → Int64) (ri : Nat → Nat → Int32) (rj : Nat → Nat → Int64) (rq : Nat → Nat → Option Nat) (sz : Nat) (tg : Nat → Nat) (hSH : SH σ tg) (hG0 : GS tg σ I ri rq) (this : Nat) (a0 : Int32) (a1 : Int32) (hL_this : this ∈ σ.1) (hK_this : σ.2.1 this = 5) (h_a0 : rg a0 0 4) (h_a1 : rg a1 0 4) (M : Nat) (hL_M : M ∈ σ.1) (hK_M : σ.2.1 M = 10) : MetV l yX5_swap (wa yX5_swap cX5_swap 4 none) ({ frames := 0, cells := 0, slots := 0, locals := 0 }) [.ref this, .int a0, .int a1] D t σ (I, J, ri, rj, rq) sz 0 0 (fun (u : pq_S × pq_M) => ∃ ri' : Nat → Nat → Int32, u = (σ, I, J, ri', rj, rq) ∧ GX [] tg σ I ri rj I ri' rj rq ∧ FR 10 tg σ M (I, J, ri, rj, rq) (I, J, ri', rj, rq)) := by
  refine Met.ofW (cc := cX5_swap) (maxL := 4) (ret := none) (by decide +kernel) rfl ?_
  intro p e s m args below meth c s₁ B hml hv
  obtain ⟨rfl, hsz, hP, hK, hD0, hN⟩ := hv
  have hx := B.exec
  have hb := B.bytes
  have hr := B.returns
  have hts := atoms_spec (ws := (wa yX5_swap cX5_swap 4 none)) B.pre
  have hown : s.vm.findClass RX5 = some m.cls := findClass_of_methodNamed B.named
  have hlocks := B.notSynchronized
  subst hsz
  have hD : va_D (pq_B t σ (I, J, ri, rj, rq) s.heap.size) (pq_P t σ (I, J, ri, rj, rq)) := hD0.self
  generalize hAe : pq_B t σ (I, J, ri, rj, rq) s.heap.size = A at hD ⊢
  have hA : ∀ q : Nat, s.heap.size ≤ q → A q := fun q h => by rw [← hAe]; exact Or.inr h
  have hS : va_S A s.heap s.heap [] := va_S.rf
  have hG : GX [] tg σ I ri rj I ri rj rq := ⟨hG0, fun _ _ _ => rfl, fun _ _ _ _ _ => rfl, fun _ _ _ _ _ => rfl⟩
  have hl := lv_entry ([.ref this, .int a0, .int a1]) (n := 4) (Nat.le_of_ble_eq_true rfl)
  rw [lg_entry_eq]
  generalize (lg_sl ([.ref this, .int a0, .int a1]) ++ List.replicate (4 - (lg_sl ([.ref this, .int a0, .int a1])).length) Slot.unset).toArray = ls at hl ⊢
  have hl : lv_has ls 4 [(0, .ref this), (1, .int a0), (2, .int a1)] := hl
  refine q_gen (fun Q hQ => ?_)
  have go : ∀ (H : Heap) (locs : List Loc) (ls : Array Slot), va_P D vwCl (pq_P t σ (I, J, ri, rj, rq)) H → va_D A (pq_P t σ (I, J, ri, rj, rq)) → va_S A s.heap H locs → lv_has ls 4 [(0, .ref this), (1, .int a0), (2, .int a1)] → W p l e ({ frames := 0, cells := 0, slots := 0, locals := 0 } : Room) s m (List.toArray ([.ref this, .int a0, .int a1] : List Value)) below meth c H locs 0 0 Q (F0 m 0 ls []) := by
    intro H locs ls hP hD hS hl
    have hVT : VT 10 σ tg M := vt_10 hSH hL_M hK_M
    have hFr : FR 10 tg σ M (I, J, ri, rj, rq) (I, J, ri, rj, rq) := fr_rf
    refine lv_aload_n hx hb dX5_swap_0 rfl (lv_at hl 0 rfl) ?_
    obtain ⟨w_1, hR_w_1, hL_w_1, hK_w_1, hN_w_1, hT_w_1⟩ := sh_a hSH 162 (ci := 5) (kd := 13) (len := 5) rfl (by decide +kernel) hL_this hK_this
    refine pg_f (v := .ref w_1) (C := RX5) (T := TX5) (N := 8) hx hb hts (tw_i inlX5) hown hK hP hL_this hK_this (by decide +kernel) rfl 2 (by decide +kernel) (hts _ (tw_c tw_143)) (pq_hv rfl hR_w_1) dX5_swap_1 ?_
    refine lv_iload_n hx hb dX5_swap_4 rfl (lv_at hl 1 rfl) ?_
    refine pl_i hx hb hK hP hL_w_1 hK_w_1 hN_w_1 (rg_in h_a0 (by decide +kernel)) dX5_swap_5 ?_
    refine lv_topi (fun x_2 ex_2 => ?_)
    have h_3 : rg x_2 0 4 := rg_of_eq ex_2 (GX.rR hG hT_w_1 rfl)
    refine lv_istore_n (lv' := [(3, .int x_2), (0, .ref this), (1, .int a0), (2, .int a1)]) hx hb dX5_swap_6 rfl hl (by decide +kernel) rfl (fun ls hl => ?_)
    refine lv_aload_n hx hb dX5_swap_7 rfl (lv_at hl 1 rfl) ?_
    refine pg_f (v := .ref w_1) (C := RX5) (T := TX5) (N := 8) hx hb hts (tw_i inlX5) hown hK hP hL_this hK_this (by decide +kernel) rfl 2 (by decide +kernel) (hts _ (tw_c tw_143)) (pq_hv rfl hR_w_1) dX5_swap_8 ?_
    refine lv_iload_n hx hb dX5_swap_11 rfl (lv_at hl 2 rfl) ?_
    refine lv_aload_n hx hb dX5_swap_12 rfl (lv_at hl 1 rfl) ?_
    refine pg_f (v := .ref w_1) (C := RX5) (T := TX5) (N := 8) hx hb hts (tw_i inlX5) hown hK hP hL_this hK_this (by decide +kernel) rfl 2 (by decide +kernel) (hts _ (tw_c tw_143)) (pq_hv rfl hR_w_1) dX5_swap_13 ?_
    refine lv_iload_n hx hb dX5_swap_16 rfl (lv_at hl 3 rfl) ?_
    refine pl_i hx hb hK hP hL_w_1 hK_w_1 hN_w_1 (rg_in h_a1 (by decide +kernel)) dX5_swap_17 ?_
    refine lv_topi (fun x_4 ex_4 => ?_)
    have h_5 : rg x_4 0 4 := rg_of_eq ex_4 (GX.rR hG hT_w_1 rfl)
    refine pt_i hx hb hK hP hD hS hL_w_1 hK_w_1 hN_w_1 (rg_in h_a0 (by decide +kernel)) dX5_swap_18 (fun r_6 H locs er_6 hP hD hS => ?_)
    replace hFr := fr_R5 hFr hT_w_1 (by decide +kernel) er_6
    have hG := GX.wR hG hSH hT_w_1 rfl er_6 (rg_w h_5 (by decide +kernel)) (by decide +kernel)
    refine lv_aload_n hx hb dX5_swap_19 rfl (lv_at hl 1 rfl) ?_
    refine pg_f (v := .ref w_1) (C := RX5) (T := TX5) (N := 8) hx hb hts (tw_i inlX5) hown hK hP hL_this hK_this (by decide +kernel) rfl 2 (by decide +kernel) (hts _ (tw_c tw_143)) (pq_hv rfl hR_w_1) dX5_swap_20 ?_
    refine lv_iload_n hx hb dX5_swap_23 rfl (lv_at hl 3 rfl) ?_
    refine lv_iload_n hx hb dX5_swap_24 rfl (lv_at hl 0 rfl) ?_
    refine pt_i hx hb hK hP hD hS hL_w_1 hK_w_1 hN_w_1 (rg_in h_a1 (by decide +kernel)) dX5_swap_25 (fun r_7 H locs er_7 hP hD hS => ?_)
    replace hFr := fr_R5 hFr hT_w_1 (by decide +kernel) er_7
    have hG := GX.wR hG hSH hT_w_1 rfl er_7 (rg_w h_3 (by decide +kernel)) (by decide +kernel)
    subst hQ
    exact W.vret hx hb hr (fun t1 ht hW => ⟨⟨(σ, I, J, r_7, rj, rq), rfl, ⟨r_7, rfl, hG, hFr⟩, by rw [ht]; exact hP, va_K.moved hW.alike hK, hD⟩, hS.F ht⟩) hS.2.2 dX5_swap_26
  exact go _ _ _ hP hD hS hl

set_option maxHeartbeats 4000000 in
set_option maxRecDepth 100000 in
theorem s_X5_toNextOrder (l : Launch) (D : va_G) (t : pq_T) (σ : pq_S) (I : Nat → Nat → Int32) (J : Nat → Nat → Int64) (ri : Nat → Nat → Int32) (rj : Nat → Nat → Int64) (rq : Nat → Nat → Option Nat) (sz : Nat) (tg : Nat → Nat) (hSH : SH σ tg) (hG0 : GS tg σ I ri rq) (this : Nat) (a0 : Int32) (hL_this : this ∈ σ.1) (hK_this : σ.2.1 this = 5) (h_a0 : rg a0 0 5) (M : Nat) (hL_M : M ∈ σ.1) (hK_M : σ.2.1 M = 10) : MetI l yX5_toNextOrder (wa yX5_toNextOrder cX5_toNextOrder 6 (some .boolean)) ({ frames := 1, cells := 0, slots := 0, locals := 23 }) [.ref this, .int a0] D t σ (I, J, ri, rj, rq) sz 0 0 (fun (r : Int32) (u : pq_S × pq_M) => ∃ ri' : Nat → Nat → Int32, u = (σ, I, J, ri', rj, rq) ∧ GX [] tg σ I ri rj I ri' rj rq ∧ FR 10 tg σ M (I, J, ri, rj, rq) (I, J, ri', rj, rq) ∧ ((r = 1 ∧ True) ∨ (r = 0 ∧ True))) := by
  refine Met.ofW (cc := cX5_toNextOrder) (maxL := 6) (ret := (some .boolean)) (by decide +kernel) rfl ?_
  intro p e s m args below meth c s₁ B hml hv
  obtain ⟨rfl, hsz, hP, hK, hD0, hN⟩ := hv
  have hx := B.exec
  have hb := B.bytes
  have hr := B.returns
  have hts := atoms_spec (ws := (wa yX5_toNextOrder cX5_toNextOrder 6 (some .boolean))) B.pre
  have hown : s.vm.findClass RX5 = some m.cls := findClass_of_methodNamed B.named
  have hlocks := B.notSynchronized
  subst hsz
  have hD : va_D (pq_B t σ (I, J, ri, rj, rq) s.heap.size) (pq_P t σ (I, J, ri, rj, rq)) := hD0.self
  generalize hAe : pq_B t σ (I, J, ri, rj, rq) s.heap.size = A at hD ⊢
  have hA : ∀ q : Nat, s.heap.size ≤ q → A q := fun q h => by rw [← hAe]; exact Or.inr h
  have hS : va_S A s.heap s.heap [] := va_S.rf
  have hG : GX [] tg σ I ri rj I ri rj rq := ⟨hG0, fun _ _ _ => rfl, fun _ _ _ _ _ => rfl, fun _ _ _ _ _ => rfl⟩
  have hl := lv_entry ([.ref this, .int a0]) (n := 6) (Nat.le_of_ble_eq_true rfl)
  rw [lg_entry_eq]
  generalize (lg_sl ([.ref this, .int a0]) ++ List.replicate (6 - (lg_sl ([.ref this, .int a0])).length) Slot.unset).toArray = ls at hl ⊢
  have hl : lv_has ls 6 [(0, .ref this), (1, .int a0)] := hl
  refine q_gen (fun Q hQ => ?_)
  have go : ∀ (H : Heap) (locs : List Loc) (ls : Array Slot), va_P D vwCl (pq_P t σ (I, J, ri, rj, rq)) H → va_D A (pq_P t σ (I, J, ri, rj, rq)) → va_S A s.heap H locs → lv_has ls 6 [(0, .ref this), (1, .int a0)] → W p l e ({ frames := 1, cells := 0, slots := 0, locals := 23 } : Room) s m (List.toArray ([.ref this, .int a0] : List Value)) below meth c H locs 0 0 Q (F0 m 0 ls []) := by
    intro H locs ls hP hD hS hl
    have hVT : VT 10 σ tg M := vt_10 hSH hL_M hK_M
    have hFr : FR 10 tg σ M (I, J, ri, rj, rq) (I, J, ri, rj, rq) := fr_rf
    refine lv_iload_n hx hb dX5_toNextOrder_0 rfl (lv_at hl 1 rfl) ?_
    refine lv_iconst (v := 2) hx hb dX5_toNextOrder_1 (by decide +kernel) ?_
    refine lv_isub hx hb dX5_toNextOrder_2 ?_
    refine lv_topi (fun x_1 ex_1 => ?_)
    have h_2 : rg x_1 (-2) 3 := rg_of_eq ex_1 (rg_sub h_a0 (rg_k (2 : Int32) 2 rfl) (by decide +kernel))
    have uh_2 := h_2.1
    have vh_2 := h_2.2
    have tx_1 : (x_1).toInt = (a0).toInt - 2 := by rw [ex_1]; exact i_sub_rg (a2 := (a0).toInt) (b2 := 2) rfl rfl h_a0 (rg_k (2 : Int32) 2 rfl) (by decide +kernel)
    refine lv_istore_n (lv' := [(2, .int x_1), (0, .ref this), (1, .int a0)]) hx hb dX5_toNextOrder_3 rfl hl (by decide +kernel) rfl (fun ls hl => ?_)
    have L_2855 : ∀ (n_2854 : Nat) (x_2140 : Int32) (H : Heap) (locs : List Loc) (ls : Array Slot), rg x_2140 (-2) 3 → ((x_2140).toInt + 2 ≤ (a0).toInt) → ((x_2140).toInt - (-2)).toNat < n_2854 → FR 10 tg σ M (I, J, ri, rj, rq) (I, J, ri, rj, rq) → GX [] tg σ I ri rj I ri rj rq → va_P D vwCl (pq_P t σ (I, J, ri, rj, rq)) H → va_D A (pq_P t σ (I, J, ri, rj, rq)) → va_S A s.heap H locs → lv_has ls 6 [(0, .ref this), (1, .int a0), (2, .int x_2140)] → W p l e ({ frames := 1, cells := 0, slots := 0, locals := 23 } : Room) s m (List.toArray ([.ref this, .int a0] : List Value)) below meth c H locs 0 0 Q (F0 m 4 ls []) := by
      intro n_2854
      induction n_2854 with
      | zero => intro x_2140 H locs ls h_2859 hrel_2860 hm_2853 hFr hG hP hD hS hl; exact absurd hm_2853 (Nat.not_lt_zero _)
      | succ n_2854 ih_2856 =>
        intro x_2140 H locs ls h_2859 hrel_2860 hm_2853 hFr hG hP hD hS hl
        have uh_2859 := h_2859.1
        have vh_2859 := h_2859.2
        refine lv_iload_n hx hb dX5_toNextOrder_4 rfl (lv_at hl 2 rfl) ?_
        have K_3571 : ∀  (H : Heap) (locs : List Loc) (ls : Array Slot), FR 10 tg σ M (I, J, ri, rj, rq) (I, J, ri, rj, rq) → GX [] tg σ I ri rj I ri rj rq → va_P D vwCl (pq_P t σ (I, J, ri, rj, rq)) H → va_D A (pq_P t σ (I, J, ri, rj, rq)) → va_S A s.heap H locs → lv_has ls 6 [(0, .ref this), (1, .int a0), (2, .int x_2140)] → W p l e ({ frames := 1, cells := 0, slots := 0, locals := 23 } : Room) s m (List.toArray ([.ref this, .int a0] : List Value)) below meth c H locs 0 0 Q (F0 m 31 ls []) := by
          intro H locs ls hFr hG hP hD hS hl
          refine lv_iload_n hx hb dX5_toNextOrder_31 rfl (lv_at hl 2 rfl) ?_
          refine lv_if_ge (tgt := 37) hx hb dX5_toNextOrder_32 (by decide +kernel) (fun c_3572 => ?_) (fun c_3572 => ?_)
          · have tc_3573 : 0 ≤ (x_2140).toInt := Int32.le_iff_toInt_le.mp c_3572
            have h_3574 : rg x_2140 0 3 := rg_le2 c_3572 (rg_k (0 : Int32) 0 rfl) h_2859 (by decide +kernel)
            have uh_3574 := h_3574.1
            have vh_3574 := h_3574.2
            refine lv_iload_n hx hb dX5_toNextOrder_37 rfl (lv_at hl 1 rfl) ?_
            refine lv_iconst (v := 1) hx hb dX5_toNextOrder_38 (by decide +kernel) ?_
            refine lv_isub hx hb dX5_toNextOrder_39 ?_
            refine lv_topi (fun x_3575 ex_3575 => ?_)
            have h_3576 : rg x_3575 (-1) 4 := rg_of_eq ex_3575 (rg_sub h_a0 (rg_k (1 : Int32) 1 rfl) (by decide +kernel))
            have uh_3576 := h_3576.1
            have vh_3576 := h_3576.2
            have tx_3575 : (x_3575).toInt = (a0).toInt - 1 := by rw [ex_3575]; exact i_sub_rg (a2 := (a0).toInt) (b2 := 1) rfl rfl h_a0 (rg_k (1 : Int32) 1 rfl) (by decide +kernel)
            refine lv_istore_n (lv' := [(3, .int x_3575), (0, .ref this), (1, .int a0), (2, .int x_2140)]) hx hb dX5_toNextOrder_40 rfl hl (by decide +kernel) rfl (fun ls hl => ?_)
            have L_4125 : ∀ (n_4124 : Nat) (x_3986 : Int32) (H : Heap) (locs : List Loc) (ls : Array Slot), rg x_3986 (-1) 4 → ((x_2140).toInt ≤ (x_3986).toInt) → ((x_3986).toInt - (-1)).toNat < n_4124 → FR 10 tg σ M (I, J, ri, rj, rq) (I, J, ri, rj, rq) → GX [] tg σ I ri rj I ri rj rq → va_P D vwCl (pq_P t σ (I, J, ri, rj, rq)) H → va_D A (pq_P t σ (I, J, ri, rj, rq)) → va_S A s.heap H locs → lv_has ls 6 [(0, .ref this), (1, .int a0), (2, .int x_2140), (3, .int x_3986)] → W p l e ({ frames := 1, cells := 0, slots := 0, locals := 23 } : Room) s m (List.toArray ([.ref this, .int a0] : List Value)) below meth c H locs 0 0 Q (F0 m 41 ls []) := by
              intro n_4124
              induction n_4124 with
              | zero => intro x_3986 H locs ls h_4129 hrel_4130 hm_4123 hFr hG hP hD hS hl; exact absurd hm_4123 (Nat.not_lt_zero _)
              | succ n_4124 ih_4126 =>
                intro x_3986 H locs ls h_4129 hrel_4130 hm_4123 hFr hG hP hD hS hl
                have uh_4129 := h_4129.1
                have vh_4129 := h_4129.2
                refine lv_iload_n hx hb dX5_toNextOrder_41 rfl (lv_at hl 3 rfl) ?_
                refine lv_iload_n hx hb dX5_toNextOrder_42 rfl (lv_at hl 2 rfl) ?_
                have K_4265 : ∀  (H : Heap) (locs : List Loc) (ls : Array Slot), FR 10 tg σ M (I, J, ri, rj, rq) (I, J, ri, rj, rq) → GX [] tg σ I ri rj I ri rj rq → va_P D vwCl (pq_P t σ (I, J, ri, rj, rq)) H → va_D A (pq_P t σ (I, J, ri, rj, rq)) → va_S A s.heap H locs → lv_has ls 6 [(0, .ref this), (1, .int a0), (2, .int x_2140), (3, .int x_3986)] → W p l e ({ frames := 1, cells := 0, slots := 0, locals := 23 } : Room) s m (List.toArray ([.ref this, .int a0] : List Value)) below meth c H locs 0 0 Q (F0 m 67 ls []) := by
                  intro H locs ls hFr hG hP hD hS hl
                  refine lv_aload_n hx hb dX5_toNextOrder_67 rfl (lv_at hl 0 rfl) ?_
                  refine lv_iload_n hx hb dX5_toNextOrder_68 rfl (lv_at hl 2 rfl) ?_
                  refine lv_iload_n hx hb dX5_toNextOrder_69 rfl (lv_at hl 3 rfl) ?_
                  have h_4266 : rg x_3986 0 4 := ⟨by omega, by omega⟩
                  have uh_4266 := h_4266.1
                  have vh_4266 := h_4266.2
                  refine pk_v (va_runV (As := [.int x_2140, .int x_3986]) (rest := []) ⟨hx, hb, hml, hown, hts⟩ (s_X5_swap l D t σ I J ri rj rq H.size tg hSH hG.1 this x_2140 x_3986 hL_this hK_this (rg_w h_3574 (by decide +kernel)) (rg_w h_4266 (by decide +kernel)) M hL_M hK_M) (cwV 2 hts (tw_V tw_1479 tw_1480 tw_1481 tw_21 tw_1482) rfl rfl rfl cv_yX5_swap_2 ⟨Nat.le_of_ble_eq_true rfl, Nat.le_of_ble_eq_true rfl⟩) ⟨pq_blind, pq_recv hK hP hL_this hK_this (by decide +kernel) rfl, pq_pre hK hN hP hD⟩ rfl rfl hl.1 rfl (lv_room (Nat.le_of_ble_eq_true rfl)) dX5_toNextOrder_70 ⟨Nat.le_of_ble_eq_true rfl, Nat.le_of_ble_eq_true rfl⟩) hD hS hA (fun σ1 μ1 H locs hw_4268 hP hD hS => ?_)
                  obtain ⟨ri_4269, hu_4270, hg_4271, hfr_4274⟩ := hw_4268
                  obtain ⟨hu_4270a, hu_4270b⟩ := Prod.mk.inj hu_4270
                  rw [hu_4270a, hu_4270b] at hP hD
                  replace hFr := fr_tr hFr hfr_4274
                  have hG := GX.tr hG hg_4271 (by decide +kernel)
                  refine lv_iload_n hx hb dX5_toNextOrder_73 rfl (lv_at hl 2 rfl) ?_
                  refine lv_iconst (v := 1) hx hb dX5_toNextOrder_74 (by decide +kernel) ?_
                  refine lv_iadd hx hb dX5_toNextOrder_75 ?_
                  refine lv_topi (fun x_4275 ex_4275 => ?_)
                  have h_4276 : rg x_4275 1 4 := rg_of_eq ex_4275 (rg_add h_3574 (rg_k (1 : Int32) 1 rfl) (by decide +kernel))
                  have uh_4276 := h_4276.1
                  have vh_4276 := h_4276.2
                  have tx_4275 : (x_4275).toInt = (x_2140).toInt + 1 := by rw [ex_4275]; exact i_add_rg (a2 := (x_2140).toInt) (b2 := 1) rfl rfl h_3574 (rg_k (1 : Int32) 1 rfl) (by decide +kernel)
                  refine lv_istore (lv' := [(4, .int x_4275), (0, .ref this), (1, .int a0), (2, .int x_2140), (3, .int x_3986)]) hx hb dX5_toNextOrder_76 hl (by decide +kernel) rfl (fun ls hl => ?_)
                  refine lv_iload_n hx hb dX5_toNextOrder_78 rfl (lv_at hl 2 rfl) ?_
                  refine lv_iconst (v := 1) hx hb dX5_toNextOrder_79 (by decide +kernel) ?_
                  refine lv_isub hx hb dX5_toNextOrder_80 ?_
                  refine lv_topi (fun x_4277 ex_4277 => ?_)
                  have h_4278 : rg x_4277 (-1) 4 := rg_of_eq ex_4277 (rg_sub h_a0 (rg_k (1 : Int32) 1 rfl) (by decide +kernel))
                  have uh_4278 := h_4278.1
                  have vh_4278 := h_4278.2
                  have tx_4277 : (x_4277).toInt = (a0).toInt - 1 := by rw [ex_4277]; exact i_sub_rg (a2 := (a0).toInt) (b2 := 1) rfl rfl h_a0 (rg_k (1 : Int32) 1 rfl) (by decide +kernel)
                  refine lv_istore (lv' := [(5, .int x_4277), (4, .int x_4275), (0, .ref this), (1, .int a0), (2, .int x_2140), (3, .int x_3986)]) hx hb dX5_toNextOrder_81 hl (by decide +kernel) rfl (fun ls hl => ?_)
                  have L_4364 : ∀ (n_4363 : Nat) (x_4340 : Int32) (x_4341 : Int32) (ri_4342 : Nat → Nat → Int32) (H : Heap) (locs : List Loc) (ls : Array Slot), rg x_4340 1 4 → rg x_4341 (-1) 4 → (4 - (x_4340).toInt).toNat < n_4363 → FR 10 tg σ M (I, J, ri, rj, rq) (I, J, ri_4342, rj, rq) → GX [] tg σ I ri rj I ri_4342 rj rq → va_P D vwCl (pq_P t σ (I, J, ri_4342, rj, rq)) H → va_D A (pq_P t σ (I, J, ri_4342, rj, rq)) → va_S A s.heap H locs → lv_has ls 6 [(0, .ref this), (4, .int x_4340), (5, .int x_4341)] → W p l e ({ frames := 1, cells := 0, slots := 0, locals := 23 } : Room) s m (List.toArray ([.ref this, .int a0] : List Value)) below meth c H locs 0 0 Q (F0 m 83 ls []) := by
                    intro n_4363
                    induction n_4363 with
                    | zero => intro x_4340 x_4341 ri_4342 H locs ls h_4368 h_4369 hm_4362 hFr hG hP hD hS hl; exact absurd hm_4362 (Nat.not_lt_zero _)
                    | succ n_4363 ih_4365 =>
                      intro x_4340 x_4341 ri_4342 H locs ls h_4368 h_4369 hm_4362 hFr hG hP hD hS hl
                      have uh_4368 := h_4368.1
                      have vh_4368 := h_4368.2
                      have uh_4369 := h_4369.1
                      have vh_4369 := h_4369.2
                      refine lv_iload hx hb dX5_toNextOrder_83 (lv_at hl 1 rfl) ?_
                      refine lv_iload hx hb dX5_toNextOrder_85 (lv_at hl 2 rfl) ?_
                      refine lv_icmp_ge (tgt := 107) hx hb dX5_toNextOrder_87 (by decide +kernel) (fun c_4370 => ?_) (fun c_4370 => ?_)
                      · have tc_4371 : (x_4341).toInt ≤ (x_4340).toInt := Int32.le_iff_toInt_le.mp c_4370
                        refine lv_iconst (v := 1) hx hb dX5_toNextOrder_107 (by decide +kernel) ?_
                        subst hQ
                        exact W.zret (v := 1) hx hb hr (by decide +kernel) (fun t1 ht hW => ⟨⟨1, (σ, I, J, ri_4342, rj, rq), rfl, ⟨ri_4342, rfl, hG, hFr, (Or.inl ⟨rfl, trivial⟩)⟩, by rw [ht]; exact hP, va_K.moved hW.alike hK, hD⟩, hS.F ht⟩) hS.2.2 dX5_toNextOrder_108
                      · have tc_4372 : (x_4340).toInt < (x_4341).toInt := Int32.lt_iff_toInt_lt.mp (nle c_4370)
                        have h_4373 : rg x_4340 1 3 := rg_lt1 (nle c_4370) h_4368 h_4369 (by decide +kernel)
                        have uh_4373 := h_4373.1
                        have vh_4373 := h_4373.2
                        have h_4374 : rg x_4341 2 4 := rg_lt2 (nle c_4370) h_4368 h_4369 (by decide +kernel)
                        have uh_4374 := h_4374.1
                        have vh_4374 := h_4374.2
                        refine lv_aload_n hx hb dX5_toNextOrder_90 rfl (lv_at hl 0 rfl) ?_
                        refine lv_iload hx hb dX5_toNextOrder_91 (lv_at hl 1 rfl) ?_
                        refine lv_iload hx hb dX5_toNextOrder_93 (lv_at hl 2 rfl) ?_
                        refine pk_v (va_runV (As := [.int x_4340, .int x_4341]) (rest := []) ⟨hx, hb, hml, hown, hts⟩ (s_X5_swap l D t σ I J ri_4342 rj rq H.size tg hSH hG.1 this x_4340 x_4341 hL_this hK_this (rg_w h_4373 (by decide +kernel)) (rg_w h_4374 (by decide +kernel)) M hL_M hK_M) (cwV 2 hts (tw_V tw_1479 tw_1480 tw_1481 tw_21 tw_1482) rfl rfl rfl cv_yX5_swap_2 ⟨Nat.le_of_ble_eq_true rfl, Nat.le_of_ble_eq_true rfl⟩) ⟨pq_blind, pq_recv hK hP hL_this hK_this (by decide +kernel) rfl, pq_pre hK hN hP hD⟩ rfl rfl hl.1 rfl (lv_room (Nat.le_of_ble_eq_true rfl)) dX5_toNextOrder_95 ⟨Nat.le_of_ble_eq_true rfl, Nat.le_of_ble_eq_true rfl⟩) hD hS hA (fun σ1 μ1 H locs hw_4376 hP hD hS => ?_)
                        obtain ⟨ri_4377, hu_4378, hg_4379, hfr_4382⟩ := hw_4376
                        obtain ⟨hu_4378a, hu_4378b⟩ := Prod.mk.inj hu_4378
                        rw [hu_4378a, hu_4378b] at hP hD
                        replace hFr := fr_tr hFr hfr_4382
                        have hG := GX.tr hG hg_4379 (by decide +kernel)
                        obtain ⟨x_4383, ex_4383⟩ : ∃ y : Int32, y = x_4340 + Int32.ofInt 1 := ⟨_, rfl⟩
                        have h_4384 : rg x_4383 2 4 := rg_of_eq ex_4383 (rg_add h_4373 (rg_k (Int32.ofInt 1) 1 rfl) (by decide +kernel))
                        have uh_4384 := h_4384.1
                        have vh_4384 := h_4384.2
                        have tx_4383 : (x_4383).toInt = (x_4340).toInt + 1 := by rw [ex_4383]; exact i_add_rg (a2 := (x_4340).toInt) (b2 := 1) rfl rfl h_4373 (rg_k (Int32.ofInt 1) 1 rfl) (by decide +kernel)
                        refine lv_iinc (v := x_4383) (lv' := [(4, .int x_4383), (0, .ref this), (5, .int x_4341)]) hx hb dX5_toNextOrder_98 hl (k := 1) rfl ex_4383.symm (by decide +kernel) rfl (fun ls hl => ?_)
                        obtain ⟨x_4385, ex_4385⟩ : ∃ y : Int32, y = x_4341 + Int32.ofInt (-1) := ⟨_, rfl⟩
                        have h_4386 : rg x_4385 1 3 := rg_of_eq ex_4385 (rg_add h_4374 (rg_k (Int32.ofInt (-1)) (-1) rfl) (by decide +kernel))
                        have uh_4386 := h_4386.1
                        have vh_4386 := h_4386.2
                        have tx_4385 : (x_4385).toInt = (x_4341).toInt + (-1) := by rw [ex_4385]; exact i_add_rg (a2 := (x_4341).toInt) (b2 := (-1)) rfl rfl h_4374 (rg_k (Int32.ofInt (-1)) (-1) rfl) (by decide +kernel)
                        refine lv_iinc (v := x_4385) (lv' := [(5, .int x_4385), (4, .int x_4383), (0, .ref this)]) hx hb dX5_toNextOrder_101 hl (k := 2) rfl ex_4385.symm (by decide +kernel) rfl (fun ls hl => ?_)
                        refine lv_goto (tgt := 83) hx hb dX5_toNextOrder_104 (by decide +kernel) ?_
                        exact ih_4365 x_4383 x_4385 ri_4377 _ _ _ (rg_w h_4384 (by decide +kernel)) (rg_w h_4386 (by decide +kernel)) (ms_up 1 hm_4362 ex_4383 rfl (by decide +kernel) h_4373 (by decide +kernel) (by decide +kernel)) hFr hG hP hD hS (lv_sub hl [2, 1, 0] rfl)
                  exact L_4364 _ x_4275 x_4277 ri_4269 _ _ _ (rg_w h_4276 (by decide +kernel)) (rg_w h_4278 (by decide +kernel)) (Nat.lt_succ_self _) hFr hG hP hD hS (lv_sub hl [2, 1, 0] rfl)
                refine lv_icmp_le (tgt := 67) hx hb dX5_toNextOrder_43 (by decide +kernel) (fun c_4387 => ?_) (fun c_4387 => ?_)
                · have tc_4388 : (x_3986).toInt ≤ (x_2140).toInt := Int32.le_iff_toInt_le.mp c_4387
                  have h_4389 : rg x_3986 (-1) 3 := rg_le1 c_4387 h_4129 h_3574 (by decide +kernel)
                  have uh_4389 := h_4389.1
                  have vh_4389 := h_4389.2
                  exact K_4265 _ _ _ hFr hG hP hD hS (lv_sub hl [0, 1, 2, 3] rfl)
                · have tc_4390 : (x_2140).toInt < (x_3986).toInt := Int32.lt_iff_toInt_lt.mp (nle c_4387)
                  have h_4391 : rg x_3986 1 4 := rg_lt2 (nle c_4387) h_3574 h_4129 (by decide +kernel)
                  have uh_4391 := h_4391.1
                  have vh_4391 := h_4391.2
                  refine lv_aload_n hx hb dX5_toNextOrder_46 rfl (lv_at hl 0 rfl) ?_
                  obtain ⟨w_4392, hR_w_4392, hL_w_4392, hK_w_4392, hN_w_4392, hT_w_4392⟩ := sh_a hSH 162 (ci := 5) (kd := 13) (len := 5) rfl (by decide +kernel) hL_this hK_this
                  refine pg_f (v := .ref w_4392) (C := RX5) (T := TX5) (N := 8) hx hb hts (tw_i inlX5) hown hK hP hL_this hK_this (by decide +kernel) rfl 2 (by decide +kernel) (hts _ (tw_c tw_143)) (pq_hv rfl hR_w_4392) dX5_toNextOrder_47 ?_
                  refine lv_iload_n hx hb dX5_toNextOrder_50 rfl (lv_at hl 3 rfl) ?_
                  refine pl_i hx hb hK hP hL_w_4392 hK_w_4392 hN_w_4392 (rg_in h_4391 (by decide +kernel)) dX5_toNextOrder_51 ?_
                  refine lv_topi (fun x_4393 ex_4393 => ?_)
                  have h_4394 : rg x_4393 0 4 := rg_of_eq ex_4393 (GX.rR hG hT_w_4392 rfl)
                  have uh_4394 := h_4394.1
                  have vh_4394 := h_4394.2
                  refine lv_aload_n hx hb dX5_toNextOrder_52 rfl (lv_at hl 0 rfl) ?_
                  refine pg_f (v := .ref w_4392) (C := RX5) (T := TX5) (N := 8) hx hb hts (tw_i inlX5) hown hK hP hL_this hK_this (by decide +kernel) rfl 2 (by decide +kernel) (hts _ (tw_c tw_143)) (pq_hv rfl hR_w_4392) dX5_toNextOrder_53 ?_
                  refine lv_iload_n hx hb dX5_toNextOrder_56 rfl (lv_at hl 2 rfl) ?_
                  refine pl_i hx hb hK hP hL_w_4392 hK_w_4392 hN_w_4392 (rg_in h_3574 (by decide +kernel)) dX5_toNextOrder_57 ?_
                  refine lv_topi (fun x_4395 ex_4395 => ?_)
                  have h_4396 : rg x_4395 0 4 := rg_of_eq ex_4395 (GX.rR hG hT_w_4392 rfl)
                  have uh_4396 := h_4396.1
                  have vh_4396 := h_4396.2
                  refine lv_icmp_ge (tgt := 67) hx hb dX5_toNextOrder_58 (by decide +kernel) (fun c_4397 => ?_) (fun c_4397 => ?_)
                  · have tc_4398 : (x_4395).toInt ≤ (x_4393).toInt := Int32.le_iff_toInt_le.mp c_4397
                    exact K_4265 _ _ _ hFr hG hP hD hS (lv_sub hl [0, 1, 2, 3] rfl)
                  · have tc_4399 : (x_4393).toInt < (x_4395).toInt := Int32.lt_iff_toInt_lt.mp (nle c_4397)
                    have h_4400 : rg x_4393 0 3 := rg_lt1 (nle c_4397) h_4394 h_4396 (by decide +kernel)
                    have uh_4400 := h_4400.1
                    have vh_4400 := h_4400.2
                    have h_4401 : rg x_4395 1 4 := rg_lt2 (nle c_4397) h_4394 h_4396 (by decide +kernel)
                    have uh_4401 := h_4401.1
                    have vh_4401 := h_4401.2
                    obtain ⟨x_4402, ex_4402⟩ : ∃ y : Int32, y = x_3986 + Int32.ofInt (-1) := ⟨_, rfl⟩
                    have h_4403 : rg x_4402 0 3 := rg_of_eq ex_4402 (rg_add h_4391 (rg_k (Int32.ofInt (-1)) (-1) rfl) (by decide +kernel))
                    have uh_4403 := h_4403.1
                    have vh_4403 := h_4403.2
                    have tx_4402 : (x_4402).toInt = (x_3986).toInt + (-1) := by rw [ex_4402]; exact i_add_rg (a2 := (x_3986).toInt) (b2 := (-1)) rfl rfl h_4391 (rg_k (Int32.ofInt (-1)) (-1) rfl) (by decide +kernel)
                    refine lv_iinc (v := x_4402) (lv' := [(3, .int x_4402), (0, .ref this), (1, .int a0), (2, .int x_2140)]) hx hb dX5_toNextOrder_61 hl (k := 3) rfl ex_4402.symm (by decide +kernel) rfl (fun ls hl => ?_)
                    refine lv_goto (tgt := 41) hx hb dX5_toNextOrder_64 (by decide +kernel) ?_
                    exact ih_4126 x_4402 _ _ _ (rg_w h_4403 (by decide +kernel)) (by omega) (ms_dn 1 hm_4123 ex_4402 rfl (by decide +kernel) h_4391 (by decide +kernel) (by decide +kernel)) hFr hG hP hD hS (lv_sub hl [1, 2, 3, 0] rfl)
            exact L_4125 _ x_3575 _ _ _ (rg_w h_3576 (by decide +kernel)) (by omega) (Nat.lt_succ_self _) hFr hG hP hD hS (lv_sub hl [1, 2, 3, 0] rfl)
          · have tc_4404 : (x_2140).toInt < 0 := Int32.lt_iff_toInt_lt.mp (nle c_3572)
            have h_4405 : rg x_2140 (-2) (-1) := rg_lt1 (nle c_3572) h_2859 (rg_k (0 : Int32) 0 rfl) (by decide +kernel)
            have uh_4405 := h_4405.1
            have vh_4405 := h_4405.2
            refine lv_iconst (v := 0) hx hb dX5_toNextOrder_35 (by decide +kernel) ?_
            subst hQ
            exact W.zret (v := 0) hx hb hr (by decide +kernel) (fun t1 ht hW => ⟨⟨0, (σ, I, J, ri, rj, rq), rfl, ⟨ri, rfl, hG, hFr, (Or.inr ⟨rfl, trivial⟩)⟩, by rw [ht]; exact hP, va_K.moved hW.alike hK, hD⟩, hS.F ht⟩) hS.2.2 dX5_toNextOrder_36
        refine lv_if_lt (tgt := 31) hx hb dX5_toNextOrder_5 (by decide +kernel) (fun c_4406 => ?_) (fun c_4406 => ?_)
        · have tc_4407 : (x_2140).toInt < 0 := Int32.lt_iff_toInt_lt.mp c_4406
          have h_4408 : rg x_2140 (-2) (-1) := rg_lt1 c_4406 h_2859 (rg_k (0 : Int32) 0 rfl) (by decide +kernel)
          have uh_4408 := h_4408.1
          have vh_4408 := h_4408.2
          exact K_3571 _ _ _ hFr hG hP hD hS (lv_sub hl [0, 1, 2] rfl)
        · have tc_4409 : 0 ≤ (x_2140).toInt := Int32.le_iff_toInt_le.mp (nlt c_4406)
          have h_4410 : rg x_2140 0 3 := rg_le2 (nlt c_4406) (rg_k (0 : Int32) 0 rfl) h_2859 (by decide +kernel)
          have uh_4410 := h_4410.1
          have vh_4410 := h_4410.2
          refine lv_aload_n hx hb dX5_toNextOrder_8 rfl (lv_at hl 0 rfl) ?_
          obtain ⟨w_4411, hR_w_4411, hL_w_4411, hK_w_4411, hN_w_4411, hT_w_4411⟩ := sh_a hSH 162 (ci := 5) (kd := 13) (len := 5) rfl (by decide +kernel) hL_this hK_this
          refine pg_f (v := .ref w_4411) (C := RX5) (T := TX5) (N := 8) hx hb hts (tw_i inlX5) hown hK hP hL_this hK_this (by decide +kernel) rfl 2 (by decide +kernel) (hts _ (tw_c tw_143)) (pq_hv rfl hR_w_4411) dX5_toNextOrder_9 ?_
          refine lv_iload_n hx hb dX5_toNextOrder_12 rfl (lv_at hl 2 rfl) ?_
          refine pl_i hx hb hK hP hL_w_4411 hK_w_4411 hN_w_4411 (rg_in h_4410 (by decide +kernel)) dX5_toNextOrder_13 ?_
          refine lv_topi (fun x_4412 ex_4412 => ?_)
          have h_4413 : rg x_4412 0 4 := rg_of_eq ex_4412 (GX.rR hG hT_w_4411 rfl)
          have uh_4413 := h_4413.1
          have vh_4413 := h_4413.2
          refine lv_aload_n hx hb dX5_toNextOrder_14 rfl (lv_at hl 0 rfl) ?_
          refine pg_f (v := .ref w_4411) (C := RX5) (T := TX5) (N := 8) hx hb hts (tw_i inlX5) hown hK hP hL_this hK_this (by decide +kernel) rfl 2 (by decide +kernel) (hts _ (tw_c tw_143)) (pq_hv rfl hR_w_4411) dX5_toNextOrder_15 ?_
          refine lv_iload_n hx hb dX5_toNextOrder_18 rfl (lv_at hl 2 rfl) ?_
          refine lv_iconst (v := 1) hx hb dX5_toNextOrder_19 (by decide +kernel) ?_
          refine lv_iadd hx hb dX5_toNextOrder_20 ?_
          refine lv_topi (fun x_4414 ex_4414 => ?_)
          have h_4415 : rg x_4414 1 4 := rg_of_eq ex_4414 (rg_add h_4410 (rg_k (1 : Int32) 1 rfl) (by decide +kernel))
          have uh_4415 := h_4415.1
          have vh_4415 := h_4415.2
          have tx_4414 : (x_4414).toInt = (x_2140).toInt + 1 := by rw [ex_4414]; exact i_add_rg (a2 := (x_2140).toInt) (b2 := 1) rfl rfl h_4410 (rg_k (1 : Int32) 1 rfl) (by decide +kernel)
          refine pl_i hx hb hK hP hL_w_4411 hK_w_4411 hN_w_4411 (rg_in h_4415 (by decide +kernel)) dX5_toNextOrder_21 ?_
          refine lv_topi (fun x_4416 ex_4416 => ?_)
          have h_4417 : rg x_4416 0 4 := rg_of_eq ex_4416 (GX.rR hG hT_w_4411 rfl)
          have uh_4417 := h_4417.1
          have vh_4417 := h_4417.2
          refine lv_icmp_le (tgt := 31) hx hb dX5_toNextOrder_22 (by decide +kernel) (fun c_4418 => ?_) (fun c_4418 => ?_)
          · have tc_4419 : (x_4412).toInt ≤ (x_4416).toInt := Int32.le_iff_toInt_le.mp c_4418
            exact K_3571 _ _ _ hFr hG hP hD hS (lv_sub hl [0, 1, 2] rfl)
          · have tc_4420 : (x_4416).toInt < (x_4412).toInt := Int32.lt_iff_toInt_lt.mp (nle c_4418)
            have h_4421 : rg x_4416 0 3 := rg_lt1 (nle c_4418) h_4417 h_4413 (by decide +kernel)
            have uh_4421 := h_4421.1
            have vh_4421 := h_4421.2
            have h_4422 : rg x_4412 1 4 := rg_lt2 (nle c_4418) h_4417 h_4413 (by decide +kernel)
            have uh_4422 := h_4422.1
            have vh_4422 := h_4422.2
            obtain ⟨x_4423, ex_4423⟩ : ∃ y : Int32, y = x_2140 + Int32.ofInt (-1) := ⟨_, rfl⟩
            have h_4424 : rg x_4423 (-1) 2 := rg_of_eq ex_4423 (rg_add h_4410 (rg_k (Int32.ofInt (-1)) (-1) rfl) (by decide +kernel))
            have uh_4424 := h_4424.1
            have vh_4424 := h_4424.2
            have tx_4423 : (x_4423).toInt = (x_2140).toInt + (-1) := by rw [ex_4423]; exact i_add_rg (a2 := (x_2140).toInt) (b2 := (-1)) rfl rfl h_4410 (rg_k (Int32.ofInt (-1)) (-1) rfl) (by decide +kernel)
            refine lv_iinc (v := x_4423) (lv' := [(2, .int x_4423), (0, .ref this), (1, .int a0)]) hx hb dX5_toNextOrder_25 hl (k := 2) rfl ex_4423.symm (by decide +kernel) rfl (fun ls hl => ?_)
            refine lv_goto (tgt := 4) hx hb dX5_toNextOrder_28 (by decide +kernel) ?_
            exact ih_2856 x_4423 _ _ _ (rg_w h_4424 (by decide +kernel)) (by omega) (ms_dn 1 hm_2853 ex_4423 rfl (by decide +kernel) h_4410 (by decide +kernel) (by decide +kernel)) hFr hG hP hD hS (lv_sub hl [1, 2, 0] rfl)
    exact L_2855 _ x_1 _ _ _ (rg_w h_2 (by decide +kernel)) (by omega) (Nat.lt_succ_self _) hFr hG hP hD hS (lv_sub hl [1, 2, 0] rfl)
  exact go _ _ _ hP hD hS hl

set_option maxHeartbeats 4000000 in
set_option maxRecDepth 100000 in
theorem s_X5_seek (l : Launch) (D : va_G) (t : pq_T) (σ : pq_S) (I : Nat → Nat → Int32) (J : Nat → Nat → Int64) (ri : Nat → Nat → Int32) (rj : Nat → Nat → Int64) (rq : Nat → Nat → Option Nat) (sz : Nat) (tg : Nat → Nat) (hSH : SH σ tg) (hG0 : GS tg σ I ri rq) (this : Nat) (a0 : Nat) (a1 : Nat) (a2 : Int32) (a3 : Int32) (hL_this : this ∈ σ.1) (hK_this : σ.2.1 this = 5) (hL_a0 : a0 ∈ σ.1) (hK_a0 : σ.2.1 a0 = 10) (hL_a1 : a1 ∈ σ.1) (hK_a1 : σ.2.1 a1 = 10) (h_a3 : rg a3 1 12) (hap : AP 10 tg σ a1 a0) (hclk : (I 320 a1).toInt + a3.toInt ≤ 600) : MetV l yX5_seek (wa yX5_seek cX5_seek 9 none) ({ frames := 6, cells := 0, slots := 0, locals := 169 }) [.ref this, .ref a0, .ref a1, .int a2, .int a3] D t σ (I, J, ri, rj, rq) sz 0 0 (fun (u : pq_S × pq_M) => ∃ I' : Nat → Nat → Int32, ∃ J' : Nat → Nat → Int64, ∃ ri' : Nat → Nat → Int32, ∃ rj' : Nat → Nat → Int64, u = (σ, I', J', ri', rj', rq) ∧ GX [1074, 1073, 320, 1288, 1005] tg σ I ri rj I' ri' rj' rq ∧ FR 10 tg σ a1 (I, J, ri, rj, rq) (I', J', ri', rj', rq)) := by
  refine Met.ofW (cc := cX5_seek) (maxL := 9) (ret := none) (by decide +kernel) rfl ?_
  intro p e s m args below meth c s₁ B hml hv
  obtain ⟨rfl, hsz, hP, hK, hD0, hN⟩ := hv
  have hx := B.exec
  have hb := B.bytes
  have hr := B.returns
  have hts := atoms_spec (ws := (wa yX5_seek cX5_seek 9 none)) B.pre
  have hown : s.vm.findClass RX5 = some m.cls := findClass_of_methodNamed B.named
  have hlocks := B.notSynchronized
  subst hsz
  have hD : va_D (pq_B t σ (I, J, ri, rj, rq) s.heap.size) (pq_P t σ (I, J, ri, rj, rq)) := hD0.self
  generalize hAe : pq_B t σ (I, J, ri, rj, rq) s.heap.size = A at hD ⊢
  have hA : ∀ q : Nat, s.heap.size ≤ q → A q := fun q h => by rw [← hAe]; exact Or.inr h
  have hS : va_S A s.heap s.heap [] := va_S.rf
  have hG : GX [1074, 1073, 320, 1288, 1005] tg σ I ri rj I ri rj rq := ⟨hG0, fun _ _ _ => rfl, fun _ _ _ _ _ => rfl, fun _ _ _ _ _ => rfl⟩
  have hl := lv_entry ([.ref this, .ref a0, .ref a1, .int a2, .int a3]) (n := 9) (Nat.le_of_ble_eq_true rfl)
  rw [lg_entry_eq]
  generalize (lg_sl ([.ref this, .ref a0, .ref a1, .int a2, .int a3]) ++ List.replicate (9 - (lg_sl ([.ref this, .ref a0, .ref a1, .int a2, .int a3])).length) Slot.unset).toArray = ls at hl ⊢
  have hl : lv_has ls 9 [(0, .ref this), (1, .ref a0), (2, .ref a1), (3, .int a2), (4, .int a3)] := hl
  refine q_gen (fun Q hQ => ?_)
  have go : ∀ (H : Heap) (locs : List Loc) (ls : Array Slot), va_P D vwCl (pq_P t σ (I, J, ri, rj, rq)) H → va_D A (pq_P t σ (I, J, ri, rj, rq)) → va_S A s.heap H locs → lv_has ls 9 [(0, .ref this), (1, .ref a0), (2, .ref a1), (3, .int a2), (4, .int a3)] → W p l e ({ frames := 6, cells := 0, slots := 0, locals := 169 } : Room) s m (List.toArray ([.ref this, .ref a0, .ref a1, .int a2, .int a3] : List Value)) below meth c H locs 0 0 Q (F0 m 0 ls []) := by
    intro H locs ls hP hD hS hl
    have hO_a1 : a1 = vo σ 10 a1 := rfl
    have hO_a0 : a0 = vo σ 10 a0 := rfl
    have hVT : VT 10 σ tg a1 := vt_10 hSH hL_a1 hK_a1
    have hFr : FR 10 tg σ a1 (I, J, ri, rj, rq) (I, J, ri, rj, rq) := fr_rf
    refine lv_aload_n hx hb dX5_seek_0 rfl (lv_at hl 1 rfl) ?_
    obtain ⟨w_1, hR_w_1, hL_w_1, hK_w_1⟩ := sh_o hSH 327 (ci := 10) (kd := 2) rfl hL_a0 hK_a0
    have hO_w_1 : w_1 = vo σ 2 a0 := vo_k (c := 10) hO_a0 hR_w_1
    refine pg_f (v := .ref w_1) (C := RX10) (T := TX10) (N := 13) hx hb hts (tw_i inlX10) hown hK hP hL_a0 hK_a0 (by decide +kernel) rfl 7 (by decide +kernel) (hts _ (tw_c tw_1438)) (pq_hv rfl hR_w_1) dX5_seek_1 ?_
    refine pg_f (v := .int (I 64 w_1)) (C := RX2) (T := TX2) (N := 20) hx hb hts (tw_i inlX2) hown hK hP hL_w_1 hK_w_1 (by decide +kernel) rfl 0 (by decide +kernel) (hts _ (tw_c tw_1439)) rfl dX5_seek_4 ?_
    have h_2 : rg (I 64 w_1) 0 5 := GX.rI hG 64 rfl
    have uh_2 := h_2.1
    have vh_2 := h_2.2
    refine lv_istore (lv' := [(5, .int (I 64 w_1)), (0, .ref this), (1, .ref a0), (2, .ref a1), (3, .int a2), (4, .int a3)]) hx hb dX5_seek_7 hl (by decide +kernel) rfl (fun ls hl => ?_)
    refine lv_aload_n hx hb dX5_seek_9 rfl (lv_at hl 1 rfl) ?_
    refine lv_aload_n hx hb dX5_seek_10 rfl (lv_at hl 3 rfl) ?_
    refine lv_iload_n hx hb dX5_seek_11 rfl (lv_at hl 4 rfl) ?_
    refine lv_iload hx hb dX5_seek_12 (lv_at hl 5 rfl) ?_
    refine lv_bipush (v := 12) hx hb dX5_seek_14 (by decide +kernel) ?_
    refine va_mmin hx hb (hml.trans hl.1.symm) hown (hts _ (tw_c tw_1440)) (hts _ (tw_c tw_467)) (hts _ (tw_c tw_276)) (hts _ (tw_c tw_468)) (Nat.le_of_ble_eq_true rfl) (Nat.le_of_ble_eq_true rfl) (Nat.zero_le _) (Nat.zero_le _) dX5_seek_16 ?_
    refine lv_topi (fun x_3 ex_3 => ?_)
    have h_4 : rg x_3 1 12 := rg_of_eq ex_3 (rg_min2 h_a3 (rg_k (12 : Int32) 12 rfl) (by decide +kernel))
    have uh_4 := h_4.1
    have vh_4 := h_4.2
    have tx_3 : (x_3).toInt ≤ (a3).toInt ∧ (x_3).toInt ≤ 12 := by rw [ex_3]; exact min_le _ _
    refine pk_v (va_runV (As := [.ref a1, .int a2, .int x_3]) (rest := []) ⟨hx, hb, hml, hown, hts⟩ (s_X5_foresee l D t σ I J ri rj rq H.size tg hSH hG.1 this a1 a2 x_3 hL_this hK_this hL_a1 hK_a1 (rg_w h_4 (by decide +kernel)) (by omega)) (cwV 3 hts (tw_V tw_1442 tw_1443 tw_1444 tw_21 tw_1445) rfl rfl rfl cv_yX5_foresee_3 ⟨Nat.le_of_ble_eq_true rfl, Nat.le_of_ble_eq_true rfl⟩) ⟨pq_blind, pq_recv hK hP hL_this hK_this (by decide +kernel) rfl, pq_pre hK hN hP hD⟩ rfl rfl hl.1 rfl (lv_room (Nat.le_of_ble_eq_true rfl)) dX5_seek_19 ⟨Nat.le_of_ble_eq_true rfl, Nat.le_of_ble_eq_true rfl⟩) hD hS hA (fun σ1 μ1 H locs hw_6 hP hD hS => ?_)
    obtain ⟨I_7, J_8, ri_9, rj_10, hu_11, hg_12, hfr_15⟩ := hw_6
    obtain ⟨hu_11a, hu_11b⟩ := Prod.mk.inj hu_11
    rw [hu_11a, hu_11b] at hP hD
    replace hFr := fr_tr hFr hfr_15
    have hG := GX.tr hG hg_12 (by decide +kernel)
    refine lv_iconst (v := 0) hx hb dX5_seek_22 (by decide +kernel) ?_
    refine lv_istore (lv' := [(6, .int 0), (5, .int (I 64 w_1)), (0, .ref this), (1, .ref a0), (2, .ref a1), (3, .int a2), (4, .int a3)]) hx hb dX5_seek_23 hl (by decide +kernel) rfl (fun ls hl => ?_)
    have L_7304 : ∀ (n_7303 : Nat) (x_6271 : Int32) (ri_6272 : Nat → Nat → Int32) (H : Heap) (locs : List Loc) (ls : Array Slot), rg x_6271 0 5 → (5 - (x_6271).toInt).toNat < n_7303 → FR 10 tg σ a1 (I, J, ri, rj, rq) (I_7, J_8, ri_6272, rj_10, rq) → GX [1074, 1073, 320, 1288, 1005] tg σ I ri rj I_7 ri_6272 rj_10 rq → va_P D vwCl (pq_P t σ (I_7, J_8, ri_6272, rj_10, rq)) H → va_D A (pq_P t σ (I_7, J_8, ri_6272, rj_10, rq)) → va_S A s.heap H locs → lv_has ls 9 [(0, .ref this), (1, .ref a0), (2, .ref a1), (4, .int a3), (5, .int (I 64 w_1)), (6, .int x_6271)] → W p l e ({ frames := 6, cells := 0, slots := 0, locals := 169 } : Room) s m (List.toArray ([.ref this, .ref a0, .ref a1, .int a2, .int a3] : List Value)) below meth c H locs 0 0 Q (F0 m 25 ls []) := by
      intro n_7303
      induction n_7303 with
      | zero => intro x_6271 ri_6272 H locs ls h_7307 hm_7302 hFr hG hP hD hS hl; exact absurd hm_7302 (Nat.not_lt_zero _)
      | succ n_7303 ih_7305 =>
        intro x_6271 ri_6272 H locs ls h_7307 hm_7302 hFr hG hP hD hS hl
        have uh_7307 := h_7307.1
        have vh_7307 := h_7307.2
        refine lv_iload hx hb dX5_seek_25 (lv_at hl 5 rfl) ?_
        refine lv_iload hx hb dX5_seek_27 (lv_at hl 4 rfl) ?_
        refine lv_icmp_ge (tgt := 47) hx hb dX5_seek_29 (by decide +kernel) (fun c_7308 => ?_) (fun c_7308 => ?_)
        · have tc_7309 : (I 64 w_1).toInt ≤ (x_6271).toInt := Int32.le_iff_toInt_le.mp c_7308
          refine lv_aload_n hx hb dX5_seek_47 rfl (lv_at hl 0 rfl) ?_
          refine lv_sipush (v := 961) hx hb dX5_seek_48 (by decide +kernel) ?_
          refine pp_i (v := 961) (ty := .int) (C := RX5) (T := TX5) (N := 8) hx hb hts (tw_i inlX5) tyX5 tyX5_ok nmX5 hown hK hP hD hS hL_this hK_this (by decide +kernel) rfl 0 160 (by decide +kernel) (hts _ (tw_c tw_1441)) rfl (tyX5_ok 0 (by decide +kernel)) rfl rfl (Nat.le_of_ble_eq_true rfl) (ps_160 _ _ _ _ _) dX5_seek_51 (fun I_7310 H locs eI_7310 hP hD hS => ?_)
          replace hFr := fr_I5 (f := 160) hFr (by decide +kernel) eI_7310
          have hG := GX.wI hG 160 rfl eI_7310 (rg_w (rg_k (961 : Int32) 961 rfl) (by decide +kernel)) (by decide +kernel)
          refine lv_iconst (v := 1) hx hb dX5_seek_54 (by decide +kernel) ?_
          refine lv_istore (lv' := [(6, .int 1), (0, .ref this), (1, .ref a0), (2, .ref a1), (4, .int a3), (5, .int (I 64 w_1))]) hx hb dX5_seek_55 hl (by decide +kernel) rfl (fun ls hl => ?_)
          refine lv_iconst (v := 0) hx hb dX5_seek_57 (by decide +kernel) ?_
          refine lv_istore (lv' := [(7, .int 0), (6, .int 1), (0, .ref this), (1, .ref a0), (2, .ref a1), (4, .int a3), (5, .int (I 64 w_1))]) hx hb dX5_seek_58 hl (by decide +kernel) rfl (fun ls hl => ?_)
          have L_8274 : ∀ (n_8273 : Nat) (x_8213 : Int32) (x_8214 : Int32) (I_8215 : Nat → Nat → Int32) (ri_8216 : Nat → Nat → Int32) (H : Heap) (locs : List Loc) (ls : Array Slot), rg x_8213 0 1 → rg x_8214 0 120 → (120 - (x_8214).toInt).toNat < n_8273 → FR 10 tg σ a1 (I, J, ri, rj, rq) (I_8215, J_8, ri_8216, rj_10, rq) → GX [1074, 1073, 320, 1288, 1005] tg σ I ri rj I_8215 ri_8216 rj_10 rq → va_P D vwCl (pq_P t σ (I_8215, J_8, ri_8216, rj_10, rq)) H → va_D A (pq_P t σ (I_8215, J_8, ri_8216, rj_10, rq)) → va_S A s.heap H locs → lv_has ls 9 [(0, .ref this), (1, .ref a0), (2, .ref a1), (4, .int a3), (5, .int (I 64 w_1)), (6, .int x_8213), (7, .int x_8214)] → W p l e ({ frames := 6, cells := 0, slots := 0, locals := 169 } : Room) s m (List.toArray ([.ref this, .ref a0, .ref a1, .int a2, .int a3] : List Value)) below meth c H locs 0 0 Q (F0 m 60 ls []) := by
            intro n_8273
            induction n_8273 with
            | zero => intro x_8213 x_8214 I_8215 ri_8216 H locs ls h_8278 h_8279 hm_8272 hFr hG hP hD hS hl; exact absurd hm_8272 (Nat.not_lt_zero _)
            | succ n_8273 ih_8275 =>
              intro x_8213 x_8214 I_8215 ri_8216 H locs ls h_8278 h_8279 hm_8272 hFr hG hP hD hS hl
              have uh_8278 := h_8278.1
              have vh_8278 := h_8278.2
              have uh_8279 := h_8279.1
              have vh_8279 := h_8279.2
              refine lv_iload hx hb dX5_seek_60 (lv_at hl 6 rfl) ?_
              refine lv_bipush (v := 120) hx hb dX5_seek_62 (by decide +kernel) ?_
              refine lv_icmp_ge (tgt := 127) hx hb dX5_seek_64 (by decide +kernel) (fun c_8280 => ?_) (fun c_8280 => ?_)
              · have tc_8281 : 120 ≤ (x_8214).toInt := Int32.le_iff_toInt_le.mp c_8280
                have h_8282 : rg x_8214 120 120 := rg_le2 c_8280 (rg_k (120 : Int32) 120 rfl) h_8279 (by decide +kernel)
                have uh_8282 := h_8282.1
                have vh_8282 := h_8282.2
                subst hQ
                exact W.vret hx hb hr (fun t1 ht hW => ⟨⟨(σ, I_8215, J_8, ri_8216, rj_10, rq), rfl, ⟨I_8215, J_8, ri_8216, rj_10, rfl, hG, hFr⟩, by rw [ht]; exact hP, va_K.moved hW.alike hK, hD⟩, hS.F ht⟩) hS.2.2 dX5_seek_127
              · have tc_8283 : (x_8214).toInt < 120 := Int32.lt_iff_toInt_lt.mp (nle c_8280)
                have h_8284 : rg x_8214 0 119 := rg_lt1 (nle c_8280) h_8279 (rg_k (120 : Int32) 120 rfl) (by decide +kernel)
                have uh_8284 := h_8284.1
                have vh_8284 := h_8284.2
                refine lv_iload hx hb dX5_seek_67 (lv_at hl 5 rfl) ?_
                refine lv_if_eq (tgt := 127) hx hb dX5_seek_69 (by decide +kernel) (fun c_8285 => ?_) (fun c_8285 => ?_)
                · have tc_8286 : (x_8213).toInt = 0 := congrArg Int32.toInt c_8285
                  have h_8287 : rg x_8213 0 0 := rg_and h_8278 (rg_of_eq c_8285 (rg_k (0 : Int32) 0 rfl)) (by decide +kernel)
                  have uh_8287 := h_8287.1
                  have vh_8287 := h_8287.2
                  subst hQ
                  exact W.vret hx hb hr (fun t1 ht hW => ⟨⟨(σ, I_8215, J_8, ri_8216, rj_10, rq), rfl, ⟨I_8215, J_8, ri_8216, rj_10, rfl, hG, hFr⟩, by rw [ht]; exact hP, va_K.moved hW.alike hK, hD⟩, hS.F ht⟩) hS.2.2 dX5_seek_127
                · have tc_8288 : (x_8213).toInt ≠ 0 := fun q => c_8285 (Int32.toInt_inj.mp q)
                  have h_8289 : rg x_8213 1 1 := rg_ne c_8285 h_8278 0 rfl (by decide +kernel)
                  have uh_8289 := h_8289.1
                  have vh_8289 := h_8289.2
                  refine lv_aload_n hx hb dX5_seek_72 rfl (lv_at hl 0 rfl) ?_
                  refine lv_aload_n hx hb dX5_seek_73 rfl (lv_at hl 1 rfl) ?_
                  refine lv_aload_n hx hb dX5_seek_74 rfl (lv_at hl 2 rfl) ?_
                  refine lv_iload hx hb dX5_seek_75 (lv_at hl 3 rfl) ?_
                  refine lv_bipush (v := 12) hx hb dX5_seek_77 (by decide +kernel) ?_
                  refine va_mmin hx hb (hml.trans hl.1.symm) hown (hts _ (tw_c tw_1440)) (hts _ (tw_c tw_467)) (hts _ (tw_c tw_276)) (hts _ (tw_c tw_468)) (Nat.le_of_ble_eq_true rfl) (Nat.le_of_ble_eq_true rfl) (Nat.zero_le _) (Nat.zero_le _) dX5_seek_79 ?_
                  refine lv_topi (fun x_8290 ex_8290 => ?_)
                  have h_8291 : rg x_8290 1 12 := rg_of_eq ex_8290 (rg_min2 h_a3 (rg_k (12 : Int32) 12 rfl) (by decide +kernel))
                  have uh_8291 := h_8291.1
                  have vh_8291 := h_8291.2
                  have tx_8290 : (x_8290).toInt ≤ (a3).toInt ∧ (x_8290).toInt ≤ 12 := by rw [ex_8290]; exact min_le _ _
                  refine pk_i (va_runV (As := [.ref a0, .ref a1, .int x_8290]) (rest := []) ⟨hx, hb, hml, hown, hts⟩ (s_X5_lacksOf l D t σ I_8215 J_8 ri_8216 rj_10 rq H.size tg hSH hG.1 this a0 a1 x_8290 hL_this hK_this hL_a0 hK_a0 hL_a1 hK_a1 (rg_w h_8291 (by decide +kernel)) hap) (cwV 3 hts (tw_V tw_1454 tw_1455 tw_1456 tw_21 tw_1457) rfl rfl rfl cv_yX5_lacksOf_3 ⟨Nat.le_of_ble_eq_true rfl, Nat.le_of_ble_eq_true rfl⟩) ⟨pq_blind, pq_recv hK hP hL_this hK_this (by decide +kernel) rfl, pq_pre hK hN hP hD⟩ rfl rfl hl.1 rfl (lv_room (Nat.le_of_ble_eq_true rfl)) dX5_seek_82 ⟨Nat.le_of_ble_eq_true rfl, Nat.le_of_ble_eq_true rfl⟩) hD hS hA (fun x_8292 σ1 μ1 H locs hw_8293 hP hD hS => ?_)
                  obtain ⟨I_8294, ri_8295, hu_8296, hg_8297, hfr_8300⟩ := hw_8293
                  obtain ⟨hu_8296a, hu_8296b⟩ := Prod.mk.inj hu_8296
                  rw [hu_8296a, hu_8296b] at hP hD
                  replace hFr := fr_tr hFr hfr_8300
                  have hG := GX.tr hG hg_8297 (by decide +kernel)
                  refine lv_istore (lv' := [(8, .int x_8292), (0, .ref this), (1, .ref a0), (2, .ref a1), (4, .int a3), (5, .int (I 64 w_1)), (6, .int x_8213), (7, .int x_8214)]) hx hb dX5_seek_85 hl (by decide +kernel) rfl (fun ls hl => ?_)
                  refine lv_iload hx hb dX5_seek_87 (lv_at hl 0 rfl) ?_
                  refine lv_aload_n hx hb dX5_seek_89 rfl (lv_at hl 1 rfl) ?_
                  refine pg_f (v := .int (I_8294 160 this)) (C := RX5) (T := TX5) (N := 8) hx hb hts (tw_i inlX5) hown hK hP hL_this hK_this (by decide +kernel) rfl 0 (by decide +kernel) (hts _ (tw_c tw_1441)) rfl dX5_seek_90 ?_
                  have K_8333 : ∀  (I_8320 : Nat → Nat → Int32) (ri_8321 : Nat → Nat → Int32) (H : Heap) (locs : List Loc) (ls : Array Slot), FR 10 tg σ a1 (I, J, ri, rj, rq) (I_8320, J_8, ri_8321, rj_10, rq) → GX [1074, 1073, 320, 1288, 1005] tg σ I ri rj I_8320 ri_8321 rj_10 rq → va_P D vwCl (pq_P t σ (I_8320, J_8, ri_8321, rj_10, rq)) H → va_D A (pq_P t σ (I_8320, J_8, ri_8321, rj_10, rq)) → va_S A s.heap H locs → lv_has ls 9 [(0, .ref this), (1, .ref a0), (2, .ref a1), (4, .int a3), (5, .int (I 64 w_1)), (7, .int x_8214)] → W p l e ({ frames := 6, cells := 0, slots := 0, locals := 169 } : Room) s m (List.toArray ([.ref this, .ref a0, .ref a1, .int a2, .int a3] : List Value)) below meth c H locs 0 0 Q (F0 m 113 ls []) := by
                    intro I_8320 ri_8321 H locs ls hFr hG hP hD hS hl
                    refine lv_aload_n hx hb dX5_seek_113 rfl (lv_at hl 0 rfl) ?_
                    refine lv_iload hx hb dX5_seek_114 (lv_at hl 4 rfl) ?_
                    refine pk_i (va_runV (As := [.int (I 64 w_1)]) (rest := []) ⟨hx, hb, hml, hown, hts⟩ (s_X5_toNextOrder l D t σ I_8320 J_8 ri_8321 rj_10 rq H.size tg hSH hG.1 this (I 64 w_1) hL_this hK_this (rg_w h_2 (by decide +kernel)) a1 hL_a1 hK_a1) (cwV 1 hts (tw_V tw_1475 tw_1476 tw_1477 tw_21 tw_1478) rfl rfl rfl cv_yX5_toNextOrder_1 ⟨Nat.le_of_ble_eq_true rfl, Nat.le_of_ble_eq_true rfl⟩) ⟨pq_blind, pq_recv hK hP hL_this hK_this (by decide +kernel) rfl, pq_pre hK hN hP hD⟩ rfl rfl hl.1 rfl (lv_room (Nat.le_of_ble_eq_true rfl)) dX5_seek_116 ⟨Nat.le_of_ble_eq_true rfl, Nat.le_of_ble_eq_true rfl⟩) hD hS hA (fun x_8334 σ1 μ1 H locs hw_8335 hP hD hS => ?_)
                    obtain ⟨ri_8336, hu_8337, hg_8338, hfr_8341, hr_8339⟩ := hw_8335
                    obtain ⟨hu_8337a, hu_8337b⟩ := Prod.mk.inj hu_8337
                    rw [hu_8337a, hu_8337b] at hP hD
                    replace hFr := fr_tr hFr hfr_8341
                    have hG := GX.tr hG hg_8338 (by decide +kernel)
                    have h_8342 : rg x_8334 0 1 := by rcases hr_8339 with ⟨q, -⟩ | ⟨q, -⟩ <;> rw [q] <;> exact ⟨by decide +kernel, by decide +kernel⟩
                    have uh_8342 := h_8342.1
                    have vh_8342 := h_8342.2
                    refine lv_istore (lv' := [(6, .int x_8334), (0, .ref this), (1, .ref a0), (2, .ref a1), (4, .int a3), (5, .int (I 64 w_1)), (7, .int x_8214)]) hx hb dX5_seek_119 hl (by decide +kernel) rfl (fun ls hl => ?_)
                    obtain ⟨x_8343, ex_8343⟩ : ∃ y : Int32, y = x_8214 + Int32.ofInt 1 := ⟨_, rfl⟩
                    have h_8344 : rg x_8343 1 120 := rg_of_eq ex_8343 (rg_add h_8284 (rg_k (Int32.ofInt 1) 1 rfl) (by decide +kernel))
                    have uh_8344 := h_8344.1
                    have vh_8344 := h_8344.2
                    have tx_8343 : (x_8343).toInt = (x_8214).toInt + 1 := by rw [ex_8343]; exact i_add_rg (a2 := (x_8214).toInt) (b2 := 1) rfl rfl h_8284 (rg_k (Int32.ofInt 1) 1 rfl) (by decide +kernel)
                    refine lv_iinc (v := x_8343) (lv' := [(7, .int x_8343), (6, .int x_8334), (0, .ref this), (1, .ref a0), (2, .ref a1), (4, .int a3), (5, .int (I 64 w_1))]) hx hb dX5_seek_121 hl (k := 6) rfl ex_8343.symm (by decide +kernel) rfl (fun ls hl => ?_)
                    refine lv_goto (tgt := 60) hx hb dX5_seek_124 (by decide +kernel) ?_
                    exact ih_8275 x_8334 x_8343 I_8320 ri_8336 _ _ _ (rg_w h_8342 (by decide +kernel)) (rg_w h_8344 (by decide +kernel)) (ms_up 1 hm_8272 ex_8343 rfl (by decide +kernel) h_8284 (by decide +kernel) (by decide +kernel)) hFr hG hP hD hS (lv_sub hl [2, 3, 4, 5, 6, 1, 0] rfl)
                  refine lv_icmp_ge (tgt := 113) hx hb dX5_seek_93 (by decide +kernel) (fun c_8345 => ?_) (fun c_8345 => ?_)
                  · have tc_8346 : (I_8294 160 this).toInt ≤ (x_8292).toInt := Int32.le_iff_toInt_le.mp c_8345
                    exact K_8333 I_8294 ri_8295 _ _ _ hFr hG hP hD hS (lv_sub hl [1, 2, 3, 4, 5, 7] rfl)
                  · have tc_8347 : (x_8292).toInt < (I_8294 160 this).toInt := Int32.lt_iff_toInt_lt.mp (nle c_8345)
                    have h_8348 : rg x_8292 (-2147483648) 2147483646 := rg_lt1 (nle c_8345) (rg_full _) (rg_full _) (by decide +kernel)
                    have uh_8348 := h_8348.1
                    have vh_8348 := h_8348.2
                    have h_8349 : rg (I_8294 160 this) (-2147483647) 2147483647 := rg_lt2 (nle c_8345) (rg_full _) (rg_full _) (by decide +kernel)
                    have uh_8349 := h_8349.1
                    have vh_8349 := h_8349.2
                    refine lv_aload_n hx hb dX5_seek_96 rfl (lv_at hl 1 rfl) ?_
                    refine lv_iload hx hb dX5_seek_97 (lv_at hl 0 rfl) ?_
                    refine pp_i (v := x_8292) (ty := .int) (C := RX5) (T := TX5) (N := 8) hx hb hts (tw_i inlX5) tyX5 tyX5_ok nmX5 hown hK hP hD hS hL_this hK_this (by decide +kernel) rfl 0 160 (by decide +kernel) (hts _ (tw_c tw_1441)) rfl (tyX5_ok 0 (by decide +kernel)) rfl rfl (Nat.le_of_ble_eq_true rfl) (ps_160 _ _ _ _ _) dX5_seek_99 (fun I_8350 H locs eI_8350 hP hD hS => ?_)
                    replace hFr := fr_I5 (f := 160) hFr (by decide +kernel) eI_8350
                    have hG := GX.wI hG 160 rfl eI_8350 (rg_w h_8348 (by decide +kernel)) (by decide +kernel)
                    refine lv_aload_n hx hb dX5_seek_102 rfl (lv_at hl 1 rfl) ?_
                    obtain ⟨w_8351, hR_w_8351, hL_w_8351, hK_w_8351, hN_w_8351, hT_w_8351⟩ := sh_a hSH 162 (ci := 5) (kd := 13) (len := 5) rfl (by decide +kernel) hL_this hK_this
                    refine pg_f (v := .ref w_8351) (C := RX5) (T := TX5) (N := 8) hx hb hts (tw_i inlX5) hown hK hP hL_this hK_this (by decide +kernel) rfl 2 (by decide +kernel) (hts _ (tw_c tw_143)) (pq_hv rfl hR_w_8351) dX5_seek_103 ?_
                    refine lv_aload_n hx hb dX5_seek_106 rfl (lv_at hl 1 rfl) ?_
                    obtain ⟨w_8352, hR_w_8352, hL_w_8352, hK_w_8352, hN_w_8352, hT_w_8352⟩ := sh_a hSH 161 (ci := 5) (kd := 13) (len := 5) rfl (by decide +kernel) hL_this hK_this
                    refine pg_f (v := .ref w_8352) (C := RX5) (T := TX5) (N := 8) hx hb hts (tw_i inlX5) hown hK hP hL_this hK_this (by decide +kernel) rfl 1 (by decide +kernel) (hts _ (tw_c tw_142)) (pq_hv rfl hR_w_8352) dX5_seek_107 ?_
                    refine pk_v (va_runSN (As := [.ref w_8351, .ref w_8352]) (rest := []) ⟨hx, hb, hml, hown, hts⟩ (s_X11_copy_162_161 l D t σ I_8350 J_8 ri_8295 rj_10 rq H.size tg hSH hG.1 w_8351 w_8352 hL_w_8351 hK_w_8351 hN_w_8351 hT_w_8351 hL_w_8352 hK_w_8352 hN_w_8352 hT_w_8352) ⟨va_cnB (host := "RingsUnder") 2 hts (tw_W tw_1102) rfl rfl rfl (nl_23 hN) (hts _ (tw_c tw_2)) cd_yX11_copy_2 ⟨Nat.le_of_ble_eq_true rfl, Nat.le_of_ble_eq_true rfl⟩, hts (.static yX11_copy) (tw_c tq_static_yX11_copy), trivial⟩ ⟨pq_blind, pq_pre hK hN hP hD⟩ rfl rfl hl.1 rfl (lv_room (Nat.le_of_ble_eq_true rfl)) dX5_seek_110 ⟨Nat.le_of_ble_eq_true rfl, Nat.le_of_ble_eq_true rfl⟩) hD hS hA (fun σ1 μ1 H locs hw_8354 hP hD hS => ?_)
                    obtain ⟨ri_8355, hu_8356, hg_8357, hp_8359, hp_8360, hp_8361⟩ := hw_8354
                    obtain ⟨hu_8356a, hu_8356b⟩ := Prod.mk.inj hu_8356
                    rw [hu_8356a, hu_8356b] at hP hD
                    replace hFr := fr_R5 hFr hT_w_8352 (by decide +kernel) hp_8361
                    have hG := GX.tr hG hg_8357 (by decide +kernel)
                    exact K_8333 I_8350 ri_8355 _ _ _ hFr hG hP hD hS (lv_sub hl [1, 2, 3, 4, 5, 7] rfl)
          exact L_8274 _ (1 : Int32) (0 : Int32) I_7310 ri_6272 _ _ _ (rg_w (rg_k (1 : Int32) 1 rfl) (by decide +kernel)) (rg_w (rg_k (0 : Int32) 0 rfl) (by decide +kernel)) (Nat.lt_succ_self _) hFr hG hP hD hS (lv_sub hl [2, 3, 4, 5, 6, 1, 0] rfl)
        · have tc_8364 : (x_6271).toInt < (I 64 w_1).toInt := Int32.lt_iff_toInt_lt.mp (nle c_7308)
          have h_8365 : rg x_6271 0 4 := rg_lt1 (nle c_7308) h_7307 h_2 (by decide +kernel)
          have uh_8365 := h_8365.1
          have vh_8365 := h_8365.2
          have h_8366 : rg (I 64 w_1) 1 5 := rg_lt2 (nle c_7308) h_7307 h_2 (by decide +kernel)
          have uh_8366 := h_8366.1
          have vh_8366 := h_8366.2
          refine lv_aload_n hx hb dX5_seek_32 rfl (lv_at hl 0 rfl) ?_
          obtain ⟨w_8367, hR_w_8367, hL_w_8367, hK_w_8367, hN_w_8367, hT_w_8367⟩ := sh_a hSH 162 (ci := 5) (kd := 13) (len := 5) rfl (by decide +kernel) hL_this hK_this
          refine pg_f (v := .ref w_8367) (C := RX5) (T := TX5) (N := 8) hx hb hts (tw_i inlX5) hown hK hP hL_this hK_this (by decide +kernel) rfl 2 (by decide +kernel) (hts _ (tw_c tw_143)) (pq_hv rfl hR_w_8367) dX5_seek_33 ?_
          refine lv_iload hx hb dX5_seek_36 (lv_at hl 5 rfl) ?_
          refine lv_iload hx hb dX5_seek_38 (lv_at hl 5 rfl) ?_
          refine pt_i hx hb hK hP hD hS hL_w_8367 hK_w_8367 hN_w_8367 (rg_in h_8365 (by decide +kernel)) dX5_seek_40 (fun r_8368 H locs er_8368 hP hD hS => ?_)
          replace hFr := fr_R5 hFr hT_w_8367 (by decide +kernel) er_8368
          have hG := GX.wR hG hSH hT_w_8367 rfl er_8368 (rg_w h_8365 (by decide +kernel)) (by decide +kernel)
          obtain ⟨x_8369, ex_8369⟩ : ∃ y : Int32, y = x_6271 + Int32.ofInt 1 := ⟨_, rfl⟩
          have h_8370 : rg x_8369 1 5 := rg_of_eq ex_8369 (rg_add h_8365 (rg_k (Int32.ofInt 1) 1 rfl) (by decide +kernel))
          have uh_8370 := h_8370.1
          have vh_8370 := h_8370.2
          have tx_8369 : (x_8369).toInt = (x_6271).toInt + 1 := by rw [ex_8369]; exact i_add_rg (a2 := (x_6271).toInt) (b2 := 1) rfl rfl h_8365 (rg_k (Int32.ofInt 1) 1 rfl) (by decide +kernel)
          refine lv_iinc (v := x_8369) (lv' := [(6, .int x_8369), (0, .ref this), (1, .ref a0), (2, .ref a1), (4, .int a3), (5, .int (I 64 w_1))]) hx hb dX5_seek_41 hl (k := 5) rfl ex_8369.symm (by decide +kernel) rfl (fun ls hl => ?_)
          refine lv_goto (tgt := 25) hx hb dX5_seek_44 (by decide +kernel) ?_
          exact ih_7305 x_8369 r_8368 _ _ _ (rg_w h_8370 (by decide +kernel)) (ms_up 1 hm_7302 ex_8369 rfl (by decide +kernel) h_8365 (by decide +kernel) (by decide +kernel)) hFr hG hP hD hS (lv_sub hl [1, 2, 3, 4, 5, 0] rfl)
    exact L_7304 _ (0 : Int32) ri_9 _ _ _ (rg_w (rg_k (0 : Int32) 0 rfl) (by decide +kernel)) (Nat.lt_succ_self _) hFr hG hP hD hS (lv_sub hl [2, 3, 4, 6, 1, 0] rfl)
  exact go _ _ _ hP hD hS hl

set_option maxRecDepth 100000 in
def g_X6_append_L3 (a0 : Int32) (J : Nat → Int64) (rj : Nat → Nat → Int64) (rq : Nat → Nat → Option Nat) : Nat → (Int32) → (Nat → Int32) → (Nat → Nat → Int32) → vM
  | 0, x_138, I_139, ri_140 => (I_139, J, ri_140, rj, rq)
  | n_160 + 1, x_138, I_139, ri_140 => (if x_138 < (0 : Int32) then (I_139, J, ri_140, rj, rq) else (ap1 (I_139 193) fun (y_171 : Int32) => (if (300 : Int32) ≤ (y_171) then (I_139, J, ri_140, rj, rq) else (ap1 ((a0.toUInt32 >>> (x_138.toUInt32 &&& Int32.toUInt32 31)).toInt32) fun (x_178 : Int32) => (ap1 (x_178 &&& (255 : Int32)) fun (x_179 : Int32) => (ap1 (va_up ri_140 192 (upd (ri_140 192) ((y_171)).toNatClampNeg x_179)) fun (r_180 : Nat → Nat → Int32) => (ap1 ((y_171) + (1 : Int32)) fun (x_181 : Int32) => (ap1 (va_up I_139 193 x_181) fun (I_183 : Nat → Int32) => (ap1 (x_138 + Int32.ofInt (-8)) fun (x_184 : Int32) => ((g_X6_append_L3 a0 J rj rq n_160) x_184 I_183 r_180))))))))))
set_option maxRecDepth 100000 in
theorem g_X6_append_L3_e {a0 : Int32} {J : Nat → Int64} {rj : Nat → Nat → Int64} {rq : Nat → Nat → Option Nat} {n_160 : Nat} {x_138 : Int32} {I_139 : Nat → Int32} {ri_140 : Nat → Nat → Int32} : g_X6_append_L3 a0 J rj rq (n_160 + 1) x_138 I_139 ri_140 = (if x_138 < (0 : Int32) then (I_139, J, ri_140, rj, rq) else (ap1 (I_139 193) fun (y_171 : Int32) => (if (300 : Int32) ≤ (y_171) then (I_139, J, ri_140, rj, rq) else (ap1 ((a0.toUInt32 >>> (x_138.toUInt32 &&& Int32.toUInt32 31)).toInt32) fun (x_178 : Int32) => (ap1 (x_178 &&& (255 : Int32)) fun (x_179 : Int32) => (ap1 (va_up ri_140 192 (upd (ri_140 192) ((y_171)).toNatClampNeg x_179)) fun (r_180 : Nat → Nat → Int32) => (ap1 ((y_171) + (1 : Int32)) fun (x_181 : Int32) => (ap1 (va_up I_139 193 x_181) fun (I_183 : Nat → Int32) => (ap1 (x_138 + Int32.ofInt (-8)) fun (x_184 : Int32) => ((g_X6_append_L3 a0 J rj rq n_160) x_184 I_183 r_180)))))))))) := rfl
set_option maxRecDepth 100000 in
def g_X6_append (a0 : Int32) (I : Nat → Int32) (J : Nat → Int64) (ri : Nat → Nat → Int32) (rj : Nat → Nat → Int64) (rq : Nat → Nat → Option Nat) : vM := (g_X6_append_L3 a0 J rj rq ((((24 : Int32)).toInt - (-8)).toNat + 1) (24 : Int32) I ri)
set_option maxRecDepth 100000 in
theorem g_X6_append_e {a0 : Int32} {I : Nat → Int32} {J : Nat → Int64} {ri : Nat → Nat → Int32} {rj : Nat → Nat → Int64} {rq : Nat → Nat → Option Nat} : g_X6_append a0 I J ri rj rq = (g_X6_append_L3 a0 J rj rq ((((24 : Int32)).toInt - (-8)).toNat + 1) (24 : Int32) I ri) := rfl
set_option maxHeartbeats 4000000 in
set_option maxRecDepth 100000 in
theorem s_X6_append (l : Launch) (D : va_G) (t : pq_T) (σ : pq_S) (I : Nat → Nat → Int32) (J : Nat → Nat → Int64) (ri : Nat → Nat → Int32) (rj : Nat → Nat → Int64) (rq : Nat → Nat → Option Nat) (sz : Nat) (tg : Nat → Nat) (hSH : SH σ tg) (hG0 : GS tg σ I ri rq) (this : Nat) (a0 : Int32) (hL_this : this ∈ σ.1) (hK_this : σ.2.1 this = 6) (M : Nat) (hL_M : M ∈ σ.1) (hK_M : σ.2.1 M = 4) (hO_this : this = vo σ 6 M) : MetV l yX6_append (wa yX6_append cX6_append 3 none) ({ frames := 0, cells := 0, slots := 0, locals := 0 }) [.ref this, .int a0] D t σ (I, J, ri, rj, rq) sz 0 0 (fun (u : pq_S × pq_M) => ∃ I' : Nat → Nat → Int32, ∃ ri' : Nat → Nat → Int32, u = (σ, I', J, ri', rj, rq) ∧ GX [193] tg σ I ri rj I' ri' rj rq ∧ g_X6_append a0 (vI 4 σ M I) (vJ 4 σ M J) (vR 4 σ M ri) (vL 4 σ M rj) (vQ 4 σ M rq) = ((vI 4 σ M I'), (vJ 4 σ M J), (vR 4 σ M ri'), (vL 4 σ M rj), (vQ 4 σ M rq)) ∧ FR 4 tg σ M (I, J, ri, rj, rq) (I', J, ri', rj, rq)) := by
  refine Met.ofW (cc := cX6_append) (maxL := 3) (ret := none) (by decide +kernel) rfl ?_
  intro p e s m args below meth c s₁ B hml hv
  obtain ⟨rfl, hsz, hP, hK, hD0, hN⟩ := hv
  have hx := B.exec
  have hb := B.bytes
  have hr := B.returns
  have hts := atoms_spec (ws := (wa yX6_append cX6_append 3 none)) B.pre
  have hown : s.vm.findClass RX6 = some m.cls := findClass_of_methodNamed B.named
  have hlocks := B.notSynchronized
  subst hsz
  have hD : va_D (pq_B t σ (I, J, ri, rj, rq) s.heap.size) (pq_P t σ (I, J, ri, rj, rq)) := hD0.self
  generalize hAe : pq_B t σ (I, J, ri, rj, rq) s.heap.size = A at hD ⊢
  have hA : ∀ q : Nat, s.heap.size ≤ q → A q := fun q h => by rw [← hAe]; exact Or.inr h
  have hS : va_S A s.heap s.heap [] := va_S.rf
  have hG : GX [193] tg σ I ri rj I ri rj rq := ⟨hG0, fun _ _ _ => rfl, fun _ _ _ _ _ => rfl, fun _ _ _ _ _ => rfl⟩
  have hl := lv_entry ([.ref this, .int a0]) (n := 3) (Nat.le_of_ble_eq_true rfl)
  rw [lg_entry_eq]
  generalize (lg_sl ([.ref this, .int a0]) ++ List.replicate (3 - (lg_sl ([.ref this, .int a0])).length) Slot.unset).toArray = ls at hl ⊢
  have hl : lv_has ls 3 [(0, .ref this), (1, .int a0)] := hl
  refine q_gen (fun Q hQ => ?_)
  have go : ∀ (H : Heap) (locs : List Loc) (ls : Array Slot), va_P D vwCl (pq_P t σ (I, J, ri, rj, rq)) H → va_D A (pq_P t σ (I, J, ri, rj, rq)) → va_S A s.heap H locs → lv_has ls 3 [(0, .ref this), (1, .int a0)] → W p l e ({ frames := 0, cells := 0, slots := 0, locals := 0 } : Room) s m (List.toArray ([.ref this, .int a0] : List Value)) below meth c H locs 0 0 Q (F0 m 0 ls []) := by
    intro H locs ls hP hD hS hl
    have hVT : VT 4 σ tg M := vt_4 hSH hL_M hK_M
    have hFr : FR 4 tg σ M (I, J, ri, rj, rq) (I, J, ri, rj, rq) := fr_rf
    obtain ⟨F, hF0⟩ : ∃ F, F = g_X6_append a0 (vI 4 σ M I) (vJ 4 σ M J) (vR 4 σ M ri) (vL 4 σ M rj) (vQ 4 σ M rq) := ⟨_, rfl⟩
    have hF := hF0.trans g_X6_append_e
    refine lv_bipush (v := 24) hx hb dX6_append_0 (by decide +kernel) ?_
    refine lv_istore_n (lv' := [(2, .int 24), (0, .ref this), (1, .int a0)]) hx hb dX6_append_2 rfl hl (by decide +kernel) rfl (fun ls hl => ?_)
    have L_161 : ∀ (n_160 : Nat) (x_138 : Int32) (I_139 : Nat → Nat → Int32) (ri_140 : Nat → Nat → Int32) (H : Heap) (locs : List Loc) (ls : Array Slot), rg x_138 (-8) 24 → ((x_138).toInt - (-8)).toNat < n_160 → F = g_X6_append_L3 a0 (vJ 4 σ M J) (vL 4 σ M rj) (vQ 4 σ M rq) n_160 x_138 (vI 4 σ M I_139) (vR 4 σ M ri_140) → FR 4 tg σ M (I, J, ri, rj, rq) (I_139, J, ri_140, rj, rq) → GX [193] tg σ I ri rj I_139 ri_140 rj rq → va_P D vwCl (pq_P t σ (I_139, J, ri_140, rj, rq)) H → va_D A (pq_P t σ (I_139, J, ri_140, rj, rq)) → va_S A s.heap H locs → lv_has ls 3 [(0, .ref this), (1, .int a0), (2, .int x_138)] → W p l e ({ frames := 0, cells := 0, slots := 0, locals := 0 } : Room) s m (List.toArray ([.ref this, .int a0] : List Value)) below meth c H locs 0 0 Q (F0 m 3 ls []) := by
      intro n_160
      induction n_160 with
      | zero => intro x_138 I_139 ri_140 H locs ls h_164 hm_159 hF hFr hG hP hD hS hl; exact absurd hm_159 (Nat.not_lt_zero _)
      | succ n_160 ih_162 =>
        intro x_138 I_139 ri_140 H locs ls h_164 hm_159 hF hFr hG hP hD hS hl
        replace hF := hF.trans g_X6_append_L3_e
        refine lv_iload_n hx hb dX6_append_3 rfl (lv_at hl 2 rfl) ?_
        refine lv_if_lt (tgt := 49) hx hb dX6_append_4 (by decide +kernel) (fun c_165 => ?_) (fun c_165 => ?_)
        · replace hF := hF.trans (if_pos c_165)
          have h_168 : rg x_138 (-8) (-1) := rg_lt1 c_165 h_164 (rg_k (0 : Int32) 0 rfl) (by decide +kernel)
          subst hQ
          exact W.vret hx hb hr (fun t1 ht hW => ⟨⟨(σ, I_139, J, ri_140, rj, rq), rfl, ⟨I_139, ri_140, rfl, hG, (hF0.symm.trans hF), hFr⟩, by rw [ht]; exact hP, va_K.moved hW.alike hK, hD⟩, hS.F ht⟩) hS.2.2 dX6_append_49
        · replace hF := hF.trans (if_neg c_165)
          have h_169 : rg x_138 0 24 := rg_le2 (nlt c_165) (rg_k (0 : Int32) 0 rfl) h_164 (by decide +kernel)
          refine lv_aload_n hx hb dX6_append_7 rfl (lv_at hl 0 rfl) ?_
          refine pg_f (v := .int (I_139 193 this)) (C := RX6) (T := TX6) (N := 6) hx hb hts (tw_i inlX6) hown hK hP hL_this hK_this (by decide +kernel) rfl 1 (by decide +kernel) (hts _ (tw_c tw_626)) rfl dX6_append_8 ?_
          have h_170 : rg (I_139 193 this) 0 300 := GX.rI hG 193 rfl
          replace hF := hF.trans (ap_n (vI_e (f := 193) hO_this (by decide +kernel)))
          refine lv_sipush (v := 300) hx hb dX6_append_11 (by decide +kernel) ?_
          refine lv_icmp_ge (tgt := 49) hx hb dX6_append_14 (by decide +kernel) (fun c_172 => ?_) (fun c_172 => ?_)
          · replace hF := hF.trans (if_pos c_172)
            have h_175 : rg (I_139 193 this) 300 300 := rg_le2 c_172 (rg_k (300 : Int32) 300 rfl) h_170 (by decide +kernel)
            subst hQ
            exact W.vret hx hb hr (fun t1 ht hW => ⟨⟨(σ, I_139, J, ri_140, rj, rq), rfl, ⟨I_139, ri_140, rfl, hG, (hF0.symm.trans hF), hFr⟩, by rw [ht]; exact hP, va_K.moved hW.alike hK, hD⟩, hS.F ht⟩) hS.2.2 dX6_append_49
          · replace hF := hF.trans (if_neg c_172)
            have h_176 : rg (I_139 193 this) 0 299 := rg_lt1 (nle c_172) h_170 (rg_k (300 : Int32) 300 rfl) (by decide +kernel)
            refine lv_aload_n hx hb dX6_append_17 rfl (lv_at hl 0 rfl) ?_
            obtain ⟨w_177, hR_w_177, hL_w_177, hK_w_177, hN_w_177, hT_w_177⟩ := sh_a hSH 192 (ci := 6) (kd := 13) (len := 300) rfl (by decide +kernel) hL_this hK_this
            have hO_w_177 : w_177 = vrow σ 192 M := vo_k (c := 6) hO_this hR_w_177
            refine pg_f (v := .ref w_177) (C := RX6) (T := TX6) (N := 6) hx hb hts (tw_i inlX6) hown hK hP hL_this hK_this (by decide +kernel) rfl 0 (by decide +kernel) (hts _ (tw_c tw_165)) (pq_hv rfl hR_w_177) dX6_append_18 ?_
            refine lv_aload_n hx hb dX6_append_21 rfl (lv_at hl 0 rfl) ?_
            refine pg_f (v := .int (I_139 193 this)) (C := RX6) (T := TX6) (N := 6) hx hb hts (tw_i inlX6) hown hK hP hL_this hK_this (by decide +kernel) rfl 1 (by decide +kernel) (hts _ (tw_c tw_626)) rfl dX6_append_22 ?_
            refine lv_iload_n hx hb dX6_append_25 rfl (lv_at hl 1 rfl) ?_
            refine lv_iload_n hx hb dX6_append_26 rfl (lv_at hl 2 rfl) ?_
            refine lv_iushr hx hb dX6_append_27 rfl ?_
            refine lv_topi (fun x_178 ex_178 => ?_)
            replace hF := hF.trans (ap_n ex_178)
            refine lv_sipush (v := 255) hx hb dX6_append_28 (by decide +kernel) ?_
            refine lv_iand hx hb dX6_append_31 ?_
            refine lv_topi (fun x_179 ex_179 => ?_)
            replace hF := hF.trans (ap_n ex_179)
            refine pt_i hx hb hK hP hD hS hL_w_177 hK_w_177 hN_w_177 (rg_in h_176 (by decide +kernel)) dX6_append_32 (fun r_180 H locs er_180 hP hD hS => ?_)
            replace hFr := fr_R hFr hO_w_177 (by decide +kernel) er_180
            replace hF := hF.trans (ap_n (vR_st hVT hO_w_177 (by decide +kernel) er_180))
            have hG := GX.wR hG hSH hT_w_177 rfl er_180 (rg_w (rg_full _) (by decide +kernel)) (by decide +kernel)
            refine lv_aload_n hx hb dX6_append_33 rfl (lv_at hl 0 rfl) ?_
            refine lv_dup hx hb dX6_append_34 rfl ?_
            refine pg_f (v := .int (I_139 193 this)) (C := RX6) (T := TX6) (N := 6) hx hb hts (tw_i inlX6) hown hK hP hL_this hK_this (by decide +kernel) rfl 1 (by decide +kernel) (hts _ (tw_c tw_626)) rfl dX6_append_35 ?_
            refine lv_iconst (v := 1) hx hb dX6_append_38 (by decide +kernel) ?_
            refine lv_iadd hx hb dX6_append_39 ?_
            refine lv_topi (fun x_181 ex_181 => ?_)
            replace hF := hF.trans (ap_n ex_181)
            have h_182 : rg x_181 1 300 := rg_of_eq ex_181 (rg_add h_176 (rg_k (1 : Int32) 1 rfl) (by decide +kernel))
            refine pp_i (v := x_181) (ty := .int) (C := RX6) (T := TX6) (N := 6) hx hb hts (tw_i inlX6) tyX6 tyX6_ok nmX6 hown hK hP hD hS hL_this hK_this (by decide +kernel) rfl 1 193 (by decide +kernel) (hts _ (tw_c tw_626)) rfl (tyX6_ok 1 (by decide +kernel)) rfl rfl (Nat.le_of_ble_eq_true rfl) (ps_193 _ _ _ _ _) dX6_append_40 (fun I_183 H locs eI_183 hP hD hS => ?_)
            replace hFr := fr_I (f := 193) hFr hO_this (by decide +kernel) eI_183
            replace hF := hF.trans (ap_n (vI_st (f := 193) hO_this (by decide +kernel) eI_183))
            have hG := GX.wI hG 193 rfl eI_183 (rg_w h_182 (by decide +kernel)) (by decide +kernel)
            obtain ⟨x_184, ex_184⟩ : ∃ y : Int32, y = x_138 + Int32.ofInt (-8) := ⟨_, rfl⟩
            replace hF := hF.trans (ap_n ex_184)
            have h_185 : rg x_184 (-8) 16 := rg_of_eq ex_184 (rg_add h_169 (rg_k (Int32.ofInt (-8)) (-8) rfl) (by decide +kernel))
            refine lv_iinc (v := x_184) (lv' := [(2, .int x_184), (0, .ref this), (1, .int a0)]) hx hb dX6_append_43 hl (k := 2) rfl ex_184.symm (by decide +kernel) rfl (fun ls hl => ?_)
            refine lv_goto (tgt := 3) hx hb dX6_append_46 (by decide +kernel) ?_
            exact ih_162 x_184 I_183 r_180 _ _ _ (rg_w h_185 (by decide +kernel)) (ms_dn 8 hm_159 ex_184 rfl (by decide +kernel) h_169 (by decide +kernel) (by decide +kernel)) hF hFr hG hP hD hS (lv_sub hl [1, 2, 0] rfl)
    exact L_161 _ (24 : Int32) I ri _ _ _ (rg_w (rg_k (24 : Int32) 24 rfl) (by decide +kernel)) (Nat.lt_succ_self _) hF hFr hG hP hD hS (lv_sub hl [1, 2, 0] rfl)
  exact go _ _ _ hP hD hS hl

set_option maxRecDepth 100000 in
def g_X6_rewind (I : Nat → Int32) (J : Nat → Int64) (ri : Nat → Nat → Int32) (rj : Nat → Nat → Int64) (rq : Nat → Nat → Option Nat) : vM := (ap1 (va_up I 197 (0 : Int32)) fun (I_1 : Nat → Int32) => (I_1, J, ri, rj, rq))
set_option maxRecDepth 100000 in
theorem g_X6_rewind_e {I : Nat → Int32} {J : Nat → Int64} {ri : Nat → Nat → Int32} {rj : Nat → Nat → Int64} {rq : Nat → Nat → Option Nat} : g_X6_rewind I J ri rj rq = (ap1 (va_up I 197 (0 : Int32)) fun (I_1 : Nat → Int32) => (I_1, J, ri, rj, rq)) := rfl
set_option maxHeartbeats 4000000 in
set_option maxRecDepth 100000 in
theorem s_X6_rewind (l : Launch) (D : va_G) (t : pq_T) (σ : pq_S) (I : Nat → Nat → Int32) (J : Nat → Nat → Int64) (ri : Nat → Nat → Int32) (rj : Nat → Nat → Int64) (rq : Nat → Nat → Option Nat) (sz : Nat) (tg : Nat → Nat) (hSH : SH σ tg) (hG0 : GS tg σ I ri rq) (this : Nat) (hL_this : this ∈ σ.1) (hK_this : σ.2.1 this = 6) (M : Nat) (hL_M : M ∈ σ.1) (hK_M : σ.2.1 M = 4) (hO_this : this = vo σ 6 M) : MetV l yX6_rewind (wa yX6_rewind cX6_rewind 1 none) ({ frames := 0, cells := 0, slots := 0, locals := 0 }) [.ref this] D t σ (I, J, ri, rj, rq) sz 0 0 (fun (u : pq_S × pq_M) => ∃ I' : Nat → Nat → Int32, u = (σ, I', J, ri, rj, rq) ∧ GX [197] tg σ I ri rj I' ri rj rq ∧ g_X6_rewind (vI 4 σ M I) (vJ 4 σ M J) (vR 4 σ M ri) (vL 4 σ M rj) (vQ 4 σ M rq) = ((vI 4 σ M I'), (vJ 4 σ M J), (vR 4 σ M ri), (vL 4 σ M rj), (vQ 4 σ M rq)) ∧ FR 4 tg σ M (I, J, ri, rj, rq) (I', J, ri, rj, rq)) := by
  refine Met.ofW (cc := cX6_rewind) (maxL := 1) (ret := none) (by decide +kernel) rfl ?_
  intro p e s m args below meth c s₁ B hml hv
  obtain ⟨rfl, hsz, hP, hK, hD0, hN⟩ := hv
  have hx := B.exec
  have hb := B.bytes
  have hr := B.returns
  have hts := atoms_spec (ws := (wa yX6_rewind cX6_rewind 1 none)) B.pre
  have hown : s.vm.findClass RX6 = some m.cls := findClass_of_methodNamed B.named
  have hlocks := B.notSynchronized
  subst hsz
  have hD : va_D (pq_B t σ (I, J, ri, rj, rq) s.heap.size) (pq_P t σ (I, J, ri, rj, rq)) := hD0.self
  generalize hAe : pq_B t σ (I, J, ri, rj, rq) s.heap.size = A at hD ⊢
  have hA : ∀ q : Nat, s.heap.size ≤ q → A q := fun q h => by rw [← hAe]; exact Or.inr h
  have hS : va_S A s.heap s.heap [] := va_S.rf
  have hG : GX [197] tg σ I ri rj I ri rj rq := ⟨hG0, fun _ _ _ => rfl, fun _ _ _ _ _ => rfl, fun _ _ _ _ _ => rfl⟩
  have hl := lv_entry ([.ref this]) (n := 1) (Nat.le_of_ble_eq_true rfl)
  rw [lg_entry_eq]
  generalize (lg_sl ([.ref this]) ++ List.replicate (1 - (lg_sl ([.ref this])).length) Slot.unset).toArray = ls at hl ⊢
  have hl : lv_has ls 1 [(0, .ref this)] := hl
  refine q_gen (fun Q hQ => ?_)
  have go : ∀ (H : Heap) (locs : List Loc) (ls : Array Slot), va_P D vwCl (pq_P t σ (I, J, ri, rj, rq)) H → va_D A (pq_P t σ (I, J, ri, rj, rq)) → va_S A s.heap H locs → lv_has ls 1 [(0, .ref this)] → W p l e ({ frames := 0, cells := 0, slots := 0, locals := 0 } : Room) s m (List.toArray ([.ref this] : List Value)) below meth c H locs 0 0 Q (F0 m 0 ls []) := by
    intro H locs ls hP hD hS hl
    have hVT : VT 4 σ tg M := vt_4 hSH hL_M hK_M
    have hFr : FR 4 tg σ M (I, J, ri, rj, rq) (I, J, ri, rj, rq) := fr_rf
    obtain ⟨F, hF0⟩ : ∃ F, F = g_X6_rewind (vI 4 σ M I) (vJ 4 σ M J) (vR 4 σ M ri) (vL 4 σ M rj) (vQ 4 σ M rq) := ⟨_, rfl⟩
    have hF := hF0.trans g_X6_rewind_e
    refine lv_aload_n hx hb dX6_rewind_0 rfl (lv_at hl 0 rfl) ?_
    refine lv_iconst (v := 0) hx hb dX6_rewind_1 (by decide +kernel) ?_
    refine pp_i (v := 0) (ty := .int) (C := RX6) (T := TX6) (N := 6) hx hb hts (tw_i inlX6) tyX6 tyX6_ok nmX6 hown hK hP hD hS hL_this hK_this (by decide +kernel) rfl 5 197 (by decide +kernel) (hts _ (tw_c tw_662)) rfl (tyX6_ok 5 (by decide +kernel)) rfl rfl (Nat.le_of_ble_eq_true rfl) (ps_197 _ _ _ _ _) dX6_rewind_2 (fun I_1 H locs eI_1 hP hD hS => ?_)
    replace hFr := fr_I (f := 197) hFr hO_this (by decide +kernel) eI_1
    replace hF := hF.trans (ap_n (vI_st (f := 197) hO_this (by decide +kernel) eI_1))
    have hG := GX.wI hG 197 rfl eI_1 (rg_w (rg_k (0 : Int32) 0 rfl) (by decide +kernel)) (by decide +kernel)
    subst hQ
    exact W.vret hx hb hr (fun t1 ht hW => ⟨⟨(σ, I_1, J, ri, rj, rq), rfl, ⟨I_1, rfl, hG, (hF0.symm.trans hF), hFr⟩, by rw [ht]; exact hP, va_K.moved hW.alike hK, hD⟩, hS.F ht⟩) hS.2.2 dX6_rewind_5
  exact go _ _ _ hP hD hS hl

set_option maxRecDepth 100000 in
def g_X6_signOf (a0 : Int32) : Int32 := (if a0 = (35 : Int32) then (24 : Int32) else (if a0 = (36 : Int32) then (34 : Int32) else (if a0 = (37 : Int32) then (34 : Int32) else (if a0 = (38 : Int32) then (34 : Int32) else (if a0 = (39 : Int32) then (34 : Int32) else (if a0 = (40 : Int32) then (29 : Int32) else (if a0 = (41 : Int32) then (30 : Int32) else (if a0 = (42 : Int32) then (27 : Int32) else (if a0 = (43 : Int32) then (25 : Int32) else (if a0 = (44 : Int32) then (31 : Int32) else (if a0 = (45 : Int32) then (26 : Int32) else (if a0 = (46 : Int32) then (34 : Int32) else (if a0 = (47 : Int32) then (28 : Int32) else (if a0 = (48 : Int32) then (34 : Int32) else (if a0 = (49 : Int32) then (34 : Int32) else (if a0 = (50 : Int32) then (34 : Int32) else (if a0 = (51 : Int32) then (34 : Int32) else (if a0 = (52 : Int32) then (34 : Int32) else (if a0 = (53 : Int32) then (34 : Int32) else (if a0 = (54 : Int32) then (34 : Int32) else (if a0 = (55 : Int32) then (34 : Int32) else (if a0 = (56 : Int32) then (34 : Int32) else (if a0 = (57 : Int32) then (34 : Int32) else (if a0 = (58 : Int32) then (34 : Int32) else (if a0 = (59 : Int32) then (32 : Int32) else (if a0 = (60 : Int32) then (19 : Int32) else (if a0 = (61 : Int32) then (23 : Int32) else (if a0 = (62 : Int32) then (21 : Int32) else (34 : Int32)))))))))))))))))))))))))))))
set_option maxRecDepth 100000 in
theorem g_X6_signOf_e {a0 : Int32} : g_X6_signOf a0 = (if a0 = (35 : Int32) then (24 : Int32) else (if a0 = (36 : Int32) then (34 : Int32) else (if a0 = (37 : Int32) then (34 : Int32) else (if a0 = (38 : Int32) then (34 : Int32) else (if a0 = (39 : Int32) then (34 : Int32) else (if a0 = (40 : Int32) then (29 : Int32) else (if a0 = (41 : Int32) then (30 : Int32) else (if a0 = (42 : Int32) then (27 : Int32) else (if a0 = (43 : Int32) then (25 : Int32) else (if a0 = (44 : Int32) then (31 : Int32) else (if a0 = (45 : Int32) then (26 : Int32) else (if a0 = (46 : Int32) then (34 : Int32) else (if a0 = (47 : Int32) then (28 : Int32) else (if a0 = (48 : Int32) then (34 : Int32) else (if a0 = (49 : Int32) then (34 : Int32) else (if a0 = (50 : Int32) then (34 : Int32) else (if a0 = (51 : Int32) then (34 : Int32) else (if a0 = (52 : Int32) then (34 : Int32) else (if a0 = (53 : Int32) then (34 : Int32) else (if a0 = (54 : Int32) then (34 : Int32) else (if a0 = (55 : Int32) then (34 : Int32) else (if a0 = (56 : Int32) then (34 : Int32) else (if a0 = (57 : Int32) then (34 : Int32) else (if a0 = (58 : Int32) then (34 : Int32) else (if a0 = (59 : Int32) then (32 : Int32) else (if a0 = (60 : Int32) then (19 : Int32) else (if a0 = (61 : Int32) then (23 : Int32) else (if a0 = (62 : Int32) then (21 : Int32) else (34 : Int32))))))))))))))))))))))))))))) := rfl
set_option maxHeartbeats 4000000 in
set_option maxRecDepth 100000 in
theorem s_X6_signOf (l : Launch) (D : va_G) (t : pq_T) (σ : pq_S) (I : Nat → Nat → Int32) (J : Nat → Nat → Int64) (ri : Nat → Nat → Int32) (rj : Nat → Nat → Int64) (rq : Nat → Nat → Option Nat) (sz : Nat) (tg : Nat → Nat) (hSH : SH σ tg) (hG0 : GS tg σ I ri rq) (a0 : Int32) : MetI l yX6_signOf (wa yX6_signOf cX6_signOf 1 (some .int)) ({ frames := 0, cells := 0, slots := 0, locals := 0 }) [.int a0] D t σ (I, J, ri, rj, rq) sz 0 0 (fun (r : Int32) (u : pq_S × pq_M) => u = (σ, I, J, ri, rj, rq) ∧ g_X6_signOf a0 = r ∧ rg r 19 34) := by
  refine Met.ofW (cc := cX6_signOf) (maxL := 1) (ret := (some .int)) (by decide +kernel) rfl ?_
  intro p e s m args below meth c s₁ B hml hv
  obtain ⟨rfl, hsz, hP, hK, hD0, hN⟩ := hv
  have hx := B.exec
  have hb := B.bytes
  have hr := B.returns
  have hts := atoms_spec (ws := (wa yX6_signOf cX6_signOf 1 (some .int))) B.pre
  have hown : s.vm.findClass RX6 = some m.cls := findClass_of_methodNamed B.named
  have hlocks := B.notSynchronized
  subst hsz
  have hD : va_D (pq_B t σ (I, J, ri, rj, rq) s.heap.size) (pq_P t σ (I, J, ri, rj, rq)) := hD0.self
  generalize hAe : pq_B t σ (I, J, ri, rj, rq) s.heap.size = A at hD ⊢
  have hA : ∀ q : Nat, s.heap.size ≤ q → A q := fun q h => by rw [← hAe]; exact Or.inr h
  have hS : va_S A s.heap s.heap [] := va_S.rf
  have hG : GX [] tg σ I ri rj I ri rj rq := ⟨hG0, fun _ _ _ => rfl, fun _ _ _ _ _ => rfl, fun _ _ _ _ _ => rfl⟩
  have hl := lv_entry ([.int a0]) (n := 1) (Nat.le_of_ble_eq_true rfl)
  rw [lg_entry_eq]
  generalize (lg_sl ([.int a0]) ++ List.replicate (1 - (lg_sl ([.int a0])).length) Slot.unset).toArray = ls at hl ⊢
  have hl : lv_has ls 1 [(0, .int a0)] := hl
  refine q_gen (fun Q hQ => ?_)
  have go : ∀ (H : Heap) (locs : List Loc) (ls : Array Slot), va_P D vwCl (pq_P t σ (I, J, ri, rj, rq)) H → va_D A (pq_P t σ (I, J, ri, rj, rq)) → va_S A s.heap H locs → lv_has ls 1 [(0, .int a0)] → W p l e ({ frames := 0, cells := 0, slots := 0, locals := 0 } : Room) s m (List.toArray ([.int a0] : List Value)) below meth c H locs 0 0 Q (F0 m 0 ls []) := by
    intro H locs ls hP hD hS hl
    obtain ⟨F, hF0⟩ : ∃ F, F = g_X6_signOf a0 := ⟨_, rfl⟩
    have hF := hF0.trans g_X6_signOf_e
    refine lv_iload_n hx hb dX6_signOf_0 rfl (lv_at hl 0 rfl) ?_
    by_cases k_1 : a0 = (35 : Int32)
    · replace hF := hF.trans (if_pos k_1)
      have h_3 : rg a0 35 35 := rg_and (rg_full _) (rg_of_eq k_1 (rg_k (35 : Int32) 35 rfl)) (by decide +kernel)
      refine lv_tov 35 k_1 ?_
      refine lv_tableIn (tgt := 137) hx hb dX6_signOf_1 (by decide +kernel) (by decide +kernel) rfl (by decide +kernel) ?_
      refine lv_bipush (v := 24) hx hb dX6_signOf_137 (by decide +kernel) ?_
      subst hQ
      exact W.iret (v := 24) hx hb hr (fun t1 ht hW => ⟨⟨24, (σ, I, J, ri, rj, rq), rfl, ⟨rfl, (hF0.symm.trans hF), (rg_w (rg_k (24 : Int32) 24 rfl) (by decide +kernel))⟩, by rw [ht]; exact hP, va_K.moved hW.alike hK, hD⟩, hS.F ht⟩) hS.2.2 dX6_signOf_139
    replace hF := hF.trans (if_neg k_1)
    by_cases k_4 : a0 = (36 : Int32)
    · replace hF := hF.trans (if_pos k_4)
      have h_6 : rg a0 36 36 := rg_and (rg_full _) (rg_of_eq k_4 (rg_k (36 : Int32) 36 rfl)) (by decide +kernel)
      refine lv_tov 36 k_4 ?_
      refine lv_tableIn (tgt := 164) hx hb dX6_signOf_1 (by decide +kernel) (by decide +kernel) rfl (by decide +kernel) ?_
      refine lv_bipush (v := 34) hx hb dX6_signOf_164 (by decide +kernel) ?_
      subst hQ
      exact W.iret (v := 34) hx hb hr (fun t1 ht hW => ⟨⟨34, (σ, I, J, ri, rj, rq), rfl, ⟨rfl, (hF0.symm.trans hF), (rg_w (rg_k (34 : Int32) 34 rfl) (by decide +kernel))⟩, by rw [ht]; exact hP, va_K.moved hW.alike hK, hD⟩, hS.F ht⟩) hS.2.2 dX6_signOf_166
    replace hF := hF.trans (if_neg k_4)
    by_cases k_7 : a0 = (37 : Int32)
    · replace hF := hF.trans (if_pos k_7)
      have h_9 : rg a0 37 37 := rg_and (rg_full _) (rg_of_eq k_7 (rg_k (37 : Int32) 37 rfl)) (by decide +kernel)
      refine lv_tov 37 k_7 ?_
      refine lv_tableIn (tgt := 164) hx hb dX6_signOf_1 (by decide +kernel) (by decide +kernel) rfl (by decide +kernel) ?_
      refine lv_bipush (v := 34) hx hb dX6_signOf_164 (by decide +kernel) ?_
      subst hQ
      exact W.iret (v := 34) hx hb hr (fun t1 ht hW => ⟨⟨34, (σ, I, J, ri, rj, rq), rfl, ⟨rfl, (hF0.symm.trans hF), (rg_w (rg_k (34 : Int32) 34 rfl) (by decide +kernel))⟩, by rw [ht]; exact hP, va_K.moved hW.alike hK, hD⟩, hS.F ht⟩) hS.2.2 dX6_signOf_166
    replace hF := hF.trans (if_neg k_7)
    by_cases k_10 : a0 = (38 : Int32)
    · replace hF := hF.trans (if_pos k_10)
      have h_12 : rg a0 38 38 := rg_and (rg_full _) (rg_of_eq k_10 (rg_k (38 : Int32) 38 rfl)) (by decide +kernel)
      refine lv_tov 38 k_10 ?_
      refine lv_tableIn (tgt := 164) hx hb dX6_signOf_1 (by decide +kernel) (by decide +kernel) rfl (by decide +kernel) ?_
      refine lv_bipush (v := 34) hx hb dX6_signOf_164 (by decide +kernel) ?_
      subst hQ
      exact W.iret (v := 34) hx hb hr (fun t1 ht hW => ⟨⟨34, (σ, I, J, ri, rj, rq), rfl, ⟨rfl, (hF0.symm.trans hF), (rg_w (rg_k (34 : Int32) 34 rfl) (by decide +kernel))⟩, by rw [ht]; exact hP, va_K.moved hW.alike hK, hD⟩, hS.F ht⟩) hS.2.2 dX6_signOf_166
    replace hF := hF.trans (if_neg k_10)
    by_cases k_13 : a0 = (39 : Int32)
    · replace hF := hF.trans (if_pos k_13)
      have h_15 : rg a0 39 39 := rg_and (rg_full _) (rg_of_eq k_13 (rg_k (39 : Int32) 39 rfl)) (by decide +kernel)
      refine lv_tov 39 k_13 ?_
      refine lv_tableIn (tgt := 164) hx hb dX6_signOf_1 (by decide +kernel) (by decide +kernel) rfl (by decide +kernel) ?_
      refine lv_bipush (v := 34) hx hb dX6_signOf_164 (by decide +kernel) ?_
      subst hQ
      exact W.iret (v := 34) hx hb hr (fun t1 ht hW => ⟨⟨34, (σ, I, J, ri, rj, rq), rfl, ⟨rfl, (hF0.symm.trans hF), (rg_w (rg_k (34 : Int32) 34 rfl) (by decide +kernel))⟩, by rw [ht]; exact hP, va_K.moved hW.alike hK, hD⟩, hS.F ht⟩) hS.2.2 dX6_signOf_166
    replace hF := hF.trans (if_neg k_13)
    by_cases k_16 : a0 = (40 : Int32)
    · replace hF := hF.trans (if_pos k_16)
      have h_18 : rg a0 40 40 := rg_and (rg_full _) (rg_of_eq k_16 (rg_k (40 : Int32) 40 rfl)) (by decide +kernel)
      refine lv_tov 40 k_16 ?_
      refine lv_tableIn (tgt := 152) hx hb dX6_signOf_1 (by decide +kernel) (by decide +kernel) rfl (by decide +kernel) ?_
      refine lv_bipush (v := 29) hx hb dX6_signOf_152 (by decide +kernel) ?_
      subst hQ
      exact W.iret (v := 29) hx hb hr (fun t1 ht hW => ⟨⟨29, (σ, I, J, ri, rj, rq), rfl, ⟨rfl, (hF0.symm.trans hF), (rg_w (rg_k (29 : Int32) 29 rfl) (by decide +kernel))⟩, by rw [ht]; exact hP, va_K.moved hW.alike hK, hD⟩, hS.F ht⟩) hS.2.2 dX6_signOf_154
    replace hF := hF.trans (if_neg k_16)
    by_cases k_19 : a0 = (41 : Int32)
    · replace hF := hF.trans (if_pos k_19)
      have h_21 : rg a0 41 41 := rg_and (rg_full _) (rg_of_eq k_19 (rg_k (41 : Int32) 41 rfl)) (by decide +kernel)
      refine lv_tov 41 k_19 ?_
      refine lv_tableIn (tgt := 155) hx hb dX6_signOf_1 (by decide +kernel) (by decide +kernel) rfl (by decide +kernel) ?_
      refine lv_bipush (v := 30) hx hb dX6_signOf_155 (by decide +kernel) ?_
      subst hQ
      exact W.iret (v := 30) hx hb hr (fun t1 ht hW => ⟨⟨30, (σ, I, J, ri, rj, rq), rfl, ⟨rfl, (hF0.symm.trans hF), (rg_w (rg_k (30 : Int32) 30 rfl) (by decide +kernel))⟩, by rw [ht]; exact hP, va_K.moved hW.alike hK, hD⟩, hS.F ht⟩) hS.2.2 dX6_signOf_157
    replace hF := hF.trans (if_neg k_19)
    by_cases k_22 : a0 = (42 : Int32)
    · replace hF := hF.trans (if_pos k_22)
      have h_24 : rg a0 42 42 := rg_and (rg_full _) (rg_of_eq k_22 (rg_k (42 : Int32) 42 rfl)) (by decide +kernel)
      refine lv_tov 42 k_22 ?_
      refine lv_tableIn (tgt := 146) hx hb dX6_signOf_1 (by decide +kernel) (by decide +kernel) rfl (by decide +kernel) ?_
      refine lv_bipush (v := 27) hx hb dX6_signOf_146 (by decide +kernel) ?_
      subst hQ
      exact W.iret (v := 27) hx hb hr (fun t1 ht hW => ⟨⟨27, (σ, I, J, ri, rj, rq), rfl, ⟨rfl, (hF0.symm.trans hF), (rg_w (rg_k (27 : Int32) 27 rfl) (by decide +kernel))⟩, by rw [ht]; exact hP, va_K.moved hW.alike hK, hD⟩, hS.F ht⟩) hS.2.2 dX6_signOf_148
    replace hF := hF.trans (if_neg k_22)
    by_cases k_25 : a0 = (43 : Int32)
    · replace hF := hF.trans (if_pos k_25)
      have h_27 : rg a0 43 43 := rg_and (rg_full _) (rg_of_eq k_25 (rg_k (43 : Int32) 43 rfl)) (by decide +kernel)
      refine lv_tov 43 k_25 ?_
      refine lv_tableIn (tgt := 140) hx hb dX6_signOf_1 (by decide +kernel) (by decide +kernel) rfl (by decide +kernel) ?_
      refine lv_bipush (v := 25) hx hb dX6_signOf_140 (by decide +kernel) ?_
      subst hQ
      exact W.iret (v := 25) hx hb hr (fun t1 ht hW => ⟨⟨25, (σ, I, J, ri, rj, rq), rfl, ⟨rfl, (hF0.symm.trans hF), (rg_w (rg_k (25 : Int32) 25 rfl) (by decide +kernel))⟩, by rw [ht]; exact hP, va_K.moved hW.alike hK, hD⟩, hS.F ht⟩) hS.2.2 dX6_signOf_142
    replace hF := hF.trans (if_neg k_25)
    by_cases k_28 : a0 = (44 : Int32)
    · replace hF := hF.trans (if_pos k_28)
      have h_30 : rg a0 44 44 := rg_and (rg_full _) (rg_of_eq k_28 (rg_k (44 : Int32) 44 rfl)) (by decide +kernel)
      refine lv_tov 44 k_28 ?_
      refine lv_tableIn (tgt := 158) hx hb dX6_signOf_1 (by decide +kernel) (by decide +kernel) rfl (by decide +kernel) ?_
      refine lv_bipush (v := 31) hx hb dX6_signOf_158 (by decide +kernel) ?_
      subst hQ
      exact W.iret (v := 31) hx hb hr (fun t1 ht hW => ⟨⟨31, (σ, I, J, ri, rj, rq), rfl, ⟨rfl, (hF0.symm.trans hF), (rg_w (rg_k (31 : Int32) 31 rfl) (by decide +kernel))⟩, by rw [ht]; exact hP, va_K.moved hW.alike hK, hD⟩, hS.F ht⟩) hS.2.2 dX6_signOf_160
    replace hF := hF.trans (if_neg k_28)
    by_cases k_31 : a0 = (45 : Int32)
    · replace hF := hF.trans (if_pos k_31)
      have h_33 : rg a0 45 45 := rg_and (rg_full _) (rg_of_eq k_31 (rg_k (45 : Int32) 45 rfl)) (by decide +kernel)
      refine lv_tov 45 k_31 ?_
      refine lv_tableIn (tgt := 143) hx hb dX6_signOf_1 (by decide +kernel) (by decide +kernel) rfl (by decide +kernel) ?_
      refine lv_bipush (v := 26) hx hb dX6_signOf_143 (by decide +kernel) ?_
      subst hQ
      exact W.iret (v := 26) hx hb hr (fun t1 ht hW => ⟨⟨26, (σ, I, J, ri, rj, rq), rfl, ⟨rfl, (hF0.symm.trans hF), (rg_w (rg_k (26 : Int32) 26 rfl) (by decide +kernel))⟩, by rw [ht]; exact hP, va_K.moved hW.alike hK, hD⟩, hS.F ht⟩) hS.2.2 dX6_signOf_145
    replace hF := hF.trans (if_neg k_31)
    by_cases k_34 : a0 = (46 : Int32)
    · replace hF := hF.trans (if_pos k_34)
      have h_36 : rg a0 46 46 := rg_and (rg_full _) (rg_of_eq k_34 (rg_k (46 : Int32) 46 rfl)) (by decide +kernel)
      refine lv_tov 46 k_34 ?_
      refine lv_tableIn (tgt := 164) hx hb dX6_signOf_1 (by decide +kernel) (by decide +kernel) rfl (by decide +kernel) ?_
      refine lv_bipush (v := 34) hx hb dX6_signOf_164 (by decide +kernel) ?_
      subst hQ
      exact W.iret (v := 34) hx hb hr (fun t1 ht hW => ⟨⟨34, (σ, I, J, ri, rj, rq), rfl, ⟨rfl, (hF0.symm.trans hF), (rg_w (rg_k (34 : Int32) 34 rfl) (by decide +kernel))⟩, by rw [ht]; exact hP, va_K.moved hW.alike hK, hD⟩, hS.F ht⟩) hS.2.2 dX6_signOf_166
    replace hF := hF.trans (if_neg k_34)
    by_cases k_37 : a0 = (47 : Int32)
    · replace hF := hF.trans (if_pos k_37)
      have h_39 : rg a0 47 47 := rg_and (rg_full _) (rg_of_eq k_37 (rg_k (47 : Int32) 47 rfl)) (by decide +kernel)
      refine lv_tov 47 k_37 ?_
      refine lv_tableIn (tgt := 149) hx hb dX6_signOf_1 (by decide +kernel) (by decide +kernel) rfl (by decide +kernel) ?_
      refine lv_bipush (v := 28) hx hb dX6_signOf_149 (by decide +kernel) ?_
      subst hQ
      exact W.iret (v := 28) hx hb hr (fun t1 ht hW => ⟨⟨28, (σ, I, J, ri, rj, rq), rfl, ⟨rfl, (hF0.symm.trans hF), (rg_w (rg_k (28 : Int32) 28 rfl) (by decide +kernel))⟩, by rw [ht]; exact hP, va_K.moved hW.alike hK, hD⟩, hS.F ht⟩) hS.2.2 dX6_signOf_151
    replace hF := hF.trans (if_neg k_37)
    by_cases k_40 : a0 = (48 : Int32)
    · replace hF := hF.trans (if_pos k_40)
      have h_42 : rg a0 48 48 := rg_and (rg_full _) (rg_of_eq k_40 (rg_k (48 : Int32) 48 rfl)) (by decide +kernel)
      refine lv_tov 48 k_40 ?_
      refine lv_tableIn (tgt := 164) hx hb dX6_signOf_1 (by decide +kernel) (by decide +kernel) rfl (by decide +kernel) ?_
      refine lv_bipush (v := 34) hx hb dX6_signOf_164 (by decide +kernel) ?_
      subst hQ
      exact W.iret (v := 34) hx hb hr (fun t1 ht hW => ⟨⟨34, (σ, I, J, ri, rj, rq), rfl, ⟨rfl, (hF0.symm.trans hF), (rg_w (rg_k (34 : Int32) 34 rfl) (by decide +kernel))⟩, by rw [ht]; exact hP, va_K.moved hW.alike hK, hD⟩, hS.F ht⟩) hS.2.2 dX6_signOf_166
    replace hF := hF.trans (if_neg k_40)
    by_cases k_43 : a0 = (49 : Int32)
    · replace hF := hF.trans (if_pos k_43)
      have h_45 : rg a0 49 49 := rg_and (rg_full _) (rg_of_eq k_43 (rg_k (49 : Int32) 49 rfl)) (by decide +kernel)
      refine lv_tov 49 k_43 ?_
      refine lv_tableIn (tgt := 164) hx hb dX6_signOf_1 (by decide +kernel) (by decide +kernel) rfl (by decide +kernel) ?_
      refine lv_bipush (v := 34) hx hb dX6_signOf_164 (by decide +kernel) ?_
      subst hQ
      exact W.iret (v := 34) hx hb hr (fun t1 ht hW => ⟨⟨34, (σ, I, J, ri, rj, rq), rfl, ⟨rfl, (hF0.symm.trans hF), (rg_w (rg_k (34 : Int32) 34 rfl) (by decide +kernel))⟩, by rw [ht]; exact hP, va_K.moved hW.alike hK, hD⟩, hS.F ht⟩) hS.2.2 dX6_signOf_166
    replace hF := hF.trans (if_neg k_43)
    by_cases k_46 : a0 = (50 : Int32)
    · replace hF := hF.trans (if_pos k_46)
      have h_48 : rg a0 50 50 := rg_and (rg_full _) (rg_of_eq k_46 (rg_k (50 : Int32) 50 rfl)) (by decide +kernel)
      refine lv_tov 50 k_46 ?_
      refine lv_tableIn (tgt := 164) hx hb dX6_signOf_1 (by decide +kernel) (by decide +kernel) rfl (by decide +kernel) ?_
      refine lv_bipush (v := 34) hx hb dX6_signOf_164 (by decide +kernel) ?_
      subst hQ
      exact W.iret (v := 34) hx hb hr (fun t1 ht hW => ⟨⟨34, (σ, I, J, ri, rj, rq), rfl, ⟨rfl, (hF0.symm.trans hF), (rg_w (rg_k (34 : Int32) 34 rfl) (by decide +kernel))⟩, by rw [ht]; exact hP, va_K.moved hW.alike hK, hD⟩, hS.F ht⟩) hS.2.2 dX6_signOf_166
    replace hF := hF.trans (if_neg k_46)
    by_cases k_49 : a0 = (51 : Int32)
    · replace hF := hF.trans (if_pos k_49)
      have h_51 : rg a0 51 51 := rg_and (rg_full _) (rg_of_eq k_49 (rg_k (51 : Int32) 51 rfl)) (by decide +kernel)
      refine lv_tov 51 k_49 ?_
      refine lv_tableIn (tgt := 164) hx hb dX6_signOf_1 (by decide +kernel) (by decide +kernel) rfl (by decide +kernel) ?_
      refine lv_bipush (v := 34) hx hb dX6_signOf_164 (by decide +kernel) ?_
      subst hQ
      exact W.iret (v := 34) hx hb hr (fun t1 ht hW => ⟨⟨34, (σ, I, J, ri, rj, rq), rfl, ⟨rfl, (hF0.symm.trans hF), (rg_w (rg_k (34 : Int32) 34 rfl) (by decide +kernel))⟩, by rw [ht]; exact hP, va_K.moved hW.alike hK, hD⟩, hS.F ht⟩) hS.2.2 dX6_signOf_166
    replace hF := hF.trans (if_neg k_49)
    by_cases k_52 : a0 = (52 : Int32)
    · replace hF := hF.trans (if_pos k_52)
      have h_54 : rg a0 52 52 := rg_and (rg_full _) (rg_of_eq k_52 (rg_k (52 : Int32) 52 rfl)) (by decide +kernel)
      refine lv_tov 52 k_52 ?_
      refine lv_tableIn (tgt := 164) hx hb dX6_signOf_1 (by decide +kernel) (by decide +kernel) rfl (by decide +kernel) ?_
      refine lv_bipush (v := 34) hx hb dX6_signOf_164 (by decide +kernel) ?_
      subst hQ
      exact W.iret (v := 34) hx hb hr (fun t1 ht hW => ⟨⟨34, (σ, I, J, ri, rj, rq), rfl, ⟨rfl, (hF0.symm.trans hF), (rg_w (rg_k (34 : Int32) 34 rfl) (by decide +kernel))⟩, by rw [ht]; exact hP, va_K.moved hW.alike hK, hD⟩, hS.F ht⟩) hS.2.2 dX6_signOf_166
    replace hF := hF.trans (if_neg k_52)
    by_cases k_55 : a0 = (53 : Int32)
    · replace hF := hF.trans (if_pos k_55)
      have h_57 : rg a0 53 53 := rg_and (rg_full _) (rg_of_eq k_55 (rg_k (53 : Int32) 53 rfl)) (by decide +kernel)
      refine lv_tov 53 k_55 ?_
      refine lv_tableIn (tgt := 164) hx hb dX6_signOf_1 (by decide +kernel) (by decide +kernel) rfl (by decide +kernel) ?_
      refine lv_bipush (v := 34) hx hb dX6_signOf_164 (by decide +kernel) ?_
      subst hQ
      exact W.iret (v := 34) hx hb hr (fun t1 ht hW => ⟨⟨34, (σ, I, J, ri, rj, rq), rfl, ⟨rfl, (hF0.symm.trans hF), (rg_w (rg_k (34 : Int32) 34 rfl) (by decide +kernel))⟩, by rw [ht]; exact hP, va_K.moved hW.alike hK, hD⟩, hS.F ht⟩) hS.2.2 dX6_signOf_166
    replace hF := hF.trans (if_neg k_55)
    by_cases k_58 : a0 = (54 : Int32)
    · replace hF := hF.trans (if_pos k_58)
      have h_60 : rg a0 54 54 := rg_and (rg_full _) (rg_of_eq k_58 (rg_k (54 : Int32) 54 rfl)) (by decide +kernel)
      refine lv_tov 54 k_58 ?_
      refine lv_tableIn (tgt := 164) hx hb dX6_signOf_1 (by decide +kernel) (by decide +kernel) rfl (by decide +kernel) ?_
      refine lv_bipush (v := 34) hx hb dX6_signOf_164 (by decide +kernel) ?_
      subst hQ
      exact W.iret (v := 34) hx hb hr (fun t1 ht hW => ⟨⟨34, (σ, I, J, ri, rj, rq), rfl, ⟨rfl, (hF0.symm.trans hF), (rg_w (rg_k (34 : Int32) 34 rfl) (by decide +kernel))⟩, by rw [ht]; exact hP, va_K.moved hW.alike hK, hD⟩, hS.F ht⟩) hS.2.2 dX6_signOf_166
    replace hF := hF.trans (if_neg k_58)
    by_cases k_61 : a0 = (55 : Int32)
    · replace hF := hF.trans (if_pos k_61)
      have h_63 : rg a0 55 55 := rg_and (rg_full _) (rg_of_eq k_61 (rg_k (55 : Int32) 55 rfl)) (by decide +kernel)
      refine lv_tov 55 k_61 ?_
      refine lv_tableIn (tgt := 164) hx hb dX6_signOf_1 (by decide +kernel) (by decide +kernel) rfl (by decide +kernel) ?_
      refine lv_bipush (v := 34) hx hb dX6_signOf_164 (by decide +kernel) ?_
      subst hQ
      exact W.iret (v := 34) hx hb hr (fun t1 ht hW => ⟨⟨34, (σ, I, J, ri, rj, rq), rfl, ⟨rfl, (hF0.symm.trans hF), (rg_w (rg_k (34 : Int32) 34 rfl) (by decide +kernel))⟩, by rw [ht]; exact hP, va_K.moved hW.alike hK, hD⟩, hS.F ht⟩) hS.2.2 dX6_signOf_166
    replace hF := hF.trans (if_neg k_61)
    by_cases k_64 : a0 = (56 : Int32)
    · replace hF := hF.trans (if_pos k_64)
      have h_66 : rg a0 56 56 := rg_and (rg_full _) (rg_of_eq k_64 (rg_k (56 : Int32) 56 rfl)) (by decide +kernel)
      refine lv_tov 56 k_64 ?_
      refine lv_tableIn (tgt := 164) hx hb dX6_signOf_1 (by decide +kernel) (by decide +kernel) rfl (by decide +kernel) ?_
      refine lv_bipush (v := 34) hx hb dX6_signOf_164 (by decide +kernel) ?_
      subst hQ
      exact W.iret (v := 34) hx hb hr (fun t1 ht hW => ⟨⟨34, (σ, I, J, ri, rj, rq), rfl, ⟨rfl, (hF0.symm.trans hF), (rg_w (rg_k (34 : Int32) 34 rfl) (by decide +kernel))⟩, by rw [ht]; exact hP, va_K.moved hW.alike hK, hD⟩, hS.F ht⟩) hS.2.2 dX6_signOf_166
    replace hF := hF.trans (if_neg k_64)
    by_cases k_67 : a0 = (57 : Int32)
    · replace hF := hF.trans (if_pos k_67)
      have h_69 : rg a0 57 57 := rg_and (rg_full _) (rg_of_eq k_67 (rg_k (57 : Int32) 57 rfl)) (by decide +kernel)
      refine lv_tov 57 k_67 ?_
      refine lv_tableIn (tgt := 164) hx hb dX6_signOf_1 (by decide +kernel) (by decide +kernel) rfl (by decide +kernel) ?_
      refine lv_bipush (v := 34) hx hb dX6_signOf_164 (by decide +kernel) ?_
      subst hQ
      exact W.iret (v := 34) hx hb hr (fun t1 ht hW => ⟨⟨34, (σ, I, J, ri, rj, rq), rfl, ⟨rfl, (hF0.symm.trans hF), (rg_w (rg_k (34 : Int32) 34 rfl) (by decide +kernel))⟩, by rw [ht]; exact hP, va_K.moved hW.alike hK, hD⟩, hS.F ht⟩) hS.2.2 dX6_signOf_166
    replace hF := hF.trans (if_neg k_67)
    by_cases k_70 : a0 = (58 : Int32)
    · replace hF := hF.trans (if_pos k_70)
      have h_72 : rg a0 58 58 := rg_and (rg_full _) (rg_of_eq k_70 (rg_k (58 : Int32) 58 rfl)) (by decide +kernel)
      refine lv_tov 58 k_70 ?_
      refine lv_tableIn (tgt := 164) hx hb dX6_signOf_1 (by decide +kernel) (by decide +kernel) rfl (by decide +kernel) ?_
      refine lv_bipush (v := 34) hx hb dX6_signOf_164 (by decide +kernel) ?_
      subst hQ
      exact W.iret (v := 34) hx hb hr (fun t1 ht hW => ⟨⟨34, (σ, I, J, ri, rj, rq), rfl, ⟨rfl, (hF0.symm.trans hF), (rg_w (rg_k (34 : Int32) 34 rfl) (by decide +kernel))⟩, by rw [ht]; exact hP, va_K.moved hW.alike hK, hD⟩, hS.F ht⟩) hS.2.2 dX6_signOf_166
    replace hF := hF.trans (if_neg k_70)
    by_cases k_73 : a0 = (59 : Int32)
    · replace hF := hF.trans (if_pos k_73)
      have h_75 : rg a0 59 59 := rg_and (rg_full _) (rg_of_eq k_73 (rg_k (59 : Int32) 59 rfl)) (by decide +kernel)
      refine lv_tov 59 k_73 ?_
      refine lv_tableIn (tgt := 161) hx hb dX6_signOf_1 (by decide +kernel) (by decide +kernel) rfl (by decide +kernel) ?_
      refine lv_bipush (v := 32) hx hb dX6_signOf_161 (by decide +kernel) ?_
      subst hQ
      exact W.iret (v := 32) hx hb hr (fun t1 ht hW => ⟨⟨32, (σ, I, J, ri, rj, rq), rfl, ⟨rfl, (hF0.symm.trans hF), (rg_w (rg_k (32 : Int32) 32 rfl) (by decide +kernel))⟩, by rw [ht]; exact hP, va_K.moved hW.alike hK, hD⟩, hS.F ht⟩) hS.2.2 dX6_signOf_163
    replace hF := hF.trans (if_neg k_73)
    by_cases k_76 : a0 = (60 : Int32)
    · replace hF := hF.trans (if_pos k_76)
      have h_78 : rg a0 60 60 := rg_and (rg_full _) (rg_of_eq k_76 (rg_k (60 : Int32) 60 rfl)) (by decide +kernel)
      refine lv_tov 60 k_76 ?_
      refine lv_tableIn (tgt := 128) hx hb dX6_signOf_1 (by decide +kernel) (by decide +kernel) rfl (by decide +kernel) ?_
      refine lv_bipush (v := 19) hx hb dX6_signOf_128 (by decide +kernel) ?_
      subst hQ
      exact W.iret (v := 19) hx hb hr (fun t1 ht hW => ⟨⟨19, (σ, I, J, ri, rj, rq), rfl, ⟨rfl, (hF0.symm.trans hF), (rg_w (rg_k (19 : Int32) 19 rfl) (by decide +kernel))⟩, by rw [ht]; exact hP, va_K.moved hW.alike hK, hD⟩, hS.F ht⟩) hS.2.2 dX6_signOf_130
    replace hF := hF.trans (if_neg k_76)
    by_cases k_79 : a0 = (61 : Int32)
    · replace hF := hF.trans (if_pos k_79)
      have h_81 : rg a0 61 61 := rg_and (rg_full _) (rg_of_eq k_79 (rg_k (61 : Int32) 61 rfl)) (by decide +kernel)
      refine lv_tov 61 k_79 ?_
      refine lv_tableIn (tgt := 134) hx hb dX6_signOf_1 (by decide +kernel) (by decide +kernel) rfl (by decide +kernel) ?_
      refine lv_bipush (v := 23) hx hb dX6_signOf_134 (by decide +kernel) ?_
      subst hQ
      exact W.iret (v := 23) hx hb hr (fun t1 ht hW => ⟨⟨23, (σ, I, J, ri, rj, rq), rfl, ⟨rfl, (hF0.symm.trans hF), (rg_w (rg_k (23 : Int32) 23 rfl) (by decide +kernel))⟩, by rw [ht]; exact hP, va_K.moved hW.alike hK, hD⟩, hS.F ht⟩) hS.2.2 dX6_signOf_136
    replace hF := hF.trans (if_neg k_79)
    by_cases k_82 : a0 = (62 : Int32)
    · replace hF := hF.trans (if_pos k_82)
      have h_84 : rg a0 62 62 := rg_and (rg_full _) (rg_of_eq k_82 (rg_k (62 : Int32) 62 rfl)) (by decide +kernel)
      refine lv_tov 62 k_82 ?_
      refine lv_tableIn (tgt := 131) hx hb dX6_signOf_1 (by decide +kernel) (by decide +kernel) rfl (by decide +kernel) ?_
      refine lv_bipush (v := 21) hx hb dX6_signOf_131 (by decide +kernel) ?_
      subst hQ
      exact W.iret (v := 21) hx hb hr (fun t1 ht hW => ⟨⟨21, (σ, I, J, ri, rj, rq), rfl, ⟨rfl, (hF0.symm.trans hF), (rg_w (rg_k (21 : Int32) 21 rfl) (by decide +kernel))⟩, by rw [ht]; exact hP, va_K.moved hW.alike hK, hD⟩, hS.F ht⟩) hS.2.2 dX6_signOf_133
    replace hF := hF.trans (if_neg k_82)
    refine lv_tableOut (tgt := 164) hx hb dX6_signOf_1 (by have z_k_1 := sw_ne k_1 (n := 35) rfl; have z_k_4 := sw_ne k_4 (n := 36) rfl; have z_k_7 := sw_ne k_7 (n := 37) rfl; have z_k_10 := sw_ne k_10 (n := 38) rfl; have z_k_13 := sw_ne k_13 (n := 39) rfl; have z_k_16 := sw_ne k_16 (n := 40) rfl; have z_k_19 := sw_ne k_19 (n := 41) rfl; have z_k_22 := sw_ne k_22 (n := 42) rfl; have z_k_25 := sw_ne k_25 (n := 43) rfl; have z_k_28 := sw_ne k_28 (n := 44) rfl; have z_k_31 := sw_ne k_31 (n := 45) rfl; have z_k_34 := sw_ne k_34 (n := 46) rfl; have z_k_37 := sw_ne k_37 (n := 47) rfl; have z_k_40 := sw_ne k_40 (n := 48) rfl; have z_k_43 := sw_ne k_43 (n := 49) rfl; have z_k_46 := sw_ne k_46 (n := 50) rfl; have z_k_49 := sw_ne k_49 (n := 51) rfl; have z_k_52 := sw_ne k_52 (n := 52) rfl; have z_k_55 := sw_ne k_55 (n := 53) rfl; have z_k_58 := sw_ne k_58 (n := 54) rfl; have z_k_61 := sw_ne k_61 (n := 55) rfl; have z_k_64 := sw_ne k_64 (n := 56) rfl; have z_k_67 := sw_ne k_67 (n := 57) rfl; have z_k_70 := sw_ne k_70 (n := 58) rfl; have z_k_73 := sw_ne k_73 (n := 59) rfl; have z_k_76 := sw_ne k_76 (n := 60) rfl; have z_k_79 := sw_ne k_79 (n := 61) rfl; have z_k_82 := sw_ne k_82 (n := 62) rfl; omega) (by decide +kernel) ?_
    refine lv_bipush (v := 34) hx hb dX6_signOf_164 (by decide +kernel) ?_
    subst hQ
    exact W.iret (v := 34) hx hb hr (fun t1 ht hW => ⟨⟨34, (σ, I, J, ri, rj, rq), rfl, ⟨rfl, (hF0.symm.trans hF), (rg_w (rg_k (34 : Int32) 34 rfl) (by decide +kernel))⟩, by rw [ht]; exact hP, va_K.moved hW.alike hK, hD⟩, hS.F ht⟩) hS.2.2 dX6_signOf_166
  exact go _ _ _ hP hD hS hl
theorem dX6_takeLonger_0 : decode cX6_takeLonger 0 = .ok (.aload_n 0, 1) := oc_42 (by decide +kernel)
theorem dX6_takeLonger_1 : decode cX6_takeLonger 1 = .ok (.getfield 19, 3) := oc_180 (a := 0) (b := 19) (by decide +kernel)
theorem dX6_takeLonger_4 : decode cX6_takeLonger 4 = .ok (.aload_n 0, 1) := oc_42 (by decide +kernel)
theorem dX6_takeLonger_5 : decode cX6_takeLonger 5 = .ok (.getfield 15, 3) := oc_180 (a := 0) (b := 15) (by decide +kernel)
theorem dX6_takeLonger_30 : decode cX6_takeLonger 30 = .ok (.istore_n 1, 1) := oc_60 (by decide +kernel)
theorem dX6_takeLonger_31 : decode cX6_takeLonger 31 = .ok (.iload_n 1, 1) := oc_27 (by decide +kernel)
theorem dX6_takeLonger_32 : decode cX6_takeLonger 32 = .ok (.ifCond .eq 51, 3) := oc_153 (a := 0) (b := 51) (by decide +kernel)
theorem dX6_takeLonger_35 : decode cX6_takeLonger 35 = .ok (.aload_n 0, 1) := oc_42 (by decide +kernel)
theorem tw_668 : Cond.fieldLink RX6 25 "RingsUnder$Scanner" "token" "I" ∈ wsL_law := sg_28 _ (List.mem_of_getElem? (i := 20) rfl)
theorem dX6_takeLonger_36 : decode cX6_takeLonger 36 = .ok (.getfield 25, 3) := oc_180 (a := 0) (b := 25) (by decide +kernel)
theorem dX6_takeLonger_39 : decode cX6_takeLonger 39 = .ok (.bipush 19, 2) := oc_16 (a := 19) (by decide +kernel)
theorem dX6_takeLonger_53 : decode cX6_takeLonger 53 = .ok (.aload_n 0, 1) := oc_42 (by decide +kernel)
theorem dX6_takeLonger_54 : decode cX6_takeLonger 54 = .ok (.aload_n 0, 1) := oc_42 (by decide +kernel)
theorem dX6_takeLonger_55 : decode cX6_takeLonger 55 = .ok (.getfield 25, 3) := oc_180 (a := 0) (b := 25) (by decide +kernel)
theorem dX6_takeLonger_58 : decode cX6_takeLonger 58 = .ok (.bipush 19, 2) := oc_16 (a := 19) (by decide +kernel)
theorem dX6_takeLonger_70 : decode cX6_takeLonger 70 = .ok (.putfield 25, 3) := oc_181 (a := 0) (b := 25) (by decide +kernel)
theorem dX6_takeLonger_73 : decode cX6_takeLonger 73 = .ok (.aload_n 0, 1) := oc_42 (by decide +kernel)
theorem dX6_takeLonger_74 : decode cX6_takeLonger 74 = .ok (.dup, 1) := oc_89 (by decide +kernel)
theorem dX6_takeLonger_75 : decode cX6_takeLonger 75 = .ok (.getfield 19, 3) := oc_180 (a := 0) (b := 19) (by decide +kernel)
theorem dX6_takeLonger_78 : decode cX6_takeLonger 78 = .ok (.iconst 1, 1) := oc_4 (by decide +kernel)
theorem dX6_takeLonger_79 : decode cX6_takeLonger 79 = .ok (.iadd, 1) := oc_96 (by decide +kernel)
theorem dX6_takeLonger_80 : decode cX6_takeLonger 80 = .ok (.putfield 19, 3) := oc_181 (a := 0) (b := 19) (by decide +kernel)
theorem dX6_takeLonger_83 : decode cX6_takeLonger 83 = .ok (.return_, 1) := oc_177 (by decide +kernel)
theorem dX6_takeLonger_60 : decode cX6_takeLonger 60 = .ok (.if_icmp .ne 8, 3) := oc_160 (a := 0) (b := 8) (by decide +kernel)
theorem dX6_takeLonger_68 : decode cX6_takeLonger 68 = .ok (.bipush 22, 2) := oc_16 (a := 22) (by decide +kernel)
theorem dX6_takeLonger_63 : decode cX6_takeLonger 63 = .ok (.bipush 20, 2) := oc_16 (a := 20) (by decide +kernel)
theorem dX6_takeLonger_65 : decode cX6_takeLonger 65 = .ok (.goto 5, 3) := oc_167 (a := 0) (b := 5) (by decide +kernel)
theorem dX6_takeLonger_41 : decode cX6_takeLonger 41 = .ok (.if_icmp .eq 12, 3) := oc_159 (a := 0) (b := 12) (by decide +kernel)
theorem dX6_takeLonger_44 : decode cX6_takeLonger 44 = .ok (.aload_n 0, 1) := oc_42 (by decide +kernel)
theorem dX6_takeLonger_45 : decode cX6_takeLonger 45 = .ok (.getfield 25, 3) := oc_180 (a := 0) (b := 25) (by decide +kernel)
theorem dX6_takeLonger_48 : decode cX6_takeLonger 48 = .ok (.bipush 21, 2) := oc_16 (a := 21) (by decide +kernel)
theorem dX6_takeLonger_50 : decode cX6_takeLonger 50 = .ok (.if_icmp .ne 33, 3) := oc_160 (a := 0) (b := 33) (by decide +kernel)
theorem dX6_takeLonger_29 : decode cX6_takeLonger 29 = .ok (.iconst 0, 1) := oc_3 (by decide +kernel)
theorem dX6_takeLonger_8 : decode cX6_takeLonger 8 = .ok (.if_icmp .ge 21, 3) := oc_162 (a := 0) (b := 21) (by decide +kernel)
theorem dX6_takeLonger_11 : decode cX6_takeLonger 11 = .ok (.aload_n 0, 1) := oc_42 (by decide +kernel)
theorem dX6_takeLonger_12 : decode cX6_takeLonger 12 = .ok (.getfield 9, 3) := oc_180 (a := 0) (b := 9) (by decide +kernel)
theorem dX6_takeLonger_15 : decode cX6_takeLonger 15 = .ok (.aload_n 0, 1) := oc_42 (by decide +kernel)
theorem dX6_takeLonger_16 : decode cX6_takeLonger 16 = .ok (.getfield 19, 3) := oc_180 (a := 0) (b := 19) (by decide +kernel)
theorem dX6_takeLonger_19 : decode cX6_takeLonger 19 = .ok (.iaload, 1) := oc_46 (by decide +kernel)
theorem dX6_takeLonger_20 : decode cX6_takeLonger 20 = .ok (.bipush 61, 2) := oc_16 (a := 61) (by decide +kernel)
theorem dX6_takeLonger_22 : decode cX6_takeLonger 22 = .ok (.if_icmp .ne 7, 3) := oc_160 (a := 0) (b := 7) (by decide +kernel)
theorem dX6_takeLonger_25 : decode cX6_takeLonger 25 = .ok (.iconst 1, 1) := oc_4 (by decide +kernel)
theorem dX6_takeLonger_26 : decode cX6_takeLonger 26 = .ok (.goto 4, 3) := oc_167 (a := 0) (b := 4) (by decide +kernel)
theorem dX6_takeNumber_0 : decode cX6_takeNumber 0 = .ok (.aload_n 0, 1) := oc_42 (by decide +kernel)
theorem dX6_takeNumber_1 : decode cX6_takeNumber 1 = .ok (.bipush 18, 2) := oc_16 (a := 18) (by decide +kernel)
theorem dX6_takeNumber_3 : decode cX6_takeNumber 3 = .ok (.putfield 25, 3) := oc_181 (a := 0) (b := 25) (by decide +kernel)
theorem dX6_takeNumber_6 : decode cX6_takeNumber 6 = .ok (.aload_n 0, 1) := oc_42 (by decide +kernel)
theorem dX6_takeNumber_7 : decode cX6_takeNumber 7 = .ok (.iconst 0, 1) := oc_3 (by decide +kernel)
theorem tw_676 : Cond.fieldLink RX6 48 "RingsUnder$Scanner" "value" "I" ∈ wsL_law := sg_29 _ (List.mem_of_getElem? (i := 4) rfl)
theorem dX6_takeNumber_8 : decode cX6_takeNumber 8 = .ok (.putfield 48, 3) := oc_181 (a := 0) (b := 48) (by decide +kernel)
theorem dX6_takeNumber_11 : decode cX6_takeNumber 11 = .ok (.aload_n 0, 1) := oc_42 (by decide +kernel)
theorem dX6_takeNumber_12 : decode cX6_takeNumber 12 = .ok (.getfield 19, 3) := oc_180 (a := 0) (b := 19) (by decide +kernel)
theorem dX6_takeNumber_15 : decode cX6_takeNumber 15 = .ok (.aload_n 0, 1) := oc_42 (by decide +kernel)
theorem dX6_takeNumber_16 : decode cX6_takeNumber 16 = .ok (.getfield 15, 3) := oc_180 (a := 0) (b := 15) (by decide +kernel)
theorem dX6_takeNumber_19 : decode cX6_takeNumber 19 = .ok (.if_icmp .ge 61, 3) := oc_162 (a := 0) (b := 61) (by decide +kernel)
theorem dX6_takeNumber_80 : decode cX6_takeNumber 80 = .ok (.return_, 1) := oc_177 (by decide +kernel)
theorem dX6_takeNumber_22 : decode cX6_takeNumber 22 = .ok (.aload_n 0, 1) := oc_42 (by decide +kernel)
theorem dX6_takeNumber_23 : decode cX6_takeNumber 23 = .ok (.getfield 9, 3) := oc_180 (a := 0) (b := 9) (by decide +kernel)
theorem dX6_takeNumber_26 : decode cX6_takeNumber 26 = .ok (.aload_n 0, 1) := oc_42 (by decide +kernel)
theorem dX6_takeNumber_27 : decode cX6_takeNumber 27 = .ok (.getfield 19, 3) := oc_180 (a := 0) (b := 19) (by decide +kernel)
theorem dX6_takeNumber_30 : decode cX6_takeNumber 30 = .ok (.iaload, 1) := oc_46 (by decide +kernel)
theorem tw_669 : Cond.methodLink RX6 28 yX6_isDigit ∈ wsL_law := sg_28 _ (List.mem_of_getElem? (i := 21) rfl)
theorem tw_670 : Cond.static yX6_isDigit ∈ wsL_law := sg_28 _ (List.mem_of_getElem? (i := 22) rfl)
theorem tw_153 : Cond.initialized RX6 ∈ wsL_law := sg_7 _ (List.mem_of_getElem? (i := 9) rfl)
theorem tw_671 : Cond.code yX6_isDigit cX6_isDigit 1 (some .boolean) ∈ wsL_law := sg_28 _ (List.mem_of_getElem? (i := 23) rfl)
theorem dX6_takeNumber_31 : decode cX6_takeNumber 31 = .ok (.invokestatic 28, 3) := oc_184 (a := 0) (b := 28) (by decide +kernel)
theorem dX6_takeNumber_34 : decode cX6_takeNumber 34 = .ok (.ifCond .eq 46, 3) := oc_153 (a := 0) (b := 46) (by decide +kernel)
theorem dX6_takeNumber_37 : decode cX6_takeNumber 37 = .ok (.aload_n 0, 1) := oc_42 (by decide +kernel)
theorem dX6_takeNumber_38 : decode cX6_takeNumber 38 = .ok (.sipush 10000, 3) := oc_17 (a := 39) (b := 16) (by decide +kernel)
theorem dX6_takeNumber_41 : decode cX6_takeNumber 41 = .ok (.aload_n 0, 1) := oc_42 (by decide +kernel)
theorem dX6_takeNumber_42 : decode cX6_takeNumber 42 = .ok (.getfield 48, 3) := oc_180 (a := 0) (b := 48) (by decide +kernel)
theorem dX6_takeNumber_45 : decode cX6_takeNumber 45 = .ok (.bipush 10, 2) := oc_16 (a := 10) (by decide +kernel)
theorem dX6_takeNumber_47 : decode cX6_takeNumber 47 = .ok (.imul, 1) := oc_104 (by decide +kernel)
theorem dX6_takeNumber_48 : decode cX6_takeNumber 48 = .ok (.aload_n 0, 1) := oc_42 (by decide +kernel)
theorem dX6_takeNumber_49 : decode cX6_takeNumber 49 = .ok (.getfield 9, 3) := oc_180 (a := 0) (b := 9) (by decide +kernel)
theorem dX6_takeNumber_52 : decode cX6_takeNumber 52 = .ok (.aload_n 0, 1) := oc_42 (by decide +kernel)
theorem dX6_takeNumber_53 : decode cX6_takeNumber 53 = .ok (.getfield 19, 3) := oc_180 (a := 0) (b := 19) (by decide +kernel)
theorem dX6_takeNumber_56 : decode cX6_takeNumber 56 = .ok (.iaload, 1) := oc_46 (by decide +kernel)
theorem dX6_takeNumber_57 : decode cX6_takeNumber 57 = .ok (.iadd, 1) := oc_96 (by decide +kernel)
theorem dX6_takeNumber_58 : decode cX6_takeNumber 58 = .ok (.bipush 48, 2) := oc_16 (a := 48) (by decide +kernel)
theorem dX6_takeNumber_60 : decode cX6_takeNumber 60 = .ok (.isub, 1) := oc_100 (by decide +kernel)
theorem tw_677 : Cond.methodLink RX6 51 Lib.Math.min.name ∈ wsL_law := sg_29 _ (List.mem_of_getElem? (i := 5) rfl)
theorem dX6_takeNumber_61 : decode cX6_takeNumber 61 = .ok (.invokestatic 51, 3) := oc_184 (a := 0) (b := 51) (by decide +kernel)
theorem dX6_takeNumber_64 : decode cX6_takeNumber 64 = .ok (.putfield 48, 3) := oc_181 (a := 0) (b := 48) (by decide +kernel)
theorem dX6_takeNumber_67 : decode cX6_takeNumber 67 = .ok (.aload_n 0, 1) := oc_42 (by decide +kernel)
theorem dX6_takeNumber_68 : decode cX6_takeNumber 68 = .ok (.dup, 1) := oc_89 (by decide +kernel)
theorem dX6_takeNumber_69 : decode cX6_takeNumber 69 = .ok (.getfield 19, 3) := oc_180 (a := 0) (b := 19) (by decide +kernel)
theorem dX6_takeNumber_72 : decode cX6_takeNumber 72 = .ok (.iconst 1, 1) := oc_4 (by decide +kernel)
theorem dX6_takeNumber_73 : decode cX6_takeNumber 73 = .ok (.iadd, 1) := oc_96 (by decide +kernel)
theorem dX6_takeNumber_74 : decode cX6_takeNumber 74 = .ok (.putfield 19, 3) := oc_181 (a := 0) (b := 19) (by decide +kernel)
theorem dX6_takeNumber_77 : decode cX6_takeNumber 77 = .ok (.goto (-66), 3) := oc_167 (a := 255) (b := 190) (by decide +kernel)
theorem dX7_copyFrom_0 : decode cX7_copyFrom 0 = .ok (.aload_n 0, 1) := oc_42 (by decide +kernel)
theorem dX7_copyFrom_1 : decode cX7_copyFrom 1 = .ok (.aload_n 1, 1) := oc_43 (by decide +kernel)
theorem dX7_copyFrom_2 : decode cX7_copyFrom 2 = .ok (.getfield 59, 3) := oc_180 (a := 0) (b := 59) (by decide +kernel)
theorem dX7_copyFrom_5 : decode cX7_copyFrom 5 = .ok (.putfield 59, 3) := oc_181 (a := 0) (b := 59) (by decide +kernel)
theorem dX7_copyFrom_8 : decode cX7_copyFrom 8 = .ok (.aload_n 1, 1) := oc_43 (by decide +kernel)
theorem dX7_copyFrom_9 : decode cX7_copyFrom 9 = .ok (.getfield 9, 3) := oc_180 (a := 0) (b := 9) (by decide +kernel)
theorem dX7_copyFrom_12 : decode cX7_copyFrom 12 = .ok (.aload_n 0, 1) := oc_42 (by decide +kernel)
theorem dX7_copyFrom_13 : decode cX7_copyFrom 13 = .ok (.getfield 9, 3) := oc_180 (a := 0) (b := 9) (by decide +kernel)
theorem dX7_copyFrom_16 : decode cX7_copyFrom 16 = .ok (.invokestatic 62, 3) := oc_184 (a := 0) (b := 62) (by decide +kernel)
theorem dX7_copyFrom_19 : decode cX7_copyFrom 19 = .ok (.aload_n 1, 1) := oc_43 (by decide +kernel)
theorem dX7_copyFrom_20 : decode cX7_copyFrom 20 = .ok (.getfield 15, 3) := oc_180 (a := 0) (b := 15) (by decide +kernel)
theorem dX7_copyFrom_23 : decode cX7_copyFrom 23 = .ok (.aload_n 0, 1) := oc_42 (by decide +kernel)
theorem dX7_copyFrom_24 : decode cX7_copyFrom 24 = .ok (.getfield 15, 3) := oc_180 (a := 0) (b := 15) (by decide +kernel)
theorem dX7_copyFrom_27 : decode cX7_copyFrom 27 = .ok (.invokestatic 62, 3) := oc_184 (a := 0) (b := 62) (by decide +kernel)
theorem dX7_copyFrom_30 : decode cX7_copyFrom 30 = .ok (.aload_n 1, 1) := oc_43 (by decide +kernel)
theorem dX7_copyFrom_31 : decode cX7_copyFrom 31 = .ok (.getfield 18, 3) := oc_180 (a := 0) (b := 18) (by decide +kernel)
theorem dX7_copyFrom_34 : decode cX7_copyFrom 34 = .ok (.aload_n 0, 1) := oc_42 (by decide +kernel)
theorem dX7_copyFrom_35 : decode cX7_copyFrom 35 = .ok (.getfield 18, 3) := oc_180 (a := 0) (b := 18) (by decide +kernel)
theorem dX7_copyFrom_38 : decode cX7_copyFrom 38 = .ok (.invokestatic 62, 3) := oc_184 (a := 0) (b := 62) (by decide +kernel)
theorem dX7_copyFrom_41 : decode cX7_copyFrom 41 = .ok (.aload_n 1, 1) := oc_43 (by decide +kernel)
theorem dX7_copyFrom_42 : decode cX7_copyFrom 42 = .ok (.getfield 21, 3) := oc_180 (a := 0) (b := 21) (by decide +kernel)
theorem dX7_copyFrom_45 : decode cX7_copyFrom 45 = .ok (.aload_n 0, 1) := oc_42 (by decide +kernel)
theorem dX7_copyFrom_46 : decode cX7_copyFrom 46 = .ok (.getfield 21, 3) := oc_180 (a := 0) (b := 21) (by decide +kernel)
theorem dX7_copyFrom_49 : decode cX7_copyFrom 49 = .ok (.invokestatic 62, 3) := oc_184 (a := 0) (b := 62) (by decide +kernel)
theorem dX7_copyFrom_52 : decode cX7_copyFrom 52 = .ok (.aload_n 1, 1) := oc_43 (by decide +kernel)
theorem tw_65 : Cond.fieldLink RX7 24 "RingsUnder$Seas" "low" "[I" ∈ wsL_law := sg_3 _ (List.mem_of_getElem? (i := 17) rfl)
theorem dX7_copyFrom_53 : decode cX7_copyFrom 53 = .ok (.getfield 24, 3) := oc_180 (a := 0) (b := 24) (by decide +kernel)
theorem dX7_copyFrom_56 : decode cX7_copyFrom 56 = .ok (.aload_n 0, 1) := oc_42 (by decide +kernel)
theorem dX7_copyFrom_57 : decode cX7_copyFrom 57 = .ok (.getfield 24, 3) := oc_180 (a := 0) (b := 24) (by decide +kernel)
theorem dX7_copyFrom_60 : decode cX7_copyFrom 60 = .ok (.invokestatic 62, 3) := oc_184 (a := 0) (b := 62) (by decide +kernel)
theorem dX7_copyFrom_63 : decode cX7_copyFrom 63 = .ok (.aload_n 1, 1) := oc_43 (by decide +kernel)
theorem tw_66 : Cond.fieldLink RX7 27 "RingsUnder$Seas" "high" "[I" ∈ wsL_law := sg_3 _ (List.mem_of_getElem? (i := 18) rfl)
theorem dX7_copyFrom_64 : decode cX7_copyFrom 64 = .ok (.getfield 27, 3) := oc_180 (a := 0) (b := 27) (by decide +kernel)
theorem dX7_copyFrom_67 : decode cX7_copyFrom 67 = .ok (.aload_n 0, 1) := oc_42 (by decide +kernel)
theorem dX7_copyFrom_68 : decode cX7_copyFrom 68 = .ok (.getfield 27, 3) := oc_180 (a := 0) (b := 27) (by decide +kernel)
theorem dX7_copyFrom_71 : decode cX7_copyFrom 71 = .ok (.invokestatic 62, 3) := oc_184 (a := 0) (b := 62) (by decide +kernel)
theorem dX7_copyFrom_74 : decode cX7_copyFrom 74 = .ok (.aload_n 1, 1) := oc_43 (by decide +kernel)
theorem tw_67 : Cond.fieldLink RX7 30 "RingsUnder$Seas" "warm" "[I" ∈ wsL_law := sg_3 _ (List.mem_of_getElem? (i := 19) rfl)
theorem dX7_copyFrom_75 : decode cX7_copyFrom 75 = .ok (.getfield 30, 3) := oc_180 (a := 0) (b := 30) (by decide +kernel)
theorem dX7_copyFrom_78 : decode cX7_copyFrom 78 = .ok (.aload_n 0, 1) := oc_42 (by decide +kernel)
theorem dX7_copyFrom_79 : decode cX7_copyFrom 79 = .ok (.getfield 30, 3) := oc_180 (a := 0) (b := 30) (by decide +kernel)
theorem dX7_copyFrom_82 : decode cX7_copyFrom 82 = .ok (.invokestatic 62, 3) := oc_184 (a := 0) (b := 62) (by decide +kernel)
theorem dX7_copyFrom_85 : decode cX7_copyFrom 85 = .ok (.aload_n 1, 1) := oc_43 (by decide +kernel)
theorem tw_68 : Cond.fieldLink RX7 33 "RingsUnder$Seas" "drift" "[I" ∈ wsL_law := sg_3 _ (List.mem_of_getElem? (i := 20) rfl)
theorem dX7_copyFrom_86 : decode cX7_copyFrom 86 = .ok (.getfield 33, 3) := oc_180 (a := 0) (b := 33) (by decide +kernel)
theorem dX7_copyFrom_89 : decode cX7_copyFrom 89 = .ok (.aload_n 0, 1) := oc_42 (by decide +kernel)
theorem dX7_copyFrom_90 : decode cX7_copyFrom 90 = .ok (.getfield 33, 3) := oc_180 (a := 0) (b := 33) (by decide +kernel)
theorem dX7_copyFrom_93 : decode cX7_copyFrom 93 = .ok (.invokestatic 62, 3) := oc_184 (a := 0) (b := 62) (by decide +kernel)
theorem dX7_copyFrom_96 : decode cX7_copyFrom 96 = .ok (.aload_n 1, 1) := oc_43 (by decide +kernel)
theorem tw_69 : Cond.fieldLink RX7 36 "RingsUnder$Seas" "rain" "[I" ∈ wsL_law := sg_3 _ (List.mem_of_getElem? (i := 21) rfl)
theorem dX7_copyFrom_97 : decode cX7_copyFrom 97 = .ok (.getfield 36, 3) := oc_180 (a := 0) (b := 36) (by decide +kernel)
theorem dX7_copyFrom_100 : decode cX7_copyFrom 100 = .ok (.aload_n 0, 1) := oc_42 (by decide +kernel)
theorem dX7_copyFrom_101 : decode cX7_copyFrom 101 = .ok (.getfield 36, 3) := oc_180 (a := 0) (b := 36) (by decide +kernel)
theorem dX7_copyFrom_104 : decode cX7_copyFrom 104 = .ok (.invokestatic 62, 3) := oc_184 (a := 0) (b := 62) (by decide +kernel)
theorem dX7_copyFrom_107 : decode cX7_copyFrom 107 = .ok (.aload_n 0, 1) := oc_42 (by decide +kernel)
theorem dX7_copyFrom_108 : decode cX7_copyFrom 108 = .ok (.aload_n 1, 1) := oc_43 (by decide +kernel)
theorem tw_70 : Cond.fieldLink RX7 39 "RingsUnder$Seas" "bear" "I" ∈ wsL_law := sg_3 _ (List.mem_of_getElem? (i := 22) rfl)
theorem dX7_copyFrom_109 : decode cX7_copyFrom 109 = .ok (.getfield 39, 3) := oc_180 (a := 0) (b := 39) (by decide +kernel)
theorem dX7_copyFrom_112 : decode cX7_copyFrom 112 = .ok (.putfield 39, 3) := oc_181 (a := 0) (b := 39) (by decide +kernel)
theorem dX7_copyFrom_115 : decode cX7_copyFrom 115 = .ok (.aload_n 0, 1) := oc_42 (by decide +kernel)
theorem dX7_copyFrom_116 : decode cX7_copyFrom 116 = .ok (.aload_n 1, 1) := oc_43 (by decide +kernel)
theorem tw_71 : Cond.fieldLink RX7 43 "RingsUnder$Seas" "grow" "I" ∈ wsL_law := sg_3 _ (List.mem_of_getElem? (i := 23) rfl)
theorem dX7_copyFrom_117 : decode cX7_copyFrom 117 = .ok (.getfield 43, 3) := oc_180 (a := 0) (b := 43) (by decide +kernel)
theorem dX7_copyFrom_120 : decode cX7_copyFrom 120 = .ok (.putfield 43, 3) := oc_181 (a := 0) (b := 43) (by decide +kernel)
theorem dX7_copyFrom_123 : decode cX7_copyFrom 123 = .ok (.aload_n 0, 1) := oc_42 (by decide +kernel)
theorem dX7_copyFrom_124 : decode cX7_copyFrom 124 = .ok (.aload_n 1, 1) := oc_43 (by decide +kernel)
theorem tw_72 : Cond.fieldLink RX7 46 "RingsUnder$Seas" "die" "I" ∈ wsL_law := sg_4 _ (List.mem_of_getElem? (i := 0) rfl)
theorem dX7_copyFrom_125 : decode cX7_copyFrom 125 = .ok (.getfield 46, 3) := oc_180 (a := 0) (b := 46) (by decide +kernel)
theorem dX7_copyFrom_128 : decode cX7_copyFrom 128 = .ok (.putfield 46, 3) := oc_181 (a := 0) (b := 46) (by decide +kernel)
theorem dX7_copyFrom_131 : decode cX7_copyFrom 131 = .ok (.aload_n 0, 1) := oc_42 (by decide +kernel)
theorem dX7_copyFrom_132 : decode cX7_copyFrom 132 = .ok (.aload_n 1, 1) := oc_43 (by decide +kernel)
theorem tw_73 : Cond.fieldLink RX7 49 "RingsUnder$Seas" "reach" "I" ∈ wsL_law := sg_4 _ (List.mem_of_getElem? (i := 1) rfl)
theorem dX7_copyFrom_133 : decode cX7_copyFrom 133 = .ok (.getfield 49, 3) := oc_180 (a := 0) (b := 49) (by decide +kernel)
theorem dX7_copyFrom_136 : decode cX7_copyFrom 136 = .ok (.putfield 49, 3) := oc_181 (a := 0) (b := 49) (by decide +kernel)
theorem dX7_copyFrom_139 : decode cX7_copyFrom 139 = .ok (.aload_n 0, 1) := oc_42 (by decide +kernel)
theorem dX7_copyFrom_140 : decode cX7_copyFrom 140 = .ok (.aload_n 1, 1) := oc_43 (by decide +kernel)
theorem tw_74 : Cond.fieldLink RX7 52 "RingsUnder$Seas" "cost" "I" ∈ wsL_law := sg_4 _ (List.mem_of_getElem? (i := 2) rfl)
theorem dX7_copyFrom_141 : decode cX7_copyFrom 141 = .ok (.getfield 52, 3) := oc_180 (a := 0) (b := 52) (by decide +kernel)
theorem dX7_copyFrom_144 : decode cX7_copyFrom 144 = .ok (.putfield 52, 3) := oc_181 (a := 0) (b := 52) (by decide +kernel)
theorem dX7_copyFrom_147 : decode cX7_copyFrom 147 = .ok (.return_, 1) := oc_177 (by decide +kernel)
theorem dX7_tell_0 : decode cX7_tell 0 = .ok (.aload_n 0, 1) := oc_42 (by decide +kernel)
theorem dX7_tell_1 : decode cX7_tell 1 = .ok (.getfield 59, 3) := oc_180 (a := 0) (b := 59) (by decide +kernel)
theorem dX7_tell_4 : decode cX7_tell 4 = .ok (.sipush 200, 3) := oc_17 (a := 0) (b := 200) (by decide +kernel)
theorem dX7_tell_7 : decode cX7_tell 7 = .ok (.if_icmp .lt 5, 3) := oc_161 (a := 0) (b := 5) (by decide +kernel)
theorem dX7_tell_12 : decode cX7_tell 12 = .ok (.aload_n 0, 1) := oc_42 (by decide +kernel)
theorem dX7_tell_13 : decode cX7_tell 13 = .ok (.getfield 9, 3) := oc_180 (a := 0) (b := 9) (by decide +kernel)
theorem dX7_tell_16 : decode cX7_tell 16 = .ok (.aload_n 0, 1) := oc_42 (by decide +kernel)
theorem dX7_tell_17 : decode cX7_tell 17 = .ok (.getfield 59, 3) := oc_180 (a := 0) (b := 59) (by decide +kernel)
theorem dX7_tell_20 : decode cX7_tell 20 = .ok (.iload_n 1, 1) := oc_27 (by decide +kernel)
theorem dX7_tell_21 : decode cX7_tell 21 = .ok (.iastore, 1) := oc_79 (by decide +kernel)
theorem dX7_tell_22 : decode cX7_tell 22 = .ok (.aload_n 0, 1) := oc_42 (by decide +kernel)
theorem dX7_tell_23 : decode cX7_tell 23 = .ok (.getfield 15, 3) := oc_180 (a := 0) (b := 15) (by decide +kernel)
theorem dX7_tell_26 : decode cX7_tell 26 = .ok (.aload_n 0, 1) := oc_42 (by decide +kernel)
theorem dX7_tell_27 : decode cX7_tell 27 = .ok (.getfield 59, 3) := oc_180 (a := 0) (b := 59) (by decide +kernel)
theorem dX7_tell_30 : decode cX7_tell 30 = .ok (.iload_n 2, 1) := oc_28 (by decide +kernel)
theorem dX7_tell_31 : decode cX7_tell 31 = .ok (.iastore, 1) := oc_79 (by decide +kernel)
theorem dX7_tell_32 : decode cX7_tell 32 = .ok (.aload_n 0, 1) := oc_42 (by decide +kernel)
theorem dX7_tell_33 : decode cX7_tell 33 = .ok (.getfield 18, 3) := oc_180 (a := 0) (b := 18) (by decide +kernel)
theorem dX7_tell_36 : decode cX7_tell 36 = .ok (.aload_n 0, 1) := oc_42 (by decide +kernel)
theorem dX7_tell_37 : decode cX7_tell 37 = .ok (.getfield 59, 3) := oc_180 (a := 0) (b := 59) (by decide +kernel)
theorem dX7_tell_40 : decode cX7_tell 40 = .ok (.iload_n 3, 1) := oc_29 (by decide +kernel)
theorem dX7_tell_41 : decode cX7_tell 41 = .ok (.iastore, 1) := oc_79 (by decide +kernel)
theorem dX7_tell_42 : decode cX7_tell 42 = .ok (.aload_n 0, 1) := oc_42 (by decide +kernel)
theorem dX7_tell_43 : decode cX7_tell 43 = .ok (.getfield 21, 3) := oc_180 (a := 0) (b := 21) (by decide +kernel)
theorem dX7_tell_46 : decode cX7_tell 46 = .ok (.aload_n 0, 1) := oc_42 (by decide +kernel)
theorem dX7_tell_47 : decode cX7_tell 47 = .ok (.getfield 59, 3) := oc_180 (a := 0) (b := 59) (by decide +kernel)
theorem dX7_tell_50 : decode cX7_tell 50 = .ok (.iload 4, 2) := oc_21 (by decide +kernel)
theorem dX7_tell_52 : decode cX7_tell 52 = .ok (.iastore, 1) := oc_79 (by decide +kernel)
theorem dX7_tell_53 : decode cX7_tell 53 = .ok (.aload_n 0, 1) := oc_42 (by decide +kernel)
theorem dX7_tell_54 : decode cX7_tell 54 = .ok (.dup, 1) := oc_89 (by decide +kernel)
theorem dX7_tell_55 : decode cX7_tell 55 = .ok (.getfield 59, 3) := oc_180 (a := 0) (b := 59) (by decide +kernel)
theorem dX7_tell_58 : decode cX7_tell 58 = .ok (.iconst 1, 1) := oc_4 (by decide +kernel)
theorem dX7_tell_59 : decode cX7_tell 59 = .ok (.iadd, 1) := oc_96 (by decide +kernel)
theorem dX7_tell_60 : decode cX7_tell 60 = .ok (.putfield 59, 3) := oc_181 (a := 0) (b := 59) (by decide +kernel)
theorem dX7_tell_63 : decode cX7_tell 63 = .ok (.aload_n 0, 1) := oc_42 (by decide +kernel)
theorem dX7_tell_64 : decode cX7_tell 64 = .ok (.getfield 59, 3) := oc_180 (a := 0) (b := 59) (by decide +kernel)
theorem dX7_tell_67 : decode cX7_tell 67 = .ok (.ireturn, 1) := oc_172 (by decide +kernel)
theorem dX7_tell_10 : decode cX7_tell 10 = .ok (.iconst (-1), 1) := oc_2 (by decide +kernel)
theorem dX7_tell_11 : decode cX7_tell 11 = .ok (.ireturn, 1) := oc_172 (by decide +kernel)
set_option maxHeartbeats 4000000 in
set_option maxRecDepth 100000 in
theorem s_X11_copy_225_225 (l : Launch) (D : va_G) (t : pq_T) (σ : pq_S) (I : Nat → Nat → Int32) (J : Nat → Nat → Int64) (ri : Nat → Nat → Int32) (rj : Nat → Nat → Int64) (rq : Nat → Nat → Option Nat) (sz : Nat) (tg : Nat → Nat) (hSH : SH σ tg) (hG0 : GS tg σ I ri rq) (a0 : Nat) (a1 : Nat) (hL_a0 : a0 ∈ σ.1) (hK_a0 : σ.2.1 a0 = 13) (hN_a0 : σ.2.2.2 a0 = 200) (hT_a0 : tg a0 = 225) (hL_a1 : a1 ∈ σ.1) (hK_a1 : σ.2.1 a1 = 13) (hN_a1 : σ.2.2.2 a1 = 200) (hT_a1 : tg a1 = 225) : MetV l yX11_copy (wa yX11_copy cX11_copy 2 none) ({ frames := 1, cells := 0, slots := 0, locals := 60 }) [.ref a0, .ref a1] D t σ (I, J, ri, rj, rq) sz 0 0 (fun (u : pq_S × pq_M) => ∃ ri' : Nat → Nat → Int32, u = (σ, I, J, ri', rj, rq) ∧ GX [1225] tg σ I ri rj I ri' rj rq ∧ (∀ j, j < 200 → ri' a1 j = ri a0 j) ∧ (∀ q, q ≠ a1 → ri' q = ri q) ∧ (ri' = va_up ri a1 (va_cpy (ri a0) (ri a1) 0 0 200))) := by
  refine Met.ofW (cc := cX11_copy) (maxL := 2) (ret := none) (by decide +kernel) rfl ?_
  intro p e s m args below meth c s₁ B hml hv
  obtain ⟨rfl, hsz, hP, hK, hD0, hN⟩ := hv
  have hx := B.exec
  have hb := B.bytes
  have hr := B.returns
  have hts := atoms_spec (ws := (wa yX11_copy cX11_copy 2 none)) B.pre
  have hown : s.vm.findClass RX11 = some m.cls := findClass_of_methodNamed B.named
  have hlocks := B.notSynchronized
  subst hsz
  have hD : va_D (pq_B t σ (I, J, ri, rj, rq) s.heap.size) (pq_P t σ (I, J, ri, rj, rq)) := hD0.self
  generalize hAe : pq_B t σ (I, J, ri, rj, rq) s.heap.size = A at hD ⊢
  have hA : ∀ q : Nat, s.heap.size ≤ q → A q := fun q h => by rw [← hAe]; exact Or.inr h
  have hS : va_S A s.heap s.heap [] := va_S.rf
  have hG : GX [1225] tg σ I ri rj I ri rj rq := ⟨hG0, fun _ _ _ => rfl, fun _ _ _ _ _ => rfl, fun _ _ _ _ _ => rfl⟩
  have hl := lv_entry ([.ref a0, .ref a1]) (n := 2) (Nat.le_of_ble_eq_true rfl)
  rw [lg_entry_eq]
  generalize (lg_sl ([.ref a0, .ref a1]) ++ List.replicate (2 - (lg_sl ([.ref a0, .ref a1])).length) Slot.unset).toArray = ls at hl ⊢
  have hl : lv_has ls 2 [(0, .ref a0), (1, .ref a1)] := hl
  refine q_gen (fun Q hQ => ?_)
  have go : ∀ (H : Heap) (locs : List Loc) (ls : Array Slot), va_P D vwCl (pq_P t σ (I, J, ri, rj, rq)) H → va_D A (pq_P t σ (I, J, ri, rj, rq)) → va_S A s.heap H locs → lv_has ls 2 [(0, .ref a0), (1, .ref a1)] → W p l e ({ frames := 1, cells := 0, slots := 0, locals := 60 } : Room) s m (List.toArray ([.ref a0, .ref a1] : List Value)) below meth c H locs 0 0 Q (F0 m 0 ls []) := by
    intro H locs ls hP hD hS hl
    refine lv_aload_n hx hb dX11_copy_0 rfl (lv_at hl 0 rfl) ?_
    refine lv_iconst (v := 0) hx hb dX11_copy_1 (by decide +kernel) ?_
    refine lv_aload_n hx hb dX11_copy_2 rfl (lv_at hl 1 rfl) ?_
    refine lv_iconst (v := 0) hx hb dX11_copy_3 (by decide +kernel) ?_
    refine lv_aload_n hx hb dX11_copy_4 rfl (lv_at hl 0 rfl) ?_
    refine pn_i (v := 200) hx hb hK hP hL_a0 hK_a0 hN_a0 (by decide +kernel) dX11_copy_5 ?_
    refine lv_aload_n hx hb dX11_copy_6 rfl (lv_at hl 1 rfl) ?_
    refine pn_i (v := 200) hx hb hK hP hL_a1 hK_a1 hN_a1 (by decide +kernel) dX11_copy_7 ?_
    refine va_mmin hx hb (hml.trans hl.1.symm) hown (hts _ (tw_c tw_1103)) (hts _ (tw_c tw_467)) (hts _ (tw_c tw_276)) (hts _ (tw_c tw_468)) (Nat.le_of_ble_eq_true rfl) (Nat.le_of_ble_eq_true rfl) (Nat.zero_le _) (Nat.zero_le _) dX11_copy_8 ?_
    refine lv_topi (fun x_1 ex_1 => ?_)
    have h_2 : rg x_1 200 200 := rg_of_eq ex_1 (rg_min2 (rg_k (200 : Int32) 200 rfl) (rg_k (200 : Int32) 200 rfl) (by decide +kernel))
    refine pc_i hx hb (hml.trans hl.1.symm) hown (hts _ (tw_c tw_1104)) (hts _ (tw_c tw_1105)) (hts _ (tw_c tw_1106)) (hts _ (tw_c tw_1107)) hK hP hD hS hL_a0 hK_a0 hN_a0 hL_a1 hK_a1 hN_a1 (rg_pos (rg_k (0 : Int32) 0 rfl) (by decide +kernel)) (rg_pos h_2 (by decide +kernel)) (rg_cp (rg_k (0 : Int32) 0 rfl) h_2 (by decide +kernel)) (rg_cl h_2 (by decide +kernel)) (Nat.le_of_ble_eq_true rfl) (Nat.le_of_ble_eq_true rfl) dX11_copy_11 (fun r_3 H locs er_3 hP hD hS => ?_)
    have hG := GX.cR hG hSH hT_a0 rfl hT_a1 rfl er_3 (by decide +kernel)
    subst hQ
    exact W.vret hx hb hr (fun t1 ht hW => ⟨⟨(σ, I, J, r_3, rj, rq), rfl, ⟨r_3, rfl, hG, (cpy_eq er_3 h_2 rfl), (fun q hq => by rw [er_3, va_up_ne _ _ hq]), (by rw [er_3, show (x_1).toNatClampNeg = 200 from by have z_i := clampE x_1; have z_r := h_2; have z_1 := z_r.1; have z_2 := z_r.2; omega]; rfl)⟩, by rw [ht]; exact hP, va_K.moved hW.alike hK, hD⟩, hS.F ht⟩) hS.2.2 dX11_copy_14
  exact go _ _ _ hP hD hS hl

set_option maxHeartbeats 4000000 in
set_option maxRecDepth 100000 in
theorem s_X11_copy_226_226 (l : Launch) (D : va_G) (t : pq_T) (σ : pq_S) (I : Nat → Nat → Int32) (J : Nat → Nat → Int64) (ri : Nat → Nat → Int32) (rj : Nat → Nat → Int64) (rq : Nat → Nat → Option Nat) (sz : Nat) (tg : Nat → Nat) (hSH : SH σ tg) (hG0 : GS tg σ I ri rq) (a0 : Nat) (a1 : Nat) (hL_a0 : a0 ∈ σ.1) (hK_a0 : σ.2.1 a0 = 13) (hN_a0 : σ.2.2.2 a0 = 200) (hT_a0 : tg a0 = 226) (hL_a1 : a1 ∈ σ.1) (hK_a1 : σ.2.1 a1 = 13) (hN_a1 : σ.2.2.2 a1 = 200) (hT_a1 : tg a1 = 226) : MetV l yX11_copy (wa yX11_copy cX11_copy 2 none) ({ frames := 1, cells := 0, slots := 0, locals := 60 }) [.ref a0, .ref a1] D t σ (I, J, ri, rj, rq) sz 0 0 (fun (u : pq_S × pq_M) => ∃ ri' : Nat → Nat → Int32, u = (σ, I, J, ri', rj, rq) ∧ GX [1226] tg σ I ri rj I ri' rj rq ∧ (∀ j, j < 200 → ri' a1 j = ri a0 j) ∧ (∀ q, q ≠ a1 → ri' q = ri q) ∧ (ri' = va_up ri a1 (va_cpy (ri a0) (ri a1) 0 0 200))) := by
  refine Met.ofW (cc := cX11_copy) (maxL := 2) (ret := none) (by decide +kernel) rfl ?_
  intro p e s m args below meth c s₁ B hml hv
  obtain ⟨rfl, hsz, hP, hK, hD0, hN⟩ := hv
  have hx := B.exec
  have hb := B.bytes
  have hr := B.returns
  have hts := atoms_spec (ws := (wa yX11_copy cX11_copy 2 none)) B.pre
  have hown : s.vm.findClass RX11 = some m.cls := findClass_of_methodNamed B.named
  have hlocks := B.notSynchronized
  subst hsz
  have hD : va_D (pq_B t σ (I, J, ri, rj, rq) s.heap.size) (pq_P t σ (I, J, ri, rj, rq)) := hD0.self
  generalize hAe : pq_B t σ (I, J, ri, rj, rq) s.heap.size = A at hD ⊢
  have hA : ∀ q : Nat, s.heap.size ≤ q → A q := fun q h => by rw [← hAe]; exact Or.inr h
  have hS : va_S A s.heap s.heap [] := va_S.rf
  have hG : GX [1226] tg σ I ri rj I ri rj rq := ⟨hG0, fun _ _ _ => rfl, fun _ _ _ _ _ => rfl, fun _ _ _ _ _ => rfl⟩
  have hl := lv_entry ([.ref a0, .ref a1]) (n := 2) (Nat.le_of_ble_eq_true rfl)
  rw [lg_entry_eq]
  generalize (lg_sl ([.ref a0, .ref a1]) ++ List.replicate (2 - (lg_sl ([.ref a0, .ref a1])).length) Slot.unset).toArray = ls at hl ⊢
  have hl : lv_has ls 2 [(0, .ref a0), (1, .ref a1)] := hl
  refine q_gen (fun Q hQ => ?_)
  have go : ∀ (H : Heap) (locs : List Loc) (ls : Array Slot), va_P D vwCl (pq_P t σ (I, J, ri, rj, rq)) H → va_D A (pq_P t σ (I, J, ri, rj, rq)) → va_S A s.heap H locs → lv_has ls 2 [(0, .ref a0), (1, .ref a1)] → W p l e ({ frames := 1, cells := 0, slots := 0, locals := 60 } : Room) s m (List.toArray ([.ref a0, .ref a1] : List Value)) below meth c H locs 0 0 Q (F0 m 0 ls []) := by
    intro H locs ls hP hD hS hl
    refine lv_aload_n hx hb dX11_copy_0 rfl (lv_at hl 0 rfl) ?_
    refine lv_iconst (v := 0) hx hb dX11_copy_1 (by decide +kernel) ?_
    refine lv_aload_n hx hb dX11_copy_2 rfl (lv_at hl 1 rfl) ?_
    refine lv_iconst (v := 0) hx hb dX11_copy_3 (by decide +kernel) ?_
    refine lv_aload_n hx hb dX11_copy_4 rfl (lv_at hl 0 rfl) ?_
    refine pn_i (v := 200) hx hb hK hP hL_a0 hK_a0 hN_a0 (by decide +kernel) dX11_copy_5 ?_
    refine lv_aload_n hx hb dX11_copy_6 rfl (lv_at hl 1 rfl) ?_
    refine pn_i (v := 200) hx hb hK hP hL_a1 hK_a1 hN_a1 (by decide +kernel) dX11_copy_7 ?_
    refine va_mmin hx hb (hml.trans hl.1.symm) hown (hts _ (tw_c tw_1103)) (hts _ (tw_c tw_467)) (hts _ (tw_c tw_276)) (hts _ (tw_c tw_468)) (Nat.le_of_ble_eq_true rfl) (Nat.le_of_ble_eq_true rfl) (Nat.zero_le _) (Nat.zero_le _) dX11_copy_8 ?_
    refine lv_topi (fun x_1 ex_1 => ?_)
    have h_2 : rg x_1 200 200 := rg_of_eq ex_1 (rg_min2 (rg_k (200 : Int32) 200 rfl) (rg_k (200 : Int32) 200 rfl) (by decide +kernel))
    refine pc_i hx hb (hml.trans hl.1.symm) hown (hts _ (tw_c tw_1104)) (hts _ (tw_c tw_1105)) (hts _ (tw_c tw_1106)) (hts _ (tw_c tw_1107)) hK hP hD hS hL_a0 hK_a0 hN_a0 hL_a1 hK_a1 hN_a1 (rg_pos (rg_k (0 : Int32) 0 rfl) (by decide +kernel)) (rg_pos h_2 (by decide +kernel)) (rg_cp (rg_k (0 : Int32) 0 rfl) h_2 (by decide +kernel)) (rg_cl h_2 (by decide +kernel)) (Nat.le_of_ble_eq_true rfl) (Nat.le_of_ble_eq_true rfl) dX11_copy_11 (fun r_3 H locs er_3 hP hD hS => ?_)
    have hG := GX.cR hG hSH hT_a0 rfl hT_a1 rfl er_3 (by decide +kernel)
    subst hQ
    exact W.vret hx hb hr (fun t1 ht hW => ⟨⟨(σ, I, J, r_3, rj, rq), rfl, ⟨r_3, rfl, hG, (cpy_eq er_3 h_2 rfl), (fun q hq => by rw [er_3, va_up_ne _ _ hq]), (by rw [er_3, show (x_1).toNatClampNeg = 200 from by have z_i := clampE x_1; have z_r := h_2; have z_1 := z_r.1; have z_2 := z_r.2; omega]; rfl)⟩, by rw [ht]; exact hP, va_K.moved hW.alike hK, hD⟩, hS.F ht⟩) hS.2.2 dX11_copy_14
  exact go _ _ _ hP hD hS hl

set_option maxHeartbeats 4000000 in
set_option maxRecDepth 100000 in
theorem s_X11_copy_227_227 (l : Launch) (D : va_G) (t : pq_T) (σ : pq_S) (I : Nat → Nat → Int32) (J : Nat → Nat → Int64) (ri : Nat → Nat → Int32) (rj : Nat → Nat → Int64) (rq : Nat → Nat → Option Nat) (sz : Nat) (tg : Nat → Nat) (hSH : SH σ tg) (hG0 : GS tg σ I ri rq) (a0 : Nat) (a1 : Nat) (hL_a0 : a0 ∈ σ.1) (hK_a0 : σ.2.1 a0 = 13) (hN_a0 : σ.2.2.2 a0 = 200) (hT_a0 : tg a0 = 227) (hL_a1 : a1 ∈ σ.1) (hK_a1 : σ.2.1 a1 = 13) (hN_a1 : σ.2.2.2 a1 = 200) (hT_a1 : tg a1 = 227) : MetV l yX11_copy (wa yX11_copy cX11_copy 2 none) ({ frames := 1, cells := 0, slots := 0, locals := 60 }) [.ref a0, .ref a1] D t σ (I, J, ri, rj, rq) sz 0 0 (fun (u : pq_S × pq_M) => ∃ ri' : Nat → Nat → Int32, u = (σ, I, J, ri', rj, rq) ∧ GX [1227] tg σ I ri rj I ri' rj rq ∧ (∀ j, j < 200 → ri' a1 j = ri a0 j) ∧ (∀ q, q ≠ a1 → ri' q = ri q) ∧ (ri' = va_up ri a1 (va_cpy (ri a0) (ri a1) 0 0 200))) := by
  refine Met.ofW (cc := cX11_copy) (maxL := 2) (ret := none) (by decide +kernel) rfl ?_
  intro p e s m args below meth c s₁ B hml hv
  obtain ⟨rfl, hsz, hP, hK, hD0, hN⟩ := hv
  have hx := B.exec
  have hb := B.bytes
  have hr := B.returns
  have hts := atoms_spec (ws := (wa yX11_copy cX11_copy 2 none)) B.pre
  have hown : s.vm.findClass RX11 = some m.cls := findClass_of_methodNamed B.named
  have hlocks := B.notSynchronized
  subst hsz
  have hD : va_D (pq_B t σ (I, J, ri, rj, rq) s.heap.size) (pq_P t σ (I, J, ri, rj, rq)) := hD0.self
  generalize hAe : pq_B t σ (I, J, ri, rj, rq) s.heap.size = A at hD ⊢
  have hA : ∀ q : Nat, s.heap.size ≤ q → A q := fun q h => by rw [← hAe]; exact Or.inr h
  have hS : va_S A s.heap s.heap [] := va_S.rf
  have hG : GX [1227] tg σ I ri rj I ri rj rq := ⟨hG0, fun _ _ _ => rfl, fun _ _ _ _ _ => rfl, fun _ _ _ _ _ => rfl⟩
  have hl := lv_entry ([.ref a0, .ref a1]) (n := 2) (Nat.le_of_ble_eq_true rfl)
  rw [lg_entry_eq]
  generalize (lg_sl ([.ref a0, .ref a1]) ++ List.replicate (2 - (lg_sl ([.ref a0, .ref a1])).length) Slot.unset).toArray = ls at hl ⊢
  have hl : lv_has ls 2 [(0, .ref a0), (1, .ref a1)] := hl
  refine q_gen (fun Q hQ => ?_)
  have go : ∀ (H : Heap) (locs : List Loc) (ls : Array Slot), va_P D vwCl (pq_P t σ (I, J, ri, rj, rq)) H → va_D A (pq_P t σ (I, J, ri, rj, rq)) → va_S A s.heap H locs → lv_has ls 2 [(0, .ref a0), (1, .ref a1)] → W p l e ({ frames := 1, cells := 0, slots := 0, locals := 60 } : Room) s m (List.toArray ([.ref a0, .ref a1] : List Value)) below meth c H locs 0 0 Q (F0 m 0 ls []) := by
    intro H locs ls hP hD hS hl
    refine lv_aload_n hx hb dX11_copy_0 rfl (lv_at hl 0 rfl) ?_
    refine lv_iconst (v := 0) hx hb dX11_copy_1 (by decide +kernel) ?_
    refine lv_aload_n hx hb dX11_copy_2 rfl (lv_at hl 1 rfl) ?_
    refine lv_iconst (v := 0) hx hb dX11_copy_3 (by decide +kernel) ?_
    refine lv_aload_n hx hb dX11_copy_4 rfl (lv_at hl 0 rfl) ?_
    refine pn_i (v := 200) hx hb hK hP hL_a0 hK_a0 hN_a0 (by decide +kernel) dX11_copy_5 ?_
    refine lv_aload_n hx hb dX11_copy_6 rfl (lv_at hl 1 rfl) ?_
    refine pn_i (v := 200) hx hb hK hP hL_a1 hK_a1 hN_a1 (by decide +kernel) dX11_copy_7 ?_
    refine va_mmin hx hb (hml.trans hl.1.symm) hown (hts _ (tw_c tw_1103)) (hts _ (tw_c tw_467)) (hts _ (tw_c tw_276)) (hts _ (tw_c tw_468)) (Nat.le_of_ble_eq_true rfl) (Nat.le_of_ble_eq_true rfl) (Nat.zero_le _) (Nat.zero_le _) dX11_copy_8 ?_
    refine lv_topi (fun x_1 ex_1 => ?_)
    have h_2 : rg x_1 200 200 := rg_of_eq ex_1 (rg_min2 (rg_k (200 : Int32) 200 rfl) (rg_k (200 : Int32) 200 rfl) (by decide +kernel))
    refine pc_i hx hb (hml.trans hl.1.symm) hown (hts _ (tw_c tw_1104)) (hts _ (tw_c tw_1105)) (hts _ (tw_c tw_1106)) (hts _ (tw_c tw_1107)) hK hP hD hS hL_a0 hK_a0 hN_a0 hL_a1 hK_a1 hN_a1 (rg_pos (rg_k (0 : Int32) 0 rfl) (by decide +kernel)) (rg_pos h_2 (by decide +kernel)) (rg_cp (rg_k (0 : Int32) 0 rfl) h_2 (by decide +kernel)) (rg_cl h_2 (by decide +kernel)) (Nat.le_of_ble_eq_true rfl) (Nat.le_of_ble_eq_true rfl) dX11_copy_11 (fun r_3 H locs er_3 hP hD hS => ?_)
    have hG := GX.cR hG hSH hT_a0 rfl hT_a1 rfl er_3 (by decide +kernel)
    subst hQ
    exact W.vret hx hb hr (fun t1 ht hW => ⟨⟨(σ, I, J, r_3, rj, rq), rfl, ⟨r_3, rfl, hG, (cpy_eq er_3 h_2 rfl), (fun q hq => by rw [er_3, va_up_ne _ _ hq]), (by rw [er_3, show (x_1).toNatClampNeg = 200 from by have z_i := clampE x_1; have z_r := h_2; have z_1 := z_r.1; have z_2 := z_r.2; omega]; rfl)⟩, by rw [ht]; exact hP, va_K.moved hW.alike hK, hD⟩, hS.F ht⟩) hS.2.2 dX11_copy_14
  exact go _ _ _ hP hD hS hl

set_option maxHeartbeats 4000000 in
set_option maxRecDepth 100000 in
theorem s_X11_copy_228_228 (l : Launch) (D : va_G) (t : pq_T) (σ : pq_S) (I : Nat → Nat → Int32) (J : Nat → Nat → Int64) (ri : Nat → Nat → Int32) (rj : Nat → Nat → Int64) (rq : Nat → Nat → Option Nat) (sz : Nat) (tg : Nat → Nat) (hSH : SH σ tg) (hG0 : GS tg σ I ri rq) (a0 : Nat) (a1 : Nat) (hL_a0 : a0 ∈ σ.1) (hK_a0 : σ.2.1 a0 = 13) (hN_a0 : σ.2.2.2 a0 = 200) (hT_a0 : tg a0 = 228) (hL_a1 : a1 ∈ σ.1) (hK_a1 : σ.2.1 a1 = 13) (hN_a1 : σ.2.2.2 a1 = 200) (hT_a1 : tg a1 = 228) : MetV l yX11_copy (wa yX11_copy cX11_copy 2 none) ({ frames := 1, cells := 0, slots := 0, locals := 60 }) [.ref a0, .ref a1] D t σ (I, J, ri, rj, rq) sz 0 0 (fun (u : pq_S × pq_M) => ∃ ri' : Nat → Nat → Int32, u = (σ, I, J, ri', rj, rq) ∧ GX [1228] tg σ I ri rj I ri' rj rq ∧ (∀ j, j < 200 → ri' a1 j = ri a0 j) ∧ (∀ q, q ≠ a1 → ri' q = ri q) ∧ (ri' = va_up ri a1 (va_cpy (ri a0) (ri a1) 0 0 200))) := by
  refine Met.ofW (cc := cX11_copy) (maxL := 2) (ret := none) (by decide +kernel) rfl ?_
  intro p e s m args below meth c s₁ B hml hv
  obtain ⟨rfl, hsz, hP, hK, hD0, hN⟩ := hv
  have hx := B.exec
  have hb := B.bytes
  have hr := B.returns
  have hts := atoms_spec (ws := (wa yX11_copy cX11_copy 2 none)) B.pre
  have hown : s.vm.findClass RX11 = some m.cls := findClass_of_methodNamed B.named
  have hlocks := B.notSynchronized
  subst hsz
  have hD : va_D (pq_B t σ (I, J, ri, rj, rq) s.heap.size) (pq_P t σ (I, J, ri, rj, rq)) := hD0.self
  generalize hAe : pq_B t σ (I, J, ri, rj, rq) s.heap.size = A at hD ⊢
  have hA : ∀ q : Nat, s.heap.size ≤ q → A q := fun q h => by rw [← hAe]; exact Or.inr h
  have hS : va_S A s.heap s.heap [] := va_S.rf
  have hG : GX [1228] tg σ I ri rj I ri rj rq := ⟨hG0, fun _ _ _ => rfl, fun _ _ _ _ _ => rfl, fun _ _ _ _ _ => rfl⟩
  have hl := lv_entry ([.ref a0, .ref a1]) (n := 2) (Nat.le_of_ble_eq_true rfl)
  rw [lg_entry_eq]
  generalize (lg_sl ([.ref a0, .ref a1]) ++ List.replicate (2 - (lg_sl ([.ref a0, .ref a1])).length) Slot.unset).toArray = ls at hl ⊢
  have hl : lv_has ls 2 [(0, .ref a0), (1, .ref a1)] := hl
  refine q_gen (fun Q hQ => ?_)
  have go : ∀ (H : Heap) (locs : List Loc) (ls : Array Slot), va_P D vwCl (pq_P t σ (I, J, ri, rj, rq)) H → va_D A (pq_P t σ (I, J, ri, rj, rq)) → va_S A s.heap H locs → lv_has ls 2 [(0, .ref a0), (1, .ref a1)] → W p l e ({ frames := 1, cells := 0, slots := 0, locals := 60 } : Room) s m (List.toArray ([.ref a0, .ref a1] : List Value)) below meth c H locs 0 0 Q (F0 m 0 ls []) := by
    intro H locs ls hP hD hS hl
    refine lv_aload_n hx hb dX11_copy_0 rfl (lv_at hl 0 rfl) ?_
    refine lv_iconst (v := 0) hx hb dX11_copy_1 (by decide +kernel) ?_
    refine lv_aload_n hx hb dX11_copy_2 rfl (lv_at hl 1 rfl) ?_
    refine lv_iconst (v := 0) hx hb dX11_copy_3 (by decide +kernel) ?_
    refine lv_aload_n hx hb dX11_copy_4 rfl (lv_at hl 0 rfl) ?_
    refine pn_i (v := 200) hx hb hK hP hL_a0 hK_a0 hN_a0 (by decide +kernel) dX11_copy_5 ?_
    refine lv_aload_n hx hb dX11_copy_6 rfl (lv_at hl 1 rfl) ?_
    refine pn_i (v := 200) hx hb hK hP hL_a1 hK_a1 hN_a1 (by decide +kernel) dX11_copy_7 ?_
    refine va_mmin hx hb (hml.trans hl.1.symm) hown (hts _ (tw_c tw_1103)) (hts _ (tw_c tw_467)) (hts _ (tw_c tw_276)) (hts _ (tw_c tw_468)) (Nat.le_of_ble_eq_true rfl) (Nat.le_of_ble_eq_true rfl) (Nat.zero_le _) (Nat.zero_le _) dX11_copy_8 ?_
    refine lv_topi (fun x_1 ex_1 => ?_)
    have h_2 : rg x_1 200 200 := rg_of_eq ex_1 (rg_min2 (rg_k (200 : Int32) 200 rfl) (rg_k (200 : Int32) 200 rfl) (by decide +kernel))
    refine pc_i hx hb (hml.trans hl.1.symm) hown (hts _ (tw_c tw_1104)) (hts _ (tw_c tw_1105)) (hts _ (tw_c tw_1106)) (hts _ (tw_c tw_1107)) hK hP hD hS hL_a0 hK_a0 hN_a0 hL_a1 hK_a1 hN_a1 (rg_pos (rg_k (0 : Int32) 0 rfl) (by decide +kernel)) (rg_pos h_2 (by decide +kernel)) (rg_cp (rg_k (0 : Int32) 0 rfl) h_2 (by decide +kernel)) (rg_cl h_2 (by decide +kernel)) (Nat.le_of_ble_eq_true rfl) (Nat.le_of_ble_eq_true rfl) dX11_copy_11 (fun r_3 H locs er_3 hP hD hS => ?_)
    have hG := GX.cR hG hSH hT_a0 rfl hT_a1 rfl er_3 (by decide +kernel)
    subst hQ
    exact W.vret hx hb hr (fun t1 ht hW => ⟨⟨(σ, I, J, r_3, rj, rq), rfl, ⟨r_3, rfl, hG, (cpy_eq er_3 h_2 rfl), (fun q hq => by rw [er_3, va_up_ne _ _ hq]), (by rw [er_3, show (x_1).toNatClampNeg = 200 from by have z_i := clampE x_1; have z_r := h_2; have z_1 := z_r.1; have z_2 := z_r.2; omega]; rfl)⟩, by rw [ht]; exact hP, va_K.moved hW.alike hK, hD⟩, hS.F ht⟩) hS.2.2 dX11_copy_14
  exact go _ _ _ hP hD hS hl

set_option maxHeartbeats 4000000 in
set_option maxRecDepth 100000 in
theorem s_X11_copy_229_229 (l : Launch) (D : va_G) (t : pq_T) (σ : pq_S) (I : Nat → Nat → Int32) (J : Nat → Nat → Int64) (ri : Nat → Nat → Int32) (rj : Nat → Nat → Int64) (rq : Nat → Nat → Option Nat) (sz : Nat) (tg : Nat → Nat) (hSH : SH σ tg) (hG0 : GS tg σ I ri rq) (a0 : Nat) (a1 : Nat) (hL_a0 : a0 ∈ σ.1) (hK_a0 : σ.2.1 a0 = 13) (hN_a0 : σ.2.2.2 a0 = 12) (hT_a0 : tg a0 = 229) (hL_a1 : a1 ∈ σ.1) (hK_a1 : σ.2.1 a1 = 13) (hN_a1 : σ.2.2.2 a1 = 12) (hT_a1 : tg a1 = 229) : MetV l yX11_copy (wa yX11_copy cX11_copy 2 none) ({ frames := 1, cells := 0, slots := 0, locals := 60 }) [.ref a0, .ref a1] D t σ (I, J, ri, rj, rq) sz 0 0 (fun (u : pq_S × pq_M) => ∃ ri' : Nat → Nat → Int32, u = (σ, I, J, ri', rj, rq) ∧ GX [1229] tg σ I ri rj I ri' rj rq ∧ (∀ j, j < 12 → ri' a1 j = ri a0 j) ∧ (∀ q, q ≠ a1 → ri' q = ri q) ∧ (ri' = va_up ri a1 (va_cpy (ri a0) (ri a1) 0 0 12))) := by
  refine Met.ofW (cc := cX11_copy) (maxL := 2) (ret := none) (by decide +kernel) rfl ?_
  intro p e s m args below meth c s₁ B hml hv
  obtain ⟨rfl, hsz, hP, hK, hD0, hN⟩ := hv
  have hx := B.exec
  have hb := B.bytes
  have hr := B.returns
  have hts := atoms_spec (ws := (wa yX11_copy cX11_copy 2 none)) B.pre
  have hown : s.vm.findClass RX11 = some m.cls := findClass_of_methodNamed B.named
  have hlocks := B.notSynchronized
  subst hsz
  have hD : va_D (pq_B t σ (I, J, ri, rj, rq) s.heap.size) (pq_P t σ (I, J, ri, rj, rq)) := hD0.self
  generalize hAe : pq_B t σ (I, J, ri, rj, rq) s.heap.size = A at hD ⊢
  have hA : ∀ q : Nat, s.heap.size ≤ q → A q := fun q h => by rw [← hAe]; exact Or.inr h
  have hS : va_S A s.heap s.heap [] := va_S.rf
  have hG : GX [1229] tg σ I ri rj I ri rj rq := ⟨hG0, fun _ _ _ => rfl, fun _ _ _ _ _ => rfl, fun _ _ _ _ _ => rfl⟩
  have hl := lv_entry ([.ref a0, .ref a1]) (n := 2) (Nat.le_of_ble_eq_true rfl)
  rw [lg_entry_eq]
  generalize (lg_sl ([.ref a0, .ref a1]) ++ List.replicate (2 - (lg_sl ([.ref a0, .ref a1])).length) Slot.unset).toArray = ls at hl ⊢
  have hl : lv_has ls 2 [(0, .ref a0), (1, .ref a1)] := hl
  refine q_gen (fun Q hQ => ?_)
  have go : ∀ (H : Heap) (locs : List Loc) (ls : Array Slot), va_P D vwCl (pq_P t σ (I, J, ri, rj, rq)) H → va_D A (pq_P t σ (I, J, ri, rj, rq)) → va_S A s.heap H locs → lv_has ls 2 [(0, .ref a0), (1, .ref a1)] → W p l e ({ frames := 1, cells := 0, slots := 0, locals := 60 } : Room) s m (List.toArray ([.ref a0, .ref a1] : List Value)) below meth c H locs 0 0 Q (F0 m 0 ls []) := by
    intro H locs ls hP hD hS hl
    refine lv_aload_n hx hb dX11_copy_0 rfl (lv_at hl 0 rfl) ?_
    refine lv_iconst (v := 0) hx hb dX11_copy_1 (by decide +kernel) ?_
    refine lv_aload_n hx hb dX11_copy_2 rfl (lv_at hl 1 rfl) ?_
    refine lv_iconst (v := 0) hx hb dX11_copy_3 (by decide +kernel) ?_
    refine lv_aload_n hx hb dX11_copy_4 rfl (lv_at hl 0 rfl) ?_
    refine pn_i (v := 12) hx hb hK hP hL_a0 hK_a0 hN_a0 (by decide +kernel) dX11_copy_5 ?_
    refine lv_aload_n hx hb dX11_copy_6 rfl (lv_at hl 1 rfl) ?_
    refine pn_i (v := 12) hx hb hK hP hL_a1 hK_a1 hN_a1 (by decide +kernel) dX11_copy_7 ?_
    refine va_mmin hx hb (hml.trans hl.1.symm) hown (hts _ (tw_c tw_1103)) (hts _ (tw_c tw_467)) (hts _ (tw_c tw_276)) (hts _ (tw_c tw_468)) (Nat.le_of_ble_eq_true rfl) (Nat.le_of_ble_eq_true rfl) (Nat.zero_le _) (Nat.zero_le _) dX11_copy_8 ?_
    refine lv_topi (fun x_1 ex_1 => ?_)
    have h_2 : rg x_1 12 12 := rg_of_eq ex_1 (rg_min2 (rg_k (12 : Int32) 12 rfl) (rg_k (12 : Int32) 12 rfl) (by decide +kernel))
    refine pc_i hx hb (hml.trans hl.1.symm) hown (hts _ (tw_c tw_1104)) (hts _ (tw_c tw_1105)) (hts _ (tw_c tw_1106)) (hts _ (tw_c tw_1107)) hK hP hD hS hL_a0 hK_a0 hN_a0 hL_a1 hK_a1 hN_a1 (rg_pos (rg_k (0 : Int32) 0 rfl) (by decide +kernel)) (rg_pos h_2 (by decide +kernel)) (rg_cp (rg_k (0 : Int32) 0 rfl) h_2 (by decide +kernel)) (rg_cl h_2 (by decide +kernel)) (Nat.le_of_ble_eq_true rfl) (Nat.le_of_ble_eq_true rfl) dX11_copy_11 (fun r_3 H locs er_3 hP hD hS => ?_)
    have hG := GX.cR hG hSH hT_a0 rfl hT_a1 rfl er_3 (by decide +kernel)
    subst hQ
    exact W.vret hx hb hr (fun t1 ht hW => ⟨⟨(σ, I, J, r_3, rj, rq), rfl, ⟨r_3, rfl, hG, (cpy_eq er_3 h_2 rfl), (fun q hq => by rw [er_3, va_up_ne _ _ hq]), (by rw [er_3, show (x_1).toNatClampNeg = 12 from by have z_i := clampE x_1; have z_r := h_2; have z_1 := z_r.1; have z_2 := z_r.2; omega]; rfl)⟩, by rw [ht]; exact hP, va_K.moved hW.alike hK, hD⟩, hS.F ht⟩) hS.2.2 dX11_copy_14
  exact go _ _ _ hP hD hS hl

set_option maxHeartbeats 4000000 in
set_option maxRecDepth 100000 in
theorem s_X11_copy_230_230 (l : Launch) (D : va_G) (t : pq_T) (σ : pq_S) (I : Nat → Nat → Int32) (J : Nat → Nat → Int64) (ri : Nat → Nat → Int32) (rj : Nat → Nat → Int64) (rq : Nat → Nat → Option Nat) (sz : Nat) (tg : Nat → Nat) (hSH : SH σ tg) (hG0 : GS tg σ I ri rq) (a0 : Nat) (a1 : Nat) (hL_a0 : a0 ∈ σ.1) (hK_a0 : σ.2.1 a0 = 13) (hN_a0 : σ.2.2.2 a0 = 12) (hT_a0 : tg a0 = 230) (hL_a1 : a1 ∈ σ.1) (hK_a1 : σ.2.1 a1 = 13) (hN_a1 : σ.2.2.2 a1 = 12) (hT_a1 : tg a1 = 230) : MetV l yX11_copy (wa yX11_copy cX11_copy 2 none) ({ frames := 1, cells := 0, slots := 0, locals := 60 }) [.ref a0, .ref a1] D t σ (I, J, ri, rj, rq) sz 0 0 (fun (u : pq_S × pq_M) => ∃ ri' : Nat → Nat → Int32, u = (σ, I, J, ri', rj, rq) ∧ GX [1230] tg σ I ri rj I ri' rj rq ∧ (∀ j, j < 12 → ri' a1 j = ri a0 j) ∧ (∀ q, q ≠ a1 → ri' q = ri q) ∧ (ri' = va_up ri a1 (va_cpy (ri a0) (ri a1) 0 0 12))) := by
  refine Met.ofW (cc := cX11_copy) (maxL := 2) (ret := none) (by decide +kernel) rfl ?_
  intro p e s m args below meth c s₁ B hml hv
  obtain ⟨rfl, hsz, hP, hK, hD0, hN⟩ := hv
  have hx := B.exec
  have hb := B.bytes
  have hr := B.returns
  have hts := atoms_spec (ws := (wa yX11_copy cX11_copy 2 none)) B.pre
  have hown : s.vm.findClass RX11 = some m.cls := findClass_of_methodNamed B.named
  have hlocks := B.notSynchronized
  subst hsz
  have hD : va_D (pq_B t σ (I, J, ri, rj, rq) s.heap.size) (pq_P t σ (I, J, ri, rj, rq)) := hD0.self
  generalize hAe : pq_B t σ (I, J, ri, rj, rq) s.heap.size = A at hD ⊢
  have hA : ∀ q : Nat, s.heap.size ≤ q → A q := fun q h => by rw [← hAe]; exact Or.inr h
  have hS : va_S A s.heap s.heap [] := va_S.rf
  have hG : GX [1230] tg σ I ri rj I ri rj rq := ⟨hG0, fun _ _ _ => rfl, fun _ _ _ _ _ => rfl, fun _ _ _ _ _ => rfl⟩
  have hl := lv_entry ([.ref a0, .ref a1]) (n := 2) (Nat.le_of_ble_eq_true rfl)
  rw [lg_entry_eq]
  generalize (lg_sl ([.ref a0, .ref a1]) ++ List.replicate (2 - (lg_sl ([.ref a0, .ref a1])).length) Slot.unset).toArray = ls at hl ⊢
  have hl : lv_has ls 2 [(0, .ref a0), (1, .ref a1)] := hl
  refine q_gen (fun Q hQ => ?_)
  have go : ∀ (H : Heap) (locs : List Loc) (ls : Array Slot), va_P D vwCl (pq_P t σ (I, J, ri, rj, rq)) H → va_D A (pq_P t σ (I, J, ri, rj, rq)) → va_S A s.heap H locs → lv_has ls 2 [(0, .ref a0), (1, .ref a1)] → W p l e ({ frames := 1, cells := 0, slots := 0, locals := 60 } : Room) s m (List.toArray ([.ref a0, .ref a1] : List Value)) below meth c H locs 0 0 Q (F0 m 0 ls []) := by
    intro H locs ls hP hD hS hl
    refine lv_aload_n hx hb dX11_copy_0 rfl (lv_at hl 0 rfl) ?_
    refine lv_iconst (v := 0) hx hb dX11_copy_1 (by decide +kernel) ?_
    refine lv_aload_n hx hb dX11_copy_2 rfl (lv_at hl 1 rfl) ?_
    refine lv_iconst (v := 0) hx hb dX11_copy_3 (by decide +kernel) ?_
    refine lv_aload_n hx hb dX11_copy_4 rfl (lv_at hl 0 rfl) ?_
    refine pn_i (v := 12) hx hb hK hP hL_a0 hK_a0 hN_a0 (by decide +kernel) dX11_copy_5 ?_
    refine lv_aload_n hx hb dX11_copy_6 rfl (lv_at hl 1 rfl) ?_
    refine pn_i (v := 12) hx hb hK hP hL_a1 hK_a1 hN_a1 (by decide +kernel) dX11_copy_7 ?_
    refine va_mmin hx hb (hml.trans hl.1.symm) hown (hts _ (tw_c tw_1103)) (hts _ (tw_c tw_467)) (hts _ (tw_c tw_276)) (hts _ (tw_c tw_468)) (Nat.le_of_ble_eq_true rfl) (Nat.le_of_ble_eq_true rfl) (Nat.zero_le _) (Nat.zero_le _) dX11_copy_8 ?_
    refine lv_topi (fun x_1 ex_1 => ?_)
    have h_2 : rg x_1 12 12 := rg_of_eq ex_1 (rg_min2 (rg_k (12 : Int32) 12 rfl) (rg_k (12 : Int32) 12 rfl) (by decide +kernel))
    refine pc_i hx hb (hml.trans hl.1.symm) hown (hts _ (tw_c tw_1104)) (hts _ (tw_c tw_1105)) (hts _ (tw_c tw_1106)) (hts _ (tw_c tw_1107)) hK hP hD hS hL_a0 hK_a0 hN_a0 hL_a1 hK_a1 hN_a1 (rg_pos (rg_k (0 : Int32) 0 rfl) (by decide +kernel)) (rg_pos h_2 (by decide +kernel)) (rg_cp (rg_k (0 : Int32) 0 rfl) h_2 (by decide +kernel)) (rg_cl h_2 (by decide +kernel)) (Nat.le_of_ble_eq_true rfl) (Nat.le_of_ble_eq_true rfl) dX11_copy_11 (fun r_3 H locs er_3 hP hD hS => ?_)
    have hG := GX.cR hG hSH hT_a0 rfl hT_a1 rfl er_3 (by decide +kernel)
    subst hQ
    exact W.vret hx hb hr (fun t1 ht hW => ⟨⟨(σ, I, J, r_3, rj, rq), rfl, ⟨r_3, rfl, hG, (cpy_eq er_3 h_2 rfl), (fun q hq => by rw [er_3, va_up_ne _ _ hq]), (by rw [er_3, show (x_1).toNatClampNeg = 12 from by have z_i := clampE x_1; have z_r := h_2; have z_1 := z_r.1; have z_2 := z_r.2; omega]; rfl)⟩, by rw [ht]; exact hP, va_K.moved hW.alike hK, hD⟩, hS.F ht⟩) hS.2.2 dX11_copy_14
  exact go _ _ _ hP hD hS hl

set_option maxHeartbeats 4000000 in
set_option maxRecDepth 100000 in
theorem s_X11_copy_231_231 (l : Launch) (D : va_G) (t : pq_T) (σ : pq_S) (I : Nat → Nat → Int32) (J : Nat → Nat → Int64) (ri : Nat → Nat → Int32) (rj : Nat → Nat → Int64) (rq : Nat → Nat → Option Nat) (sz : Nat) (tg : Nat → Nat) (hSH : SH σ tg) (hG0 : GS tg σ I ri rq) (a0 : Nat) (a1 : Nat) (hL_a0 : a0 ∈ σ.1) (hK_a0 : σ.2.1 a0 = 13) (hN_a0 : σ.2.2.2 a0 = 12) (hT_a0 : tg a0 = 231) (hL_a1 : a1 ∈ σ.1) (hK_a1 : σ.2.1 a1 = 13) (hN_a1 : σ.2.2.2 a1 = 12) (hT_a1 : tg a1 = 231) : MetV l yX11_copy (wa yX11_copy cX11_copy 2 none) ({ frames := 1, cells := 0, slots := 0, locals := 60 }) [.ref a0, .ref a1] D t σ (I, J, ri, rj, rq) sz 0 0 (fun (u : pq_S × pq_M) => ∃ ri' : Nat → Nat → Int32, u = (σ, I, J, ri', rj, rq) ∧ GX [1231] tg σ I ri rj I ri' rj rq ∧ (∀ j, j < 12 → ri' a1 j = ri a0 j) ∧ (∀ q, q ≠ a1 → ri' q = ri q) ∧ (ri' = va_up ri a1 (va_cpy (ri a0) (ri a1) 0 0 12))) := by
  refine Met.ofW (cc := cX11_copy) (maxL := 2) (ret := none) (by decide +kernel) rfl ?_
  intro p e s m args below meth c s₁ B hml hv
  obtain ⟨rfl, hsz, hP, hK, hD0, hN⟩ := hv
  have hx := B.exec
  have hb := B.bytes
  have hr := B.returns
  have hts := atoms_spec (ws := (wa yX11_copy cX11_copy 2 none)) B.pre
  have hown : s.vm.findClass RX11 = some m.cls := findClass_of_methodNamed B.named
  have hlocks := B.notSynchronized
  subst hsz
  have hD : va_D (pq_B t σ (I, J, ri, rj, rq) s.heap.size) (pq_P t σ (I, J, ri, rj, rq)) := hD0.self
  generalize hAe : pq_B t σ (I, J, ri, rj, rq) s.heap.size = A at hD ⊢
  have hA : ∀ q : Nat, s.heap.size ≤ q → A q := fun q h => by rw [← hAe]; exact Or.inr h
  have hS : va_S A s.heap s.heap [] := va_S.rf
  have hG : GX [1231] tg σ I ri rj I ri rj rq := ⟨hG0, fun _ _ _ => rfl, fun _ _ _ _ _ => rfl, fun _ _ _ _ _ => rfl⟩
  have hl := lv_entry ([.ref a0, .ref a1]) (n := 2) (Nat.le_of_ble_eq_true rfl)
  rw [lg_entry_eq]
  generalize (lg_sl ([.ref a0, .ref a1]) ++ List.replicate (2 - (lg_sl ([.ref a0, .ref a1])).length) Slot.unset).toArray = ls at hl ⊢
  have hl : lv_has ls 2 [(0, .ref a0), (1, .ref a1)] := hl
  refine q_gen (fun Q hQ => ?_)
  have go : ∀ (H : Heap) (locs : List Loc) (ls : Array Slot), va_P D vwCl (pq_P t σ (I, J, ri, rj, rq)) H → va_D A (pq_P t σ (I, J, ri, rj, rq)) → va_S A s.heap H locs → lv_has ls 2 [(0, .ref a0), (1, .ref a1)] → W p l e ({ frames := 1, cells := 0, slots := 0, locals := 60 } : Room) s m (List.toArray ([.ref a0, .ref a1] : List Value)) below meth c H locs 0 0 Q (F0 m 0 ls []) := by
    intro H locs ls hP hD hS hl
    refine lv_aload_n hx hb dX11_copy_0 rfl (lv_at hl 0 rfl) ?_
    refine lv_iconst (v := 0) hx hb dX11_copy_1 (by decide +kernel) ?_
    refine lv_aload_n hx hb dX11_copy_2 rfl (lv_at hl 1 rfl) ?_
    refine lv_iconst (v := 0) hx hb dX11_copy_3 (by decide +kernel) ?_
    refine lv_aload_n hx hb dX11_copy_4 rfl (lv_at hl 0 rfl) ?_
    refine pn_i (v := 12) hx hb hK hP hL_a0 hK_a0 hN_a0 (by decide +kernel) dX11_copy_5 ?_
    refine lv_aload_n hx hb dX11_copy_6 rfl (lv_at hl 1 rfl) ?_
    refine pn_i (v := 12) hx hb hK hP hL_a1 hK_a1 hN_a1 (by decide +kernel) dX11_copy_7 ?_
    refine va_mmin hx hb (hml.trans hl.1.symm) hown (hts _ (tw_c tw_1103)) (hts _ (tw_c tw_467)) (hts _ (tw_c tw_276)) (hts _ (tw_c tw_468)) (Nat.le_of_ble_eq_true rfl) (Nat.le_of_ble_eq_true rfl) (Nat.zero_le _) (Nat.zero_le _) dX11_copy_8 ?_
    refine lv_topi (fun x_1 ex_1 => ?_)
    have h_2 : rg x_1 12 12 := rg_of_eq ex_1 (rg_min2 (rg_k (12 : Int32) 12 rfl) (rg_k (12 : Int32) 12 rfl) (by decide +kernel))
    refine pc_i hx hb (hml.trans hl.1.symm) hown (hts _ (tw_c tw_1104)) (hts _ (tw_c tw_1105)) (hts _ (tw_c tw_1106)) (hts _ (tw_c tw_1107)) hK hP hD hS hL_a0 hK_a0 hN_a0 hL_a1 hK_a1 hN_a1 (rg_pos (rg_k (0 : Int32) 0 rfl) (by decide +kernel)) (rg_pos h_2 (by decide +kernel)) (rg_cp (rg_k (0 : Int32) 0 rfl) h_2 (by decide +kernel)) (rg_cl h_2 (by decide +kernel)) (Nat.le_of_ble_eq_true rfl) (Nat.le_of_ble_eq_true rfl) dX11_copy_11 (fun r_3 H locs er_3 hP hD hS => ?_)
    have hG := GX.cR hG hSH hT_a0 rfl hT_a1 rfl er_3 (by decide +kernel)
    subst hQ
    exact W.vret hx hb hr (fun t1 ht hW => ⟨⟨(σ, I, J, r_3, rj, rq), rfl, ⟨r_3, rfl, hG, (cpy_eq er_3 h_2 rfl), (fun q hq => by rw [er_3, va_up_ne _ _ hq]), (by rw [er_3, show (x_1).toNatClampNeg = 12 from by have z_i := clampE x_1; have z_r := h_2; have z_1 := z_r.1; have z_2 := z_r.2; omega]; rfl)⟩, by rw [ht]; exact hP, va_K.moved hW.alike hK, hD⟩, hS.F ht⟩) hS.2.2 dX11_copy_14
  exact go _ _ _ hP hD hS hl

set_option maxHeartbeats 4000000 in
set_option maxRecDepth 100000 in
theorem s_X11_copy_232_232 (l : Launch) (D : va_G) (t : pq_T) (σ : pq_S) (I : Nat → Nat → Int32) (J : Nat → Nat → Int64) (ri : Nat → Nat → Int32) (rj : Nat → Nat → Int64) (rq : Nat → Nat → Option Nat) (sz : Nat) (tg : Nat → Nat) (hSH : SH σ tg) (hG0 : GS tg σ I ri rq) (a0 : Nat) (a1 : Nat) (hL_a0 : a0 ∈ σ.1) (hK_a0 : σ.2.1 a0 = 13) (hN_a0 : σ.2.2.2 a0 = 12) (hT_a0 : tg a0 = 232) (hL_a1 : a1 ∈ σ.1) (hK_a1 : σ.2.1 a1 = 13) (hN_a1 : σ.2.2.2 a1 = 12) (hT_a1 : tg a1 = 232) : MetV l yX11_copy (wa yX11_copy cX11_copy 2 none) ({ frames := 1, cells := 0, slots := 0, locals := 60 }) [.ref a0, .ref a1] D t σ (I, J, ri, rj, rq) sz 0 0 (fun (u : pq_S × pq_M) => ∃ ri' : Nat → Nat → Int32, u = (σ, I, J, ri', rj, rq) ∧ GX [1232] tg σ I ri rj I ri' rj rq ∧ (∀ j, j < 12 → ri' a1 j = ri a0 j) ∧ (∀ q, q ≠ a1 → ri' q = ri q) ∧ (ri' = va_up ri a1 (va_cpy (ri a0) (ri a1) 0 0 12))) := by
  refine Met.ofW (cc := cX11_copy) (maxL := 2) (ret := none) (by decide +kernel) rfl ?_
  intro p e s m args below meth c s₁ B hml hv
  obtain ⟨rfl, hsz, hP, hK, hD0, hN⟩ := hv
  have hx := B.exec
  have hb := B.bytes
  have hr := B.returns
  have hts := atoms_spec (ws := (wa yX11_copy cX11_copy 2 none)) B.pre
  have hown : s.vm.findClass RX11 = some m.cls := findClass_of_methodNamed B.named
  have hlocks := B.notSynchronized
  subst hsz
  have hD : va_D (pq_B t σ (I, J, ri, rj, rq) s.heap.size) (pq_P t σ (I, J, ri, rj, rq)) := hD0.self
  generalize hAe : pq_B t σ (I, J, ri, rj, rq) s.heap.size = A at hD ⊢
  have hA : ∀ q : Nat, s.heap.size ≤ q → A q := fun q h => by rw [← hAe]; exact Or.inr h
  have hS : va_S A s.heap s.heap [] := va_S.rf
  have hG : GX [1232] tg σ I ri rj I ri rj rq := ⟨hG0, fun _ _ _ => rfl, fun _ _ _ _ _ => rfl, fun _ _ _ _ _ => rfl⟩
  have hl := lv_entry ([.ref a0, .ref a1]) (n := 2) (Nat.le_of_ble_eq_true rfl)
  rw [lg_entry_eq]
  generalize (lg_sl ([.ref a0, .ref a1]) ++ List.replicate (2 - (lg_sl ([.ref a0, .ref a1])).length) Slot.unset).toArray = ls at hl ⊢
  have hl : lv_has ls 2 [(0, .ref a0), (1, .ref a1)] := hl
  refine q_gen (fun Q hQ => ?_)
  have go : ∀ (H : Heap) (locs : List Loc) (ls : Array Slot), va_P D vwCl (pq_P t σ (I, J, ri, rj, rq)) H → va_D A (pq_P t σ (I, J, ri, rj, rq)) → va_S A s.heap H locs → lv_has ls 2 [(0, .ref a0), (1, .ref a1)] → W p l e ({ frames := 1, cells := 0, slots := 0, locals := 60 } : Room) s m (List.toArray ([.ref a0, .ref a1] : List Value)) below meth c H locs 0 0 Q (F0 m 0 ls []) := by
    intro H locs ls hP hD hS hl
    refine lv_aload_n hx hb dX11_copy_0 rfl (lv_at hl 0 rfl) ?_
    refine lv_iconst (v := 0) hx hb dX11_copy_1 (by decide +kernel) ?_
    refine lv_aload_n hx hb dX11_copy_2 rfl (lv_at hl 1 rfl) ?_
    refine lv_iconst (v := 0) hx hb dX11_copy_3 (by decide +kernel) ?_
    refine lv_aload_n hx hb dX11_copy_4 rfl (lv_at hl 0 rfl) ?_
    refine pn_i (v := 12) hx hb hK hP hL_a0 hK_a0 hN_a0 (by decide +kernel) dX11_copy_5 ?_
    refine lv_aload_n hx hb dX11_copy_6 rfl (lv_at hl 1 rfl) ?_
    refine pn_i (v := 12) hx hb hK hP hL_a1 hK_a1 hN_a1 (by decide +kernel) dX11_copy_7 ?_
    refine va_mmin hx hb (hml.trans hl.1.symm) hown (hts _ (tw_c tw_1103)) (hts _ (tw_c tw_467)) (hts _ (tw_c tw_276)) (hts _ (tw_c tw_468)) (Nat.le_of_ble_eq_true rfl) (Nat.le_of_ble_eq_true rfl) (Nat.zero_le _) (Nat.zero_le _) dX11_copy_8 ?_
    refine lv_topi (fun x_1 ex_1 => ?_)
    have h_2 : rg x_1 12 12 := rg_of_eq ex_1 (rg_min2 (rg_k (12 : Int32) 12 rfl) (rg_k (12 : Int32) 12 rfl) (by decide +kernel))
    refine pc_i hx hb (hml.trans hl.1.symm) hown (hts _ (tw_c tw_1104)) (hts _ (tw_c tw_1105)) (hts _ (tw_c tw_1106)) (hts _ (tw_c tw_1107)) hK hP hD hS hL_a0 hK_a0 hN_a0 hL_a1 hK_a1 hN_a1 (rg_pos (rg_k (0 : Int32) 0 rfl) (by decide +kernel)) (rg_pos h_2 (by decide +kernel)) (rg_cp (rg_k (0 : Int32) 0 rfl) h_2 (by decide +kernel)) (rg_cl h_2 (by decide +kernel)) (Nat.le_of_ble_eq_true rfl) (Nat.le_of_ble_eq_true rfl) dX11_copy_11 (fun r_3 H locs er_3 hP hD hS => ?_)
    have hG := GX.cR hG hSH hT_a0 rfl hT_a1 rfl er_3 (by decide +kernel)
    subst hQ
    exact W.vret hx hb hr (fun t1 ht hW => ⟨⟨(σ, I, J, r_3, rj, rq), rfl, ⟨r_3, rfl, hG, (cpy_eq er_3 h_2 rfl), (fun q hq => by rw [er_3, va_up_ne _ _ hq]), (by rw [er_3, show (x_1).toNatClampNeg = 12 from by have z_i := clampE x_1; have z_r := h_2; have z_1 := z_r.1; have z_2 := z_r.2; omega]; rfl)⟩, by rw [ht]; exact hP, va_K.moved hW.alike hK, hD⟩, hS.F ht⟩) hS.2.2 dX11_copy_14
  exact go _ _ _ hP hD hS hl

set_option maxHeartbeats 4000000 in
set_option maxRecDepth 100000 in
theorem s_X11_copy_233_233 (l : Launch) (D : va_G) (t : pq_T) (σ : pq_S) (I : Nat → Nat → Int32) (J : Nat → Nat → Int64) (ri : Nat → Nat → Int32) (rj : Nat → Nat → Int64) (rq : Nat → Nat → Option Nat) (sz : Nat) (tg : Nat → Nat) (hSH : SH σ tg) (hG0 : GS tg σ I ri rq) (a0 : Nat) (a1 : Nat) (hL_a0 : a0 ∈ σ.1) (hK_a0 : σ.2.1 a0 = 13) (hN_a0 : σ.2.2.2 a0 = 12) (hT_a0 : tg a0 = 233) (hL_a1 : a1 ∈ σ.1) (hK_a1 : σ.2.1 a1 = 13) (hN_a1 : σ.2.2.2 a1 = 12) (hT_a1 : tg a1 = 233) : MetV l yX11_copy (wa yX11_copy cX11_copy 2 none) ({ frames := 1, cells := 0, slots := 0, locals := 60 }) [.ref a0, .ref a1] D t σ (I, J, ri, rj, rq) sz 0 0 (fun (u : pq_S × pq_M) => ∃ ri' : Nat → Nat → Int32, u = (σ, I, J, ri', rj, rq) ∧ GX [1233] tg σ I ri rj I ri' rj rq ∧ (∀ j, j < 12 → ri' a1 j = ri a0 j) ∧ (∀ q, q ≠ a1 → ri' q = ri q) ∧ (ri' = va_up ri a1 (va_cpy (ri a0) (ri a1) 0 0 12))) := by
  refine Met.ofW (cc := cX11_copy) (maxL := 2) (ret := none) (by decide +kernel) rfl ?_
  intro p e s m args below meth c s₁ B hml hv
  obtain ⟨rfl, hsz, hP, hK, hD0, hN⟩ := hv
  have hx := B.exec
  have hb := B.bytes
  have hr := B.returns
  have hts := atoms_spec (ws := (wa yX11_copy cX11_copy 2 none)) B.pre
  have hown : s.vm.findClass RX11 = some m.cls := findClass_of_methodNamed B.named
  have hlocks := B.notSynchronized
  subst hsz
  have hD : va_D (pq_B t σ (I, J, ri, rj, rq) s.heap.size) (pq_P t σ (I, J, ri, rj, rq)) := hD0.self
  generalize hAe : pq_B t σ (I, J, ri, rj, rq) s.heap.size = A at hD ⊢
  have hA : ∀ q : Nat, s.heap.size ≤ q → A q := fun q h => by rw [← hAe]; exact Or.inr h
  have hS : va_S A s.heap s.heap [] := va_S.rf
  have hG : GX [1233] tg σ I ri rj I ri rj rq := ⟨hG0, fun _ _ _ => rfl, fun _ _ _ _ _ => rfl, fun _ _ _ _ _ => rfl⟩
  have hl := lv_entry ([.ref a0, .ref a1]) (n := 2) (Nat.le_of_ble_eq_true rfl)
  rw [lg_entry_eq]
  generalize (lg_sl ([.ref a0, .ref a1]) ++ List.replicate (2 - (lg_sl ([.ref a0, .ref a1])).length) Slot.unset).toArray = ls at hl ⊢
  have hl : lv_has ls 2 [(0, .ref a0), (1, .ref a1)] := hl
  refine q_gen (fun Q hQ => ?_)
  have go : ∀ (H : Heap) (locs : List Loc) (ls : Array Slot), va_P D vwCl (pq_P t σ (I, J, ri, rj, rq)) H → va_D A (pq_P t σ (I, J, ri, rj, rq)) → va_S A s.heap H locs → lv_has ls 2 [(0, .ref a0), (1, .ref a1)] → W p l e ({ frames := 1, cells := 0, slots := 0, locals := 60 } : Room) s m (List.toArray ([.ref a0, .ref a1] : List Value)) below meth c H locs 0 0 Q (F0 m 0 ls []) := by
    intro H locs ls hP hD hS hl
    refine lv_aload_n hx hb dX11_copy_0 rfl (lv_at hl 0 rfl) ?_
    refine lv_iconst (v := 0) hx hb dX11_copy_1 (by decide +kernel) ?_
    refine lv_aload_n hx hb dX11_copy_2 rfl (lv_at hl 1 rfl) ?_
    refine lv_iconst (v := 0) hx hb dX11_copy_3 (by decide +kernel) ?_
    refine lv_aload_n hx hb dX11_copy_4 rfl (lv_at hl 0 rfl) ?_
    refine pn_i (v := 12) hx hb hK hP hL_a0 hK_a0 hN_a0 (by decide +kernel) dX11_copy_5 ?_
    refine lv_aload_n hx hb dX11_copy_6 rfl (lv_at hl 1 rfl) ?_
    refine pn_i (v := 12) hx hb hK hP hL_a1 hK_a1 hN_a1 (by decide +kernel) dX11_copy_7 ?_
    refine va_mmin hx hb (hml.trans hl.1.symm) hown (hts _ (tw_c tw_1103)) (hts _ (tw_c tw_467)) (hts _ (tw_c tw_276)) (hts _ (tw_c tw_468)) (Nat.le_of_ble_eq_true rfl) (Nat.le_of_ble_eq_true rfl) (Nat.zero_le _) (Nat.zero_le _) dX11_copy_8 ?_
    refine lv_topi (fun x_1 ex_1 => ?_)
    have h_2 : rg x_1 12 12 := rg_of_eq ex_1 (rg_min2 (rg_k (12 : Int32) 12 rfl) (rg_k (12 : Int32) 12 rfl) (by decide +kernel))
    refine pc_i hx hb (hml.trans hl.1.symm) hown (hts _ (tw_c tw_1104)) (hts _ (tw_c tw_1105)) (hts _ (tw_c tw_1106)) (hts _ (tw_c tw_1107)) hK hP hD hS hL_a0 hK_a0 hN_a0 hL_a1 hK_a1 hN_a1 (rg_pos (rg_k (0 : Int32) 0 rfl) (by decide +kernel)) (rg_pos h_2 (by decide +kernel)) (rg_cp (rg_k (0 : Int32) 0 rfl) h_2 (by decide +kernel)) (rg_cl h_2 (by decide +kernel)) (Nat.le_of_ble_eq_true rfl) (Nat.le_of_ble_eq_true rfl) dX11_copy_11 (fun r_3 H locs er_3 hP hD hS => ?_)
    have hG := GX.cR hG hSH hT_a0 rfl hT_a1 rfl er_3 (by decide +kernel)
    subst hQ
    exact W.vret hx hb hr (fun t1 ht hW => ⟨⟨(σ, I, J, r_3, rj, rq), rfl, ⟨r_3, rfl, hG, (cpy_eq er_3 h_2 rfl), (fun q hq => by rw [er_3, va_up_ne _ _ hq]), (by rw [er_3, show (x_1).toNatClampNeg = 12 from by have z_i := clampE x_1; have z_r := h_2; have z_1 := z_r.1; have z_2 := z_r.2; omega]; rfl)⟩, by rw [ht]; exact hP, va_K.moved hW.alike hK, hD⟩, hS.F ht⟩) hS.2.2 dX11_copy_14
  exact go _ _ _ hP hD hS hl

set_option maxRecDepth 100000 in
def g_X7_copyFrom (nI : Nat → Int32) (nR : Nat → Nat → Int32) (I : Nat → Int32) (J : Nat → Int64) (ri : Nat → Nat → Int32) (rj : Nat → Nat → Int64) (rq : Nat → Nat → Option Nat) : vM := (ap1 (nI 224) fun (y_2 : Int32) => (ap1 (va_up I 224 (y_2)) fun (I_3 : Nat → Int32) => (ap1 (va_up ri 225 (va_cpy (nR 225) (ri 225) 0 0 200)) fun (ri_8 : Nat → Nat → Int32) => (ap1 (va_up ri_8 226 (va_cpy (nR 226) (ri_8 226) 0 0 200)) fun (ri_21 : Nat → Nat → Int32) => (ap1 (va_up ri_21 227 (va_cpy (nR 227) (ri_21 227) 0 0 200)) fun (ri_34 : Nat → Nat → Int32) => (ap1 (va_up ri_34 228 (va_cpy (nR 228) (ri_34 228) 0 0 200)) fun (ri_47 : Nat → Nat → Int32) => (ap1 (va_up ri_47 229 (va_cpy (nR 229) (ri_47 229) 0 0 12)) fun (ri_60 : Nat → Nat → Int32) => (ap1 (va_up ri_60 230 (va_cpy (nR 230) (ri_60 230) 0 0 12)) fun (ri_73 : Nat → Nat → Int32) => (ap1 (va_up ri_73 231 (va_cpy (nR 231) (ri_73 231) 0 0 12)) fun (ri_86 : Nat → Nat → Int32) => (ap1 (va_up ri_86 232 (va_cpy (nR 232) (ri_86 232) 0 0 12)) fun (ri_99 : Nat → Nat → Int32) => (ap1 (va_up ri_99 233 (va_cpy (nR 233) (ri_99 233) 0 0 12)) fun (ri_112 : Nat → Nat → Int32) => (ap1 (nI 234) fun (y_121 : Int32) => (ap1 (va_up I_3 234 (y_121)) fun (I_122 : Nat → Int32) => (ap1 (nI 235) fun (y_123 : Int32) => (ap1 (va_up I_122 235 (y_123)) fun (I_124 : Nat → Int32) => (ap1 (nI 236) fun (y_125 : Int32) => (ap1 (va_up I_124 236 (y_125)) fun (I_126 : Nat → Int32) => (ap1 (nI 237) fun (y_128 : Int32) => (ap1 (va_up I_126 237 (y_128)) fun (I_129 : Nat → Int32) => (ap1 (nI 238) fun (y_130 : Int32) => (ap1 (va_up I_129 238 (y_130)) fun (I_131 : Nat → Int32) => (I_131, J, ri_112, rj, rq))))))))))))))))))))))
set_option maxRecDepth 100000 in
theorem g_X7_copyFrom_e {nI : Nat → Int32} {nR : Nat → Nat → Int32} {I : Nat → Int32} {J : Nat → Int64} {ri : Nat → Nat → Int32} {rj : Nat → Nat → Int64} {rq : Nat → Nat → Option Nat} : g_X7_copyFrom nI nR I J ri rj rq = (ap1 (nI 224) fun (y_2 : Int32) => (ap1 (va_up I 224 (y_2)) fun (I_3 : Nat → Int32) => (ap1 (va_up ri 225 (va_cpy (nR 225) (ri 225) 0 0 200)) fun (ri_8 : Nat → Nat → Int32) => (ap1 (va_up ri_8 226 (va_cpy (nR 226) (ri_8 226) 0 0 200)) fun (ri_21 : Nat → Nat → Int32) => (ap1 (va_up ri_21 227 (va_cpy (nR 227) (ri_21 227) 0 0 200)) fun (ri_34 : Nat → Nat → Int32) => (ap1 (va_up ri_34 228 (va_cpy (nR 228) (ri_34 228) 0 0 200)) fun (ri_47 : Nat → Nat → Int32) => (ap1 (va_up ri_47 229 (va_cpy (nR 229) (ri_47 229) 0 0 12)) fun (ri_60 : Nat → Nat → Int32) => (ap1 (va_up ri_60 230 (va_cpy (nR 230) (ri_60 230) 0 0 12)) fun (ri_73 : Nat → Nat → Int32) => (ap1 (va_up ri_73 231 (va_cpy (nR 231) (ri_73 231) 0 0 12)) fun (ri_86 : Nat → Nat → Int32) => (ap1 (va_up ri_86 232 (va_cpy (nR 232) (ri_86 232) 0 0 12)) fun (ri_99 : Nat → Nat → Int32) => (ap1 (va_up ri_99 233 (va_cpy (nR 233) (ri_99 233) 0 0 12)) fun (ri_112 : Nat → Nat → Int32) => (ap1 (nI 234) fun (y_121 : Int32) => (ap1 (va_up I_3 234 (y_121)) fun (I_122 : Nat → Int32) => (ap1 (nI 235) fun (y_123 : Int32) => (ap1 (va_up I_122 235 (y_123)) fun (I_124 : Nat → Int32) => (ap1 (nI 236) fun (y_125 : Int32) => (ap1 (va_up I_124 236 (y_125)) fun (I_126 : Nat → Int32) => (ap1 (nI 237) fun (y_128 : Int32) => (ap1 (va_up I_126 237 (y_128)) fun (I_129 : Nat → Int32) => (ap1 (nI 238) fun (y_130 : Int32) => (ap1 (va_up I_129 238 (y_130)) fun (I_131 : Nat → Int32) => (I_131, J, ri_112, rj, rq)))))))))))))))))))))) := rfl
set_option maxHeartbeats 4000000 in
set_option maxRecDepth 100000 in
theorem s_X7_copyFrom (l : Launch) (D : va_G) (t : pq_T) (σ : pq_S) (I : Nat → Nat → Int32) (J : Nat → Nat → Int64) (ri : Nat → Nat → Int32) (rj : Nat → Nat → Int64) (rq : Nat → Nat → Option Nat) (sz : Nat) (tg : Nat → Nat) (hSH : SH σ tg) (hG0 : GS tg σ I ri rq) (this : Nat) (a0 : Nat) (hL_this : this ∈ σ.1) (hK_this : σ.2.1 this = 7) (hL_a0 : a0 ∈ σ.1) (hK_a0 : σ.2.1 a0 = 7) (M : Nat) (hL_M : M ∈ σ.1) (hK_M : σ.2.1 M = 10) (N : Nat) (hL_N : N ∈ σ.1) (hK_N : σ.2.1 N = 10) (hO_this : this = vo σ 7 M) (hO_a0 : a0 = vo σ 7 N) (hap : AP 10 tg σ M N) : MetV l yX7_copyFrom (wa yX7_copyFrom cX7_copyFrom 2 none) ({ frames := 2, cells := 0, slots := 0, locals := 81 }) [.ref this, .ref a0] D t σ (I, J, ri, rj, rq) sz 0 0 (fun (u : pq_S × pq_M) => ∃ I' : Nat → Nat → Int32, ∃ ri' : Nat → Nat → Int32, u = (σ, I', J, ri', rj, rq) ∧ GX [224, 1225, 1226, 1227, 1228, 1229, 1230, 1231, 1232, 1233, 234, 235, 236] tg σ I ri rj I' ri' rj rq ∧ g_X7_copyFrom (vI 10 σ N I) (vR 10 σ N ri) (vI 10 σ M I) (vJ 10 σ M J) (vR 10 σ M ri) (vL 10 σ M rj) (vQ 10 σ M rq) = ((vI 10 σ M I'), (vJ 10 σ M J), (vR 10 σ M ri'), (vL 10 σ M rj), (vQ 10 σ M rq)) ∧ FR 10 tg σ M (I, J, ri, rj, rq) (I', J, ri', rj, rq)) := by
  refine Met.ofW (cc := cX7_copyFrom) (maxL := 2) (ret := none) (by decide +kernel) rfl ?_
  intro p e s m args below meth c s₁ B hml hv
  obtain ⟨rfl, hsz, hP, hK, hD0, hN⟩ := hv
  have hx := B.exec
  have hb := B.bytes
  have hr := B.returns
  have hts := atoms_spec (ws := (wa yX7_copyFrom cX7_copyFrom 2 none)) B.pre
  have hown : s.vm.findClass RX7 = some m.cls := findClass_of_methodNamed B.named
  have hlocks := B.notSynchronized
  subst hsz
  have hD : va_D (pq_B t σ (I, J, ri, rj, rq) s.heap.size) (pq_P t σ (I, J, ri, rj, rq)) := hD0.self
  generalize hAe : pq_B t σ (I, J, ri, rj, rq) s.heap.size = A at hD ⊢
  have hA : ∀ q : Nat, s.heap.size ≤ q → A q := fun q h => by rw [← hAe]; exact Or.inr h
  have hS : va_S A s.heap s.heap [] := va_S.rf
  have hG : GX [224, 1225, 1226, 1227, 1228, 1229, 1230, 1231, 1232, 1233, 234, 235, 236] tg σ I ri rj I ri rj rq := ⟨hG0, fun _ _ _ => rfl, fun _ _ _ _ _ => rfl, fun _ _ _ _ _ => rfl⟩
  have hl := lv_entry ([.ref this, .ref a0]) (n := 2) (Nat.le_of_ble_eq_true rfl)
  rw [lg_entry_eq]
  generalize (lg_sl ([.ref this, .ref a0]) ++ List.replicate (2 - (lg_sl ([.ref this, .ref a0])).length) Slot.unset).toArray = ls at hl ⊢
  have hl : lv_has ls 2 [(0, .ref this), (1, .ref a0)] := hl
  refine q_gen (fun Q hQ => ?_)
  have go : ∀ (H : Heap) (locs : List Loc) (ls : Array Slot), va_P D vwCl (pq_P t σ (I, J, ri, rj, rq)) H → va_D A (pq_P t σ (I, J, ri, rj, rq)) → va_S A s.heap H locs → lv_has ls 2 [(0, .ref this), (1, .ref a0)] → W p l e ({ frames := 2, cells := 0, slots := 0, locals := 81 } : Room) s m (List.toArray ([.ref this, .ref a0] : List Value)) below meth c H locs 0 0 Q (F0 m 0 ls []) := by
    intro H locs ls hP hD hS hl
    have hVT : VT 10 σ tg M := vt_10 hSH hL_M hK_M
    have hFr : FR 10 tg σ M (I, J, ri, rj, rq) (I, J, ri, rj, rq) := fr_rf
    obtain ⟨F, hF0⟩ : ∃ F, F = g_X7_copyFrom (vI 10 σ N I) (vR 10 σ N ri) (vI 10 σ M I) (vJ 10 σ M J) (vR 10 σ M ri) (vL 10 σ M rj) (vQ 10 σ M rq) := ⟨_, rfl⟩
    have hF := hF0.trans g_X7_copyFrom_e
    refine lv_aload_n hx hb dX7_copyFrom_0 rfl (lv_at hl 0 rfl) ?_
    refine lv_aload_n hx hb dX7_copyFrom_1 rfl (lv_at hl 1 rfl) ?_
    refine pg_f (v := .int (I 224 a0)) (C := RX7) (T := TX7) (N := 15) hx hb hts (tw_i inlX7) hown hK hP hL_a0 hK_a0 (by decide +kernel) rfl 0 (by decide +kernel) (hts _ (tw_c tw_254)) rfl dX7_copyFrom_2 ?_
    have h_1 : rg (I 224 a0) 0 200 := GX.rI hG 224 rfl
    replace hF := hF.trans (ap_n (cI_e (f := 224) hFr hap hO_a0 (by decide +kernel)))
    refine pp_i (v := (I 224 a0)) (ty := .int) (C := RX7) (T := TX7) (N := 15) hx hb hts (tw_i inlX7) tyX7 tyX7_ok nmX7 hown hK hP hD hS hL_this hK_this (by decide +kernel) rfl 0 224 (by decide +kernel) (hts _ (tw_c tw_254)) rfl (tyX7_ok 0 (by decide +kernel)) rfl rfl (Nat.le_of_ble_eq_true rfl) (ps_224 _ _ _ _ _) dX7_copyFrom_5 (fun I_3 H locs eI_3 hP hD hS => ?_)
    replace hFr := fr_I (f := 224) hFr hO_this (by decide +kernel) eI_3
    replace hF := hF.trans (ap_n (vI_st (f := 224) hO_this (by decide +kernel) eI_3))
    have hG := GX.wI hG 224 rfl eI_3 (rg_w h_1 (by decide +kernel)) (by decide +kernel)
    refine lv_aload_n hx hb dX7_copyFrom_8 rfl (lv_at hl 1 rfl) ?_
    obtain ⟨w_4, hR_w_4, hL_w_4, hK_w_4, hN_w_4, hT_w_4⟩ := sh_a hSH 225 (ci := 7) (kd := 13) (len := 200) rfl (by decide +kernel) hL_a0 hK_a0
    have hO_w_4 : w_4 = vrow σ 225 N := vo_k (c := 7) hO_a0 hR_w_4
    refine pg_f (v := .ref w_4) (C := RX7) (T := TX7) (N := 15) hx hb hts (tw_i inlX7) hown hK hP hL_a0 hK_a0 (by decide +kernel) rfl 1 (by decide +kernel) (hts _ (tw_c tw_61)) (pq_hv rfl hR_w_4) dX7_copyFrom_9 ?_
    refine lv_aload_n hx hb dX7_copyFrom_12 rfl (lv_at hl 0 rfl) ?_
    obtain ⟨w_5, hR_w_5, hL_w_5, hK_w_5, hN_w_5, hT_w_5⟩ := sh_a hSH 225 (ci := 7) (kd := 13) (len := 200) rfl (by decide +kernel) hL_this hK_this
    have hO_w_5 : w_5 = vrow σ 225 M := vo_k (c := 7) hO_this hR_w_5
    refine pg_f (v := .ref w_5) (C := RX7) (T := TX7) (N := 15) hx hb hts (tw_i inlX7) hown hK hP hL_this hK_this (by decide +kernel) rfl 1 (by decide +kernel) (hts _ (tw_c tw_61)) (pq_hv rfl hR_w_5) dX7_copyFrom_13 ?_
    refine pk_v (va_runSN (As := [.ref w_4, .ref w_5]) (rest := []) ⟨hx, hb, hml, hown, hts⟩ (s_X11_copy_225_225 l D t σ I_3 J ri rj rq H.size tg hSH hG.1 w_4 w_5 hL_w_4 hK_w_4 hN_w_4 hT_w_4 hL_w_5 hK_w_5 hN_w_5 hT_w_5) ⟨va_cnB (host := "RingsUnder") 2 hts (tw_W tw_1102) rfl rfl rfl (nl_18 hN) (hts _ (tw_c tw_2)) cd_yX11_copy_2 ⟨Nat.le_of_ble_eq_true rfl, Nat.le_of_ble_eq_true rfl⟩, hts (.static yX11_copy) (tw_c tq_static_yX11_copy), trivial⟩ ⟨pq_blind, pq_pre hK hN hP hD⟩ rfl rfl hl.1 rfl (lv_room (Nat.le_of_ble_eq_true rfl)) dX7_copyFrom_16 ⟨Nat.le_of_ble_eq_true rfl, Nat.le_of_ble_eq_true rfl⟩) hD hS hA (fun σ1 μ1 H locs hw_7 hP hD hS => ?_)
    obtain ⟨ri_8, hu_9, hg_10, hp_12, hp_13, hp_14⟩ := hw_7
    obtain ⟨hu_9a, hu_9b⟩ := Prod.mk.inj hu_9
    rw [hu_9a, hu_9b] at hP hD
    replace hF := hF.trans (ap_n (vR_cp hVT hO_w_5 (by decide +kernel) (funext fun _ => (cR_r hFr hap hO_w_4 (by decide +kernel) rfl)) hp_14))
    replace hFr := fr_R hFr hO_w_5 (by decide +kernel) hp_14
    have hG := GX.tr hG hg_10 (by decide +kernel)
    refine lv_aload_n hx hb dX7_copyFrom_19 rfl (lv_at hl 1 rfl) ?_
    obtain ⟨w_17, hR_w_17, hL_w_17, hK_w_17, hN_w_17, hT_w_17⟩ := sh_a hSH 226 (ci := 7) (kd := 13) (len := 200) rfl (by decide +kernel) hL_a0 hK_a0
    have hO_w_17 : w_17 = vrow σ 226 N := vo_k (c := 7) hO_a0 hR_w_17
    refine pg_f (v := .ref w_17) (C := RX7) (T := TX7) (N := 15) hx hb hts (tw_i inlX7) hown hK hP hL_a0 hK_a0 (by decide +kernel) rfl 2 (by decide +kernel) (hts _ (tw_c tw_62)) (pq_hv rfl hR_w_17) dX7_copyFrom_20 ?_
    refine lv_aload_n hx hb dX7_copyFrom_23 rfl (lv_at hl 0 rfl) ?_
    obtain ⟨w_18, hR_w_18, hL_w_18, hK_w_18, hN_w_18, hT_w_18⟩ := sh_a hSH 226 (ci := 7) (kd := 13) (len := 200) rfl (by decide +kernel) hL_this hK_this
    have hO_w_18 : w_18 = vrow σ 226 M := vo_k (c := 7) hO_this hR_w_18
    refine pg_f (v := .ref w_18) (C := RX7) (T := TX7) (N := 15) hx hb hts (tw_i inlX7) hown hK hP hL_this hK_this (by decide +kernel) rfl 2 (by decide +kernel) (hts _ (tw_c tw_62)) (pq_hv rfl hR_w_18) dX7_copyFrom_24 ?_
    refine pk_v (va_runSN (As := [.ref w_17, .ref w_18]) (rest := []) ⟨hx, hb, hml, hown, hts⟩ (s_X11_copy_226_226 l D t σ I_3 J ri_8 rj rq H.size tg hSH hG.1 w_17 w_18 hL_w_17 hK_w_17 hN_w_17 hT_w_17 hL_w_18 hK_w_18 hN_w_18 hT_w_18) ⟨va_cnB (host := "RingsUnder") 2 hts (tw_W tw_1102) rfl rfl rfl (nl_18 hN) (hts _ (tw_c tw_2)) cd_yX11_copy_2 ⟨Nat.le_of_ble_eq_true rfl, Nat.le_of_ble_eq_true rfl⟩, hts (.static yX11_copy) (tw_c tq_static_yX11_copy), trivial⟩ ⟨pq_blind, pq_pre hK hN hP hD⟩ rfl rfl hl.1 rfl (lv_room (Nat.le_of_ble_eq_true rfl)) dX7_copyFrom_27 ⟨Nat.le_of_ble_eq_true rfl, Nat.le_of_ble_eq_true rfl⟩) hD hS hA (fun σ1 μ1 H locs hw_20 hP hD hS => ?_)
    obtain ⟨ri_21, hu_22, hg_23, hp_25, hp_26, hp_27⟩ := hw_20
    obtain ⟨hu_22a, hu_22b⟩ := Prod.mk.inj hu_22
    rw [hu_22a, hu_22b] at hP hD
    replace hF := hF.trans (ap_n (vR_cp hVT hO_w_18 (by decide +kernel) (funext fun _ => (cR_r hFr hap hO_w_17 (by decide +kernel) rfl)) hp_27))
    replace hFr := fr_R hFr hO_w_18 (by decide +kernel) hp_27
    have hG := GX.tr hG hg_23 (by decide +kernel)
    refine lv_aload_n hx hb dX7_copyFrom_30 rfl (lv_at hl 1 rfl) ?_
    obtain ⟨w_30, hR_w_30, hL_w_30, hK_w_30, hN_w_30, hT_w_30⟩ := sh_a hSH 227 (ci := 7) (kd := 13) (len := 200) rfl (by decide +kernel) hL_a0 hK_a0
    have hO_w_30 : w_30 = vrow σ 227 N := vo_k (c := 7) hO_a0 hR_w_30
    refine pg_f (v := .ref w_30) (C := RX7) (T := TX7) (N := 15) hx hb hts (tw_i inlX7) hown hK hP hL_a0 hK_a0 (by decide +kernel) rfl 3 (by decide +kernel) (hts _ (tw_c tw_63)) (pq_hv rfl hR_w_30) dX7_copyFrom_31 ?_
    refine lv_aload_n hx hb dX7_copyFrom_34 rfl (lv_at hl 0 rfl) ?_
    obtain ⟨w_31, hR_w_31, hL_w_31, hK_w_31, hN_w_31, hT_w_31⟩ := sh_a hSH 227 (ci := 7) (kd := 13) (len := 200) rfl (by decide +kernel) hL_this hK_this
    have hO_w_31 : w_31 = vrow σ 227 M := vo_k (c := 7) hO_this hR_w_31
    refine pg_f (v := .ref w_31) (C := RX7) (T := TX7) (N := 15) hx hb hts (tw_i inlX7) hown hK hP hL_this hK_this (by decide +kernel) rfl 3 (by decide +kernel) (hts _ (tw_c tw_63)) (pq_hv rfl hR_w_31) dX7_copyFrom_35 ?_
    refine pk_v (va_runSN (As := [.ref w_30, .ref w_31]) (rest := []) ⟨hx, hb, hml, hown, hts⟩ (s_X11_copy_227_227 l D t σ I_3 J ri_21 rj rq H.size tg hSH hG.1 w_30 w_31 hL_w_30 hK_w_30 hN_w_30 hT_w_30 hL_w_31 hK_w_31 hN_w_31 hT_w_31) ⟨va_cnB (host := "RingsUnder") 2 hts (tw_W tw_1102) rfl rfl rfl (nl_18 hN) (hts _ (tw_c tw_2)) cd_yX11_copy_2 ⟨Nat.le_of_ble_eq_true rfl, Nat.le_of_ble_eq_true rfl⟩, hts (.static yX11_copy) (tw_c tq_static_yX11_copy), trivial⟩ ⟨pq_blind, pq_pre hK hN hP hD⟩ rfl rfl hl.1 rfl (lv_room (Nat.le_of_ble_eq_true rfl)) dX7_copyFrom_38 ⟨Nat.le_of_ble_eq_true rfl, Nat.le_of_ble_eq_true rfl⟩) hD hS hA (fun σ1 μ1 H locs hw_33 hP hD hS => ?_)
    obtain ⟨ri_34, hu_35, hg_36, hp_38, hp_39, hp_40⟩ := hw_33
    obtain ⟨hu_35a, hu_35b⟩ := Prod.mk.inj hu_35
    rw [hu_35a, hu_35b] at hP hD
    replace hF := hF.trans (ap_n (vR_cp hVT hO_w_31 (by decide +kernel) (funext fun _ => (cR_r hFr hap hO_w_30 (by decide +kernel) rfl)) hp_40))
    replace hFr := fr_R hFr hO_w_31 (by decide +kernel) hp_40
    have hG := GX.tr hG hg_36 (by decide +kernel)
    refine lv_aload_n hx hb dX7_copyFrom_41 rfl (lv_at hl 1 rfl) ?_
    obtain ⟨w_43, hR_w_43, hL_w_43, hK_w_43, hN_w_43, hT_w_43⟩ := sh_a hSH 228 (ci := 7) (kd := 13) (len := 200) rfl (by decide +kernel) hL_a0 hK_a0
    have hO_w_43 : w_43 = vrow σ 228 N := vo_k (c := 7) hO_a0 hR_w_43
    refine pg_f (v := .ref w_43) (C := RX7) (T := TX7) (N := 15) hx hb hts (tw_i inlX7) hown hK hP hL_a0 hK_a0 (by decide +kernel) rfl 4 (by decide +kernel) (hts _ (tw_c tw_64)) (pq_hv rfl hR_w_43) dX7_copyFrom_42 ?_
    refine lv_aload_n hx hb dX7_copyFrom_45 rfl (lv_at hl 0 rfl) ?_
    obtain ⟨w_44, hR_w_44, hL_w_44, hK_w_44, hN_w_44, hT_w_44⟩ := sh_a hSH 228 (ci := 7) (kd := 13) (len := 200) rfl (by decide +kernel) hL_this hK_this
    have hO_w_44 : w_44 = vrow σ 228 M := vo_k (c := 7) hO_this hR_w_44
    refine pg_f (v := .ref w_44) (C := RX7) (T := TX7) (N := 15) hx hb hts (tw_i inlX7) hown hK hP hL_this hK_this (by decide +kernel) rfl 4 (by decide +kernel) (hts _ (tw_c tw_64)) (pq_hv rfl hR_w_44) dX7_copyFrom_46 ?_
    refine pk_v (va_runSN (As := [.ref w_43, .ref w_44]) (rest := []) ⟨hx, hb, hml, hown, hts⟩ (s_X11_copy_228_228 l D t σ I_3 J ri_34 rj rq H.size tg hSH hG.1 w_43 w_44 hL_w_43 hK_w_43 hN_w_43 hT_w_43 hL_w_44 hK_w_44 hN_w_44 hT_w_44) ⟨va_cnB (host := "RingsUnder") 2 hts (tw_W tw_1102) rfl rfl rfl (nl_18 hN) (hts _ (tw_c tw_2)) cd_yX11_copy_2 ⟨Nat.le_of_ble_eq_true rfl, Nat.le_of_ble_eq_true rfl⟩, hts (.static yX11_copy) (tw_c tq_static_yX11_copy), trivial⟩ ⟨pq_blind, pq_pre hK hN hP hD⟩ rfl rfl hl.1 rfl (lv_room (Nat.le_of_ble_eq_true rfl)) dX7_copyFrom_49 ⟨Nat.le_of_ble_eq_true rfl, Nat.le_of_ble_eq_true rfl⟩) hD hS hA (fun σ1 μ1 H locs hw_46 hP hD hS => ?_)
    obtain ⟨ri_47, hu_48, hg_49, hp_51, hp_52, hp_53⟩ := hw_46
    obtain ⟨hu_48a, hu_48b⟩ := Prod.mk.inj hu_48
    rw [hu_48a, hu_48b] at hP hD
    replace hF := hF.trans (ap_n (vR_cp hVT hO_w_44 (by decide +kernel) (funext fun _ => (cR_r hFr hap hO_w_43 (by decide +kernel) rfl)) hp_53))
    replace hFr := fr_R hFr hO_w_44 (by decide +kernel) hp_53
    have hG := GX.tr hG hg_49 (by decide +kernel)
    refine lv_aload_n hx hb dX7_copyFrom_52 rfl (lv_at hl 1 rfl) ?_
    obtain ⟨w_56, hR_w_56, hL_w_56, hK_w_56, hN_w_56, hT_w_56⟩ := sh_a hSH 229 (ci := 7) (kd := 13) (len := 12) rfl (by decide +kernel) hL_a0 hK_a0
    have hO_w_56 : w_56 = vrow σ 229 N := vo_k (c := 7) hO_a0 hR_w_56
    refine pg_f (v := .ref w_56) (C := RX7) (T := TX7) (N := 15) hx hb hts (tw_i inlX7) hown hK hP hL_a0 hK_a0 (by decide +kernel) rfl 5 (by decide +kernel) (hts _ (tw_c tw_65)) (pq_hv rfl hR_w_56) dX7_copyFrom_53 ?_
    refine lv_aload_n hx hb dX7_copyFrom_56 rfl (lv_at hl 0 rfl) ?_
    obtain ⟨w_57, hR_w_57, hL_w_57, hK_w_57, hN_w_57, hT_w_57⟩ := sh_a hSH 229 (ci := 7) (kd := 13) (len := 12) rfl (by decide +kernel) hL_this hK_this
    have hO_w_57 : w_57 = vrow σ 229 M := vo_k (c := 7) hO_this hR_w_57
    refine pg_f (v := .ref w_57) (C := RX7) (T := TX7) (N := 15) hx hb hts (tw_i inlX7) hown hK hP hL_this hK_this (by decide +kernel) rfl 5 (by decide +kernel) (hts _ (tw_c tw_65)) (pq_hv rfl hR_w_57) dX7_copyFrom_57 ?_
    refine pk_v (va_runSN (As := [.ref w_56, .ref w_57]) (rest := []) ⟨hx, hb, hml, hown, hts⟩ (s_X11_copy_229_229 l D t σ I_3 J ri_47 rj rq H.size tg hSH hG.1 w_56 w_57 hL_w_56 hK_w_56 hN_w_56 hT_w_56 hL_w_57 hK_w_57 hN_w_57 hT_w_57) ⟨va_cnB (host := "RingsUnder") 2 hts (tw_W tw_1102) rfl rfl rfl (nl_18 hN) (hts _ (tw_c tw_2)) cd_yX11_copy_2 ⟨Nat.le_of_ble_eq_true rfl, Nat.le_of_ble_eq_true rfl⟩, hts (.static yX11_copy) (tw_c tq_static_yX11_copy), trivial⟩ ⟨pq_blind, pq_pre hK hN hP hD⟩ rfl rfl hl.1 rfl (lv_room (Nat.le_of_ble_eq_true rfl)) dX7_copyFrom_60 ⟨Nat.le_of_ble_eq_true rfl, Nat.le_of_ble_eq_true rfl⟩) hD hS hA (fun σ1 μ1 H locs hw_59 hP hD hS => ?_)
    obtain ⟨ri_60, hu_61, hg_62, hp_64, hp_65, hp_66⟩ := hw_59
    obtain ⟨hu_61a, hu_61b⟩ := Prod.mk.inj hu_61
    rw [hu_61a, hu_61b] at hP hD
    replace hF := hF.trans (ap_n (vR_cp hVT hO_w_57 (by decide +kernel) (funext fun _ => (cR_r hFr hap hO_w_56 (by decide +kernel) rfl)) hp_66))
    replace hFr := fr_R hFr hO_w_57 (by decide +kernel) hp_66
    have hG := GX.tr hG hg_62 (by decide +kernel)
    refine lv_aload_n hx hb dX7_copyFrom_63 rfl (lv_at hl 1 rfl) ?_
    obtain ⟨w_69, hR_w_69, hL_w_69, hK_w_69, hN_w_69, hT_w_69⟩ := sh_a hSH 230 (ci := 7) (kd := 13) (len := 12) rfl (by decide +kernel) hL_a0 hK_a0
    have hO_w_69 : w_69 = vrow σ 230 N := vo_k (c := 7) hO_a0 hR_w_69
    refine pg_f (v := .ref w_69) (C := RX7) (T := TX7) (N := 15) hx hb hts (tw_i inlX7) hown hK hP hL_a0 hK_a0 (by decide +kernel) rfl 6 (by decide +kernel) (hts _ (tw_c tw_66)) (pq_hv rfl hR_w_69) dX7_copyFrom_64 ?_
    refine lv_aload_n hx hb dX7_copyFrom_67 rfl (lv_at hl 0 rfl) ?_
    obtain ⟨w_70, hR_w_70, hL_w_70, hK_w_70, hN_w_70, hT_w_70⟩ := sh_a hSH 230 (ci := 7) (kd := 13) (len := 12) rfl (by decide +kernel) hL_this hK_this
    have hO_w_70 : w_70 = vrow σ 230 M := vo_k (c := 7) hO_this hR_w_70
    refine pg_f (v := .ref w_70) (C := RX7) (T := TX7) (N := 15) hx hb hts (tw_i inlX7) hown hK hP hL_this hK_this (by decide +kernel) rfl 6 (by decide +kernel) (hts _ (tw_c tw_66)) (pq_hv rfl hR_w_70) dX7_copyFrom_68 ?_
    refine pk_v (va_runSN (As := [.ref w_69, .ref w_70]) (rest := []) ⟨hx, hb, hml, hown, hts⟩ (s_X11_copy_230_230 l D t σ I_3 J ri_60 rj rq H.size tg hSH hG.1 w_69 w_70 hL_w_69 hK_w_69 hN_w_69 hT_w_69 hL_w_70 hK_w_70 hN_w_70 hT_w_70) ⟨va_cnB (host := "RingsUnder") 2 hts (tw_W tw_1102) rfl rfl rfl (nl_18 hN) (hts _ (tw_c tw_2)) cd_yX11_copy_2 ⟨Nat.le_of_ble_eq_true rfl, Nat.le_of_ble_eq_true rfl⟩, hts (.static yX11_copy) (tw_c tq_static_yX11_copy), trivial⟩ ⟨pq_blind, pq_pre hK hN hP hD⟩ rfl rfl hl.1 rfl (lv_room (Nat.le_of_ble_eq_true rfl)) dX7_copyFrom_71 ⟨Nat.le_of_ble_eq_true rfl, Nat.le_of_ble_eq_true rfl⟩) hD hS hA (fun σ1 μ1 H locs hw_72 hP hD hS => ?_)
    obtain ⟨ri_73, hu_74, hg_75, hp_77, hp_78, hp_79⟩ := hw_72
    obtain ⟨hu_74a, hu_74b⟩ := Prod.mk.inj hu_74
    rw [hu_74a, hu_74b] at hP hD
    replace hF := hF.trans (ap_n (vR_cp hVT hO_w_70 (by decide +kernel) (funext fun _ => (cR_r hFr hap hO_w_69 (by decide +kernel) rfl)) hp_79))
    replace hFr := fr_R hFr hO_w_70 (by decide +kernel) hp_79
    have hG := GX.tr hG hg_75 (by decide +kernel)
    refine lv_aload_n hx hb dX7_copyFrom_74 rfl (lv_at hl 1 rfl) ?_
    obtain ⟨w_82, hR_w_82, hL_w_82, hK_w_82, hN_w_82, hT_w_82⟩ := sh_a hSH 231 (ci := 7) (kd := 13) (len := 12) rfl (by decide +kernel) hL_a0 hK_a0
    have hO_w_82 : w_82 = vrow σ 231 N := vo_k (c := 7) hO_a0 hR_w_82
    refine pg_f (v := .ref w_82) (C := RX7) (T := TX7) (N := 15) hx hb hts (tw_i inlX7) hown hK hP hL_a0 hK_a0 (by decide +kernel) rfl 7 (by decide +kernel) (hts _ (tw_c tw_67)) (pq_hv rfl hR_w_82) dX7_copyFrom_75 ?_
    refine lv_aload_n hx hb dX7_copyFrom_78 rfl (lv_at hl 0 rfl) ?_
    obtain ⟨w_83, hR_w_83, hL_w_83, hK_w_83, hN_w_83, hT_w_83⟩ := sh_a hSH 231 (ci := 7) (kd := 13) (len := 12) rfl (by decide +kernel) hL_this hK_this
    have hO_w_83 : w_83 = vrow σ 231 M := vo_k (c := 7) hO_this hR_w_83
    refine pg_f (v := .ref w_83) (C := RX7) (T := TX7) (N := 15) hx hb hts (tw_i inlX7) hown hK hP hL_this hK_this (by decide +kernel) rfl 7 (by decide +kernel) (hts _ (tw_c tw_67)) (pq_hv rfl hR_w_83) dX7_copyFrom_79 ?_
    refine pk_v (va_runSN (As := [.ref w_82, .ref w_83]) (rest := []) ⟨hx, hb, hml, hown, hts⟩ (s_X11_copy_231_231 l D t σ I_3 J ri_73 rj rq H.size tg hSH hG.1 w_82 w_83 hL_w_82 hK_w_82 hN_w_82 hT_w_82 hL_w_83 hK_w_83 hN_w_83 hT_w_83) ⟨va_cnB (host := "RingsUnder") 2 hts (tw_W tw_1102) rfl rfl rfl (nl_18 hN) (hts _ (tw_c tw_2)) cd_yX11_copy_2 ⟨Nat.le_of_ble_eq_true rfl, Nat.le_of_ble_eq_true rfl⟩, hts (.static yX11_copy) (tw_c tq_static_yX11_copy), trivial⟩ ⟨pq_blind, pq_pre hK hN hP hD⟩ rfl rfl hl.1 rfl (lv_room (Nat.le_of_ble_eq_true rfl)) dX7_copyFrom_82 ⟨Nat.le_of_ble_eq_true rfl, Nat.le_of_ble_eq_true rfl⟩) hD hS hA (fun σ1 μ1 H locs hw_85 hP hD hS => ?_)
    obtain ⟨ri_86, hu_87, hg_88, hp_90, hp_91, hp_92⟩ := hw_85
    obtain ⟨hu_87a, hu_87b⟩ := Prod.mk.inj hu_87
    rw [hu_87a, hu_87b] at hP hD
    replace hF := hF.trans (ap_n (vR_cp hVT hO_w_83 (by decide +kernel) (funext fun _ => (cR_r hFr hap hO_w_82 (by decide +kernel) rfl)) hp_92))
    replace hFr := fr_R hFr hO_w_83 (by decide +kernel) hp_92
    have hG := GX.tr hG hg_88 (by decide +kernel)
    refine lv_aload_n hx hb dX7_copyFrom_85 rfl (lv_at hl 1 rfl) ?_
    obtain ⟨w_95, hR_w_95, hL_w_95, hK_w_95, hN_w_95, hT_w_95⟩ := sh_a hSH 232 (ci := 7) (kd := 13) (len := 12) rfl (by decide +kernel) hL_a0 hK_a0
    have hO_w_95 : w_95 = vrow σ 232 N := vo_k (c := 7) hO_a0 hR_w_95
    refine pg_f (v := .ref w_95) (C := RX7) (T := TX7) (N := 15) hx hb hts (tw_i inlX7) hown hK hP hL_a0 hK_a0 (by decide +kernel) rfl 8 (by decide +kernel) (hts _ (tw_c tw_68)) (pq_hv rfl hR_w_95) dX7_copyFrom_86 ?_
    refine lv_aload_n hx hb dX7_copyFrom_89 rfl (lv_at hl 0 rfl) ?_
    obtain ⟨w_96, hR_w_96, hL_w_96, hK_w_96, hN_w_96, hT_w_96⟩ := sh_a hSH 232 (ci := 7) (kd := 13) (len := 12) rfl (by decide +kernel) hL_this hK_this
    have hO_w_96 : w_96 = vrow σ 232 M := vo_k (c := 7) hO_this hR_w_96
    refine pg_f (v := .ref w_96) (C := RX7) (T := TX7) (N := 15) hx hb hts (tw_i inlX7) hown hK hP hL_this hK_this (by decide +kernel) rfl 8 (by decide +kernel) (hts _ (tw_c tw_68)) (pq_hv rfl hR_w_96) dX7_copyFrom_90 ?_
    refine pk_v (va_runSN (As := [.ref w_95, .ref w_96]) (rest := []) ⟨hx, hb, hml, hown, hts⟩ (s_X11_copy_232_232 l D t σ I_3 J ri_86 rj rq H.size tg hSH hG.1 w_95 w_96 hL_w_95 hK_w_95 hN_w_95 hT_w_95 hL_w_96 hK_w_96 hN_w_96 hT_w_96) ⟨va_cnB (host := "RingsUnder") 2 hts (tw_W tw_1102) rfl rfl rfl (nl_18 hN) (hts _ (tw_c tw_2)) cd_yX11_copy_2 ⟨Nat.le_of_ble_eq_true rfl, Nat.le_of_ble_eq_true rfl⟩, hts (.static yX11_copy) (tw_c tq_static_yX11_copy), trivial⟩ ⟨pq_blind, pq_pre hK hN hP hD⟩ rfl rfl hl.1 rfl (lv_room (Nat.le_of_ble_eq_true rfl)) dX7_copyFrom_93 ⟨Nat.le_of_ble_eq_true rfl, Nat.le_of_ble_eq_true rfl⟩) hD hS hA (fun σ1 μ1 H locs hw_98 hP hD hS => ?_)
    obtain ⟨ri_99, hu_100, hg_101, hp_103, hp_104, hp_105⟩ := hw_98
    obtain ⟨hu_100a, hu_100b⟩ := Prod.mk.inj hu_100
    rw [hu_100a, hu_100b] at hP hD
    replace hF := hF.trans (ap_n (vR_cp hVT hO_w_96 (by decide +kernel) (funext fun _ => (cR_r hFr hap hO_w_95 (by decide +kernel) rfl)) hp_105))
    replace hFr := fr_R hFr hO_w_96 (by decide +kernel) hp_105
    have hG := GX.tr hG hg_101 (by decide +kernel)
    refine lv_aload_n hx hb dX7_copyFrom_96 rfl (lv_at hl 1 rfl) ?_
    obtain ⟨w_108, hR_w_108, hL_w_108, hK_w_108, hN_w_108, hT_w_108⟩ := sh_a hSH 233 (ci := 7) (kd := 13) (len := 12) rfl (by decide +kernel) hL_a0 hK_a0
    have hO_w_108 : w_108 = vrow σ 233 N := vo_k (c := 7) hO_a0 hR_w_108
    refine pg_f (v := .ref w_108) (C := RX7) (T := TX7) (N := 15) hx hb hts (tw_i inlX7) hown hK hP hL_a0 hK_a0 (by decide +kernel) rfl 9 (by decide +kernel) (hts _ (tw_c tw_69)) (pq_hv rfl hR_w_108) dX7_copyFrom_97 ?_
    refine lv_aload_n hx hb dX7_copyFrom_100 rfl (lv_at hl 0 rfl) ?_
    obtain ⟨w_109, hR_w_109, hL_w_109, hK_w_109, hN_w_109, hT_w_109⟩ := sh_a hSH 233 (ci := 7) (kd := 13) (len := 12) rfl (by decide +kernel) hL_this hK_this
    have hO_w_109 : w_109 = vrow σ 233 M := vo_k (c := 7) hO_this hR_w_109
    refine pg_f (v := .ref w_109) (C := RX7) (T := TX7) (N := 15) hx hb hts (tw_i inlX7) hown hK hP hL_this hK_this (by decide +kernel) rfl 9 (by decide +kernel) (hts _ (tw_c tw_69)) (pq_hv rfl hR_w_109) dX7_copyFrom_101 ?_
    refine pk_v (va_runSN (As := [.ref w_108, .ref w_109]) (rest := []) ⟨hx, hb, hml, hown, hts⟩ (s_X11_copy_233_233 l D t σ I_3 J ri_99 rj rq H.size tg hSH hG.1 w_108 w_109 hL_w_108 hK_w_108 hN_w_108 hT_w_108 hL_w_109 hK_w_109 hN_w_109 hT_w_109) ⟨va_cnB (host := "RingsUnder") 2 hts (tw_W tw_1102) rfl rfl rfl (nl_18 hN) (hts _ (tw_c tw_2)) cd_yX11_copy_2 ⟨Nat.le_of_ble_eq_true rfl, Nat.le_of_ble_eq_true rfl⟩, hts (.static yX11_copy) (tw_c tq_static_yX11_copy), trivial⟩ ⟨pq_blind, pq_pre hK hN hP hD⟩ rfl rfl hl.1 rfl (lv_room (Nat.le_of_ble_eq_true rfl)) dX7_copyFrom_104 ⟨Nat.le_of_ble_eq_true rfl, Nat.le_of_ble_eq_true rfl⟩) hD hS hA (fun σ1 μ1 H locs hw_111 hP hD hS => ?_)
    obtain ⟨ri_112, hu_113, hg_114, hp_116, hp_117, hp_118⟩ := hw_111
    obtain ⟨hu_113a, hu_113b⟩ := Prod.mk.inj hu_113
    rw [hu_113a, hu_113b] at hP hD
    replace hF := hF.trans (ap_n (vR_cp hVT hO_w_109 (by decide +kernel) (funext fun _ => (cR_r hFr hap hO_w_108 (by decide +kernel) rfl)) hp_118))
    replace hFr := fr_R hFr hO_w_109 (by decide +kernel) hp_118
    have hG := GX.tr hG hg_114 (by decide +kernel)
    refine lv_aload_n hx hb dX7_copyFrom_107 rfl (lv_at hl 0 rfl) ?_
    refine lv_aload_n hx hb dX7_copyFrom_108 rfl (lv_at hl 1 rfl) ?_
    refine pg_f (v := .int (I_3 234 a0)) (C := RX7) (T := TX7) (N := 15) hx hb hts (tw_i inlX7) hown hK hP hL_a0 hK_a0 (by decide +kernel) rfl 10 (by decide +kernel) (hts _ (tw_c tw_70)) rfl dX7_copyFrom_109 ?_
    replace hF := hF.trans (ap_n (cI_e (f := 234) hFr hap hO_a0 (by decide +kernel)))
    refine pp_i (v := (I_3 234 a0)) (ty := .int) (C := RX7) (T := TX7) (N := 15) hx hb hts (tw_i inlX7) tyX7 tyX7_ok nmX7 hown hK hP hD hS hL_this hK_this (by decide +kernel) rfl 10 234 (by decide +kernel) (hts _ (tw_c tw_70)) rfl (tyX7_ok 10 (by decide +kernel)) rfl rfl (Nat.le_of_ble_eq_true rfl) (ps_234 _ _ _ _ _) dX7_copyFrom_112 (fun I_122 H locs eI_122 hP hD hS => ?_)
    replace hFr := fr_I (f := 234) hFr hO_this (by decide +kernel) eI_122
    replace hF := hF.trans (ap_n (vI_st (f := 234) hO_this (by decide +kernel) eI_122))
    have hG := GX.wI hG 234 rfl eI_122 (rg_w (rg_full _) (by decide +kernel)) (by decide +kernel)
    refine lv_aload_n hx hb dX7_copyFrom_115 rfl (lv_at hl 0 rfl) ?_
    refine lv_aload_n hx hb dX7_copyFrom_116 rfl (lv_at hl 1 rfl) ?_
    refine pg_f (v := .int (I_122 235 a0)) (C := RX7) (T := TX7) (N := 15) hx hb hts (tw_i inlX7) hown hK hP hL_a0 hK_a0 (by decide +kernel) rfl 11 (by decide +kernel) (hts _ (tw_c tw_71)) rfl dX7_copyFrom_117 ?_
    replace hF := hF.trans (ap_n (cI_e (f := 235) hFr hap hO_a0 (by decide +kernel)))
    refine pp_i (v := (I_122 235 a0)) (ty := .int) (C := RX7) (T := TX7) (N := 15) hx hb hts (tw_i inlX7) tyX7 tyX7_ok nmX7 hown hK hP hD hS hL_this hK_this (by decide +kernel) rfl 11 235 (by decide +kernel) (hts _ (tw_c tw_71)) rfl (tyX7_ok 11 (by decide +kernel)) rfl rfl (Nat.le_of_ble_eq_true rfl) (ps_235 _ _ _ _ _) dX7_copyFrom_120 (fun I_124 H locs eI_124 hP hD hS => ?_)
    replace hFr := fr_I (f := 235) hFr hO_this (by decide +kernel) eI_124
    replace hF := hF.trans (ap_n (vI_st (f := 235) hO_this (by decide +kernel) eI_124))
    have hG := GX.wI hG 235 rfl eI_124 (rg_w (rg_full _) (by decide +kernel)) (by decide +kernel)
    refine lv_aload_n hx hb dX7_copyFrom_123 rfl (lv_at hl 0 rfl) ?_
    refine lv_aload_n hx hb dX7_copyFrom_124 rfl (lv_at hl 1 rfl) ?_
    refine pg_f (v := .int (I_124 236 a0)) (C := RX7) (T := TX7) (N := 15) hx hb hts (tw_i inlX7) hown hK hP hL_a0 hK_a0 (by decide +kernel) rfl 12 (by decide +kernel) (hts _ (tw_c tw_72)) rfl dX7_copyFrom_125 ?_
    replace hF := hF.trans (ap_n (cI_e (f := 236) hFr hap hO_a0 (by decide +kernel)))
    refine pp_i (v := (I_124 236 a0)) (ty := .int) (C := RX7) (T := TX7) (N := 15) hx hb hts (tw_i inlX7) tyX7 tyX7_ok nmX7 hown hK hP hD hS hL_this hK_this (by decide +kernel) rfl 12 236 (by decide +kernel) (hts _ (tw_c tw_72)) rfl (tyX7_ok 12 (by decide +kernel)) rfl rfl (Nat.le_of_ble_eq_true rfl) (ps_236 _ _ _ _ _) dX7_copyFrom_128 (fun I_126 H locs eI_126 hP hD hS => ?_)
    replace hFr := fr_I (f := 236) hFr hO_this (by decide +kernel) eI_126
    replace hF := hF.trans (ap_n (vI_st (f := 236) hO_this (by decide +kernel) eI_126))
    have hG := GX.wI hG 236 rfl eI_126 (rg_w (rg_full _) (by decide +kernel)) (by decide +kernel)
    refine lv_aload_n hx hb dX7_copyFrom_131 rfl (lv_at hl 0 rfl) ?_
    refine lv_aload_n hx hb dX7_copyFrom_132 rfl (lv_at hl 1 rfl) ?_
    refine pg_f (v := .int (I_126 237 a0)) (C := RX7) (T := TX7) (N := 15) hx hb hts (tw_i inlX7) hown hK hP hL_a0 hK_a0 (by decide +kernel) rfl 13 (by decide +kernel) (hts _ (tw_c tw_73)) rfl dX7_copyFrom_133 ?_
    have h_127 : rg (I_126 237 a0) 0 20 := GX.rI hG 237 rfl
    replace hF := hF.trans (ap_n (cI_e (f := 237) hFr hap hO_a0 (by decide +kernel)))
    refine pp_i (v := (I_126 237 a0)) (ty := .int) (C := RX7) (T := TX7) (N := 15) hx hb hts (tw_i inlX7) tyX7 tyX7_ok nmX7 hown hK hP hD hS hL_this hK_this (by decide +kernel) rfl 13 237 (by decide +kernel) (hts _ (tw_c tw_73)) rfl (tyX7_ok 13 (by decide +kernel)) rfl rfl (Nat.le_of_ble_eq_true rfl) (ps_237 _ _ _ _ _) dX7_copyFrom_136 (fun I_129 H locs eI_129 hP hD hS => ?_)
    replace hFr := fr_I (f := 237) hFr hO_this (by decide +kernel) eI_129
    replace hF := hF.trans (ap_n (vI_st (f := 237) hO_this (by decide +kernel) eI_129))
    have hG := GX.wI hG 237 rfl eI_129 (rg_w h_127 (by decide +kernel)) (by decide +kernel)
    refine lv_aload_n hx hb dX7_copyFrom_139 rfl (lv_at hl 0 rfl) ?_
    refine lv_aload_n hx hb dX7_copyFrom_140 rfl (lv_at hl 1 rfl) ?_
    refine pg_f (v := .int (I_129 238 a0)) (C := RX7) (T := TX7) (N := 15) hx hb hts (tw_i inlX7) hown hK hP hL_a0 hK_a0 (by decide +kernel) rfl 14 (by decide +kernel) (hts _ (tw_c tw_74)) rfl dX7_copyFrom_141 ?_
    replace hF := hF.trans (ap_n (cI_e (f := 238) hFr hap hO_a0 (by decide +kernel)))
    refine pp_i (v := (I_129 238 a0)) (ty := .int) (C := RX7) (T := TX7) (N := 15) hx hb hts (tw_i inlX7) tyX7 tyX7_ok nmX7 hown hK hP hD hS hL_this hK_this (by decide +kernel) rfl 14 238 (by decide +kernel) (hts _ (tw_c tw_74)) rfl (tyX7_ok 14 (by decide +kernel)) rfl rfl (Nat.le_of_ble_eq_true rfl) (ps_238 _ _ _ _ _) dX7_copyFrom_144 (fun I_131 H locs eI_131 hP hD hS => ?_)
    replace hFr := fr_I (f := 238) hFr hO_this (by decide +kernel) eI_131
    replace hF := hF.trans (ap_n (vI_st (f := 238) hO_this (by decide +kernel) eI_131))
    have hG := GX.wI hG 238 rfl eI_131 (rg_w (rg_full _) (by decide +kernel)) (by decide +kernel)
    subst hQ
    exact W.vret hx hb hr (fun t1 ht hW => ⟨⟨(σ, I_131, J, ri_112, rj, rq), rfl, ⟨I_131, ri_112, rfl, hG, (hF0.symm.trans hF), hFr⟩, by rw [ht]; exact hP, va_K.moved hW.alike hK, hD⟩, hS.F ht⟩) hS.2.2 dX7_copyFrom_147
  exact go _ _ _ hP hD hS hl

set_option maxRecDepth 100000 in
def g_X7_tell (a0 : Int32) (a1 : Int32) (a2 : Int32) (a3 : Int32) (I : Nat → Int32) (J : Nat → Int64) (ri : Nat → Nat → Int32) (rj : Nat → Nat → Int64) (rq : Nat → Nat → Option Nat) : Int32 × vM := (ap1 (I 224) fun (y_2 : Int32) => (if (y_2) < (200 : Int32) then (ap1 (va_up ri 225 (upd (ri 225) ((y_2)).toNatClampNeg a0)) fun (r_8 : Nat → Nat → Int32) => (ap1 (va_up r_8 226 (upd (r_8 226) ((y_2)).toNatClampNeg a1)) fun (r_10 : Nat → Nat → Int32) => (ap1 (va_up r_10 227 (upd (r_10 227) ((y_2)).toNatClampNeg a2)) fun (r_12 : Nat → Nat → Int32) => (ap1 (va_up r_12 228 (upd (r_12 228) ((y_2)).toNatClampNeg a3)) fun (r_14 : Nat → Nat → Int32) => (ap1 ((y_2) + (1 : Int32)) fun (x_15 : Int32) => (ap1 (va_up I 224 x_15) fun (I_17 : Nat → Int32) => (ap1 (I_17 224) fun (y_19 : Int32) => ((y_19), I_17, J, r_14, rj, rq)))))))) else ((-1 : Int32), I, J, ri, rj, rq)))
set_option maxRecDepth 100000 in
theorem g_X7_tell_e {a0 : Int32} {a1 : Int32} {a2 : Int32} {a3 : Int32} {I : Nat → Int32} {J : Nat → Int64} {ri : Nat → Nat → Int32} {rj : Nat → Nat → Int64} {rq : Nat → Nat → Option Nat} : g_X7_tell a0 a1 a2 a3 I J ri rj rq = (ap1 (I 224) fun (y_2 : Int32) => (if (y_2) < (200 : Int32) then (ap1 (va_up ri 225 (upd (ri 225) ((y_2)).toNatClampNeg a0)) fun (r_8 : Nat → Nat → Int32) => (ap1 (va_up r_8 226 (upd (r_8 226) ((y_2)).toNatClampNeg a1)) fun (r_10 : Nat → Nat → Int32) => (ap1 (va_up r_10 227 (upd (r_10 227) ((y_2)).toNatClampNeg a2)) fun (r_12 : Nat → Nat → Int32) => (ap1 (va_up r_12 228 (upd (r_12 228) ((y_2)).toNatClampNeg a3)) fun (r_14 : Nat → Nat → Int32) => (ap1 ((y_2) + (1 : Int32)) fun (x_15 : Int32) => (ap1 (va_up I 224 x_15) fun (I_17 : Nat → Int32) => (ap1 (I_17 224) fun (y_19 : Int32) => ((y_19), I_17, J, r_14, rj, rq)))))))) else ((-1 : Int32), I, J, ri, rj, rq))) := rfl
set_option maxHeartbeats 4000000 in
set_option maxRecDepth 100000 in
theorem s_X7_tell (l : Launch) (D : va_G) (t : pq_T) (σ : pq_S) (I : Nat → Nat → Int32) (J : Nat → Nat → Int64) (ri : Nat → Nat → Int32) (rj : Nat → Nat → Int64) (rq : Nat → Nat → Option Nat) (sz : Nat) (tg : Nat → Nat) (hSH : SH σ tg) (hG0 : GS tg σ I ri rq) (this : Nat) (a0 : Int32) (a1 : Int32) (a2 : Int32) (a3 : Int32) (hL_this : this ∈ σ.1) (hK_this : σ.2.1 this = 7) (M : Nat) (hL_M : M ∈ σ.1) (hK_M : σ.2.1 M = 10) (hO_this : this = vo σ 7 M) : MetI l yX7_tell (wa yX7_tell cX7_tell 5 (some .int)) ({ frames := 0, cells := 0, slots := 0, locals := 0 }) [.ref this, .int a0, .int a1, .int a2, .int a3] D t σ (I, J, ri, rj, rq) sz 0 0 (fun (r : Int32) (u : pq_S × pq_M) => ∃ I' : Nat → Nat → Int32, ∃ ri' : Nat → Nat → Int32, u = (σ, I', J, ri', rj, rq) ∧ GX [1225, 1226, 1227, 1228, 224] tg σ I ri rj I' ri' rj rq ∧ g_X7_tell a0 a1 a2 a3 (vI 10 σ M I) (vJ 10 σ M J) (vR 10 σ M ri) (vL 10 σ M rj) (vQ 10 σ M rq) = (r, (vI 10 σ M I'), (vJ 10 σ M J), (vR 10 σ M ri'), (vL 10 σ M rj), (vQ 10 σ M rq)) ∧ FR 10 tg σ M (I, J, ri, rj, rq) (I', J, ri', rj, rq) ∧ rg r (-1) 200) := by
  refine Met.ofW (cc := cX7_tell) (maxL := 5) (ret := (some .int)) (by decide +kernel) rfl ?_
  intro p e s m args below meth c s₁ B hml hv
  obtain ⟨rfl, hsz, hP, hK, hD0, hN⟩ := hv
  have hx := B.exec
  have hb := B.bytes
  have hr := B.returns
  have hts := atoms_spec (ws := (wa yX7_tell cX7_tell 5 (some .int))) B.pre
  have hown : s.vm.findClass RX7 = some m.cls := findClass_of_methodNamed B.named
  have hlocks := B.notSynchronized
  subst hsz
  have hD : va_D (pq_B t σ (I, J, ri, rj, rq) s.heap.size) (pq_P t σ (I, J, ri, rj, rq)) := hD0.self
  generalize hAe : pq_B t σ (I, J, ri, rj, rq) s.heap.size = A at hD ⊢
  have hA : ∀ q : Nat, s.heap.size ≤ q → A q := fun q h => by rw [← hAe]; exact Or.inr h
  have hS : va_S A s.heap s.heap [] := va_S.rf
  have hG : GX [1225, 1226, 1227, 1228, 224] tg σ I ri rj I ri rj rq := ⟨hG0, fun _ _ _ => rfl, fun _ _ _ _ _ => rfl, fun _ _ _ _ _ => rfl⟩
  have hl := lv_entry ([.ref this, .int a0, .int a1, .int a2, .int a3]) (n := 5) (Nat.le_of_ble_eq_true rfl)
  rw [lg_entry_eq]
  generalize (lg_sl ([.ref this, .int a0, .int a1, .int a2, .int a3]) ++ List.replicate (5 - (lg_sl ([.ref this, .int a0, .int a1, .int a2, .int a3])).length) Slot.unset).toArray = ls at hl ⊢
  have hl : lv_has ls 5 [(0, .ref this), (1, .int a0), (2, .int a1), (3, .int a2), (4, .int a3)] := hl
  refine q_gen (fun Q hQ => ?_)
  have go : ∀ (H : Heap) (locs : List Loc) (ls : Array Slot), va_P D vwCl (pq_P t σ (I, J, ri, rj, rq)) H → va_D A (pq_P t σ (I, J, ri, rj, rq)) → va_S A s.heap H locs → lv_has ls 5 [(0, .ref this), (1, .int a0), (2, .int a1), (3, .int a2), (4, .int a3)] → W p l e ({ frames := 0, cells := 0, slots := 0, locals := 0 } : Room) s m (List.toArray ([.ref this, .int a0, .int a1, .int a2, .int a3] : List Value)) below meth c H locs 0 0 Q (F0 m 0 ls []) := by
    intro H locs ls hP hD hS hl
    have hVT : VT 10 σ tg M := vt_10 hSH hL_M hK_M
    have hFr : FR 10 tg σ M (I, J, ri, rj, rq) (I, J, ri, rj, rq) := fr_rf
    obtain ⟨F, hF0⟩ : ∃ F, F = g_X7_tell a0 a1 a2 a3 (vI 10 σ M I) (vJ 10 σ M J) (vR 10 σ M ri) (vL 10 σ M rj) (vQ 10 σ M rq) := ⟨_, rfl⟩
    have hF := hF0.trans g_X7_tell_e
    refine lv_aload_n hx hb dX7_tell_0 rfl (lv_at hl 0 rfl) ?_
    refine pg_f (v := .int (I 224 this)) (C := RX7) (T := TX7) (N := 15) hx hb hts (tw_i inlX7) hown hK hP hL_this hK_this (by decide +kernel) rfl 0 (by decide +kernel) (hts _ (tw_c tw_254)) rfl dX7_tell_1 ?_
    have h_1 : rg (I 224 this) 0 200 := GX.rI hG 224 rfl
    replace hF := hF.trans (ap_n (vI_e (f := 224) hO_this (by decide +kernel)))
    refine lv_sipush (v := 200) hx hb dX7_tell_4 (by decide +kernel) ?_
    refine lv_icmp_lt (tgt := 12) hx hb dX7_tell_7 (by decide +kernel) (fun c_3 => ?_) (fun c_3 => ?_)
    · replace hF := hF.trans (if_pos c_3)
      have h_6 : rg (I 224 this) 0 199 := rg_lt1 c_3 h_1 (rg_k (200 : Int32) 200 rfl) (by decide +kernel)
      refine lv_aload_n hx hb dX7_tell_12 rfl (lv_at hl 0 rfl) ?_
      obtain ⟨w_7, hR_w_7, hL_w_7, hK_w_7, hN_w_7, hT_w_7⟩ := sh_a hSH 225 (ci := 7) (kd := 13) (len := 200) rfl (by decide +kernel) hL_this hK_this
      have hO_w_7 : w_7 = vrow σ 225 M := vo_k (c := 7) hO_this hR_w_7
      refine pg_f (v := .ref w_7) (C := RX7) (T := TX7) (N := 15) hx hb hts (tw_i inlX7) hown hK hP hL_this hK_this (by decide +kernel) rfl 1 (by decide +kernel) (hts _ (tw_c tw_61)) (pq_hv rfl hR_w_7) dX7_tell_13 ?_
      refine lv_aload_n hx hb dX7_tell_16 rfl (lv_at hl 0 rfl) ?_
      refine pg_f (v := .int (I 224 this)) (C := RX7) (T := TX7) (N := 15) hx hb hts (tw_i inlX7) hown hK hP hL_this hK_this (by decide +kernel) rfl 0 (by decide +kernel) (hts _ (tw_c tw_254)) rfl dX7_tell_17 ?_
      refine lv_iload_n hx hb dX7_tell_20 rfl (lv_at hl 1 rfl) ?_
      refine pt_i hx hb hK hP hD hS hL_w_7 hK_w_7 hN_w_7 (rg_in h_6 (by decide +kernel)) dX7_tell_21 (fun r_8 H locs er_8 hP hD hS => ?_)
      replace hFr := fr_R hFr hO_w_7 (by decide +kernel) er_8
      replace hF := hF.trans (ap_n (vR_st hVT hO_w_7 (by decide +kernel) er_8))
      have hG := GX.wR hG hSH hT_w_7 rfl er_8 (rg_w (rg_full _) (by decide +kernel)) (by decide +kernel)
      refine lv_aload_n hx hb dX7_tell_22 rfl (lv_at hl 0 rfl) ?_
      obtain ⟨w_9, hR_w_9, hL_w_9, hK_w_9, hN_w_9, hT_w_9⟩ := sh_a hSH 226 (ci := 7) (kd := 13) (len := 200) rfl (by decide +kernel) hL_this hK_this
      have hO_w_9 : w_9 = vrow σ 226 M := vo_k (c := 7) hO_this hR_w_9
      refine pg_f (v := .ref w_9) (C := RX7) (T := TX7) (N := 15) hx hb hts (tw_i inlX7) hown hK hP hL_this hK_this (by decide +kernel) rfl 2 (by decide +kernel) (hts _ (tw_c tw_62)) (pq_hv rfl hR_w_9) dX7_tell_23 ?_
      refine lv_aload_n hx hb dX7_tell_26 rfl (lv_at hl 0 rfl) ?_
      refine pg_f (v := .int (I 224 this)) (C := RX7) (T := TX7) (N := 15) hx hb hts (tw_i inlX7) hown hK hP hL_this hK_this (by decide +kernel) rfl 0 (by decide +kernel) (hts _ (tw_c tw_254)) rfl dX7_tell_27 ?_
      refine lv_iload_n hx hb dX7_tell_30 rfl (lv_at hl 2 rfl) ?_
      refine pt_i hx hb hK hP hD hS hL_w_9 hK_w_9 hN_w_9 (rg_in h_6 (by decide +kernel)) dX7_tell_31 (fun r_10 H locs er_10 hP hD hS => ?_)
      replace hFr := fr_R hFr hO_w_9 (by decide +kernel) er_10
      replace hF := hF.trans (ap_n (vR_st hVT hO_w_9 (by decide +kernel) er_10))
      have hG := GX.wR hG hSH hT_w_9 rfl er_10 (rg_w (rg_full _) (by decide +kernel)) (by decide +kernel)
      refine lv_aload_n hx hb dX7_tell_32 rfl (lv_at hl 0 rfl) ?_
      obtain ⟨w_11, hR_w_11, hL_w_11, hK_w_11, hN_w_11, hT_w_11⟩ := sh_a hSH 227 (ci := 7) (kd := 13) (len := 200) rfl (by decide +kernel) hL_this hK_this
      have hO_w_11 : w_11 = vrow σ 227 M := vo_k (c := 7) hO_this hR_w_11
      refine pg_f (v := .ref w_11) (C := RX7) (T := TX7) (N := 15) hx hb hts (tw_i inlX7) hown hK hP hL_this hK_this (by decide +kernel) rfl 3 (by decide +kernel) (hts _ (tw_c tw_63)) (pq_hv rfl hR_w_11) dX7_tell_33 ?_
      refine lv_aload_n hx hb dX7_tell_36 rfl (lv_at hl 0 rfl) ?_
      refine pg_f (v := .int (I 224 this)) (C := RX7) (T := TX7) (N := 15) hx hb hts (tw_i inlX7) hown hK hP hL_this hK_this (by decide +kernel) rfl 0 (by decide +kernel) (hts _ (tw_c tw_254)) rfl dX7_tell_37 ?_
      refine lv_iload_n hx hb dX7_tell_40 rfl (lv_at hl 3 rfl) ?_
      refine pt_i hx hb hK hP hD hS hL_w_11 hK_w_11 hN_w_11 (rg_in h_6 (by decide +kernel)) dX7_tell_41 (fun r_12 H locs er_12 hP hD hS => ?_)
      replace hFr := fr_R hFr hO_w_11 (by decide +kernel) er_12
      replace hF := hF.trans (ap_n (vR_st hVT hO_w_11 (by decide +kernel) er_12))
      have hG := GX.wR hG hSH hT_w_11 rfl er_12 (rg_w (rg_full _) (by decide +kernel)) (by decide +kernel)
      refine lv_aload_n hx hb dX7_tell_42 rfl (lv_at hl 0 rfl) ?_
      obtain ⟨w_13, hR_w_13, hL_w_13, hK_w_13, hN_w_13, hT_w_13⟩ := sh_a hSH 228 (ci := 7) (kd := 13) (len := 200) rfl (by decide +kernel) hL_this hK_this
      have hO_w_13 : w_13 = vrow σ 228 M := vo_k (c := 7) hO_this hR_w_13
      refine pg_f (v := .ref w_13) (C := RX7) (T := TX7) (N := 15) hx hb hts (tw_i inlX7) hown hK hP hL_this hK_this (by decide +kernel) rfl 4 (by decide +kernel) (hts _ (tw_c tw_64)) (pq_hv rfl hR_w_13) dX7_tell_43 ?_
      refine lv_aload_n hx hb dX7_tell_46 rfl (lv_at hl 0 rfl) ?_
      refine pg_f (v := .int (I 224 this)) (C := RX7) (T := TX7) (N := 15) hx hb hts (tw_i inlX7) hown hK hP hL_this hK_this (by decide +kernel) rfl 0 (by decide +kernel) (hts _ (tw_c tw_254)) rfl dX7_tell_47 ?_
      refine lv_iload hx hb dX7_tell_50 (lv_at hl 4 rfl) ?_
      refine pt_i hx hb hK hP hD hS hL_w_13 hK_w_13 hN_w_13 (rg_in h_6 (by decide +kernel)) dX7_tell_52 (fun r_14 H locs er_14 hP hD hS => ?_)
      replace hFr := fr_R hFr hO_w_13 (by decide +kernel) er_14
      replace hF := hF.trans (ap_n (vR_st hVT hO_w_13 (by decide +kernel) er_14))
      have hG := GX.wR hG hSH hT_w_13 rfl er_14 (rg_w (rg_full _) (by decide +kernel)) (by decide +kernel)
      refine lv_aload_n hx hb dX7_tell_53 rfl (lv_at hl 0 rfl) ?_
      refine lv_dup hx hb dX7_tell_54 rfl ?_
      refine pg_f (v := .int (I 224 this)) (C := RX7) (T := TX7) (N := 15) hx hb hts (tw_i inlX7) hown hK hP hL_this hK_this (by decide +kernel) rfl 0 (by decide +kernel) (hts _ (tw_c tw_254)) rfl dX7_tell_55 ?_
      refine lv_iconst (v := 1) hx hb dX7_tell_58 (by decide +kernel) ?_
      refine lv_iadd hx hb dX7_tell_59 ?_
      refine lv_topi (fun x_15 ex_15 => ?_)
      replace hF := hF.trans (ap_n ex_15)
      have h_16 : rg x_15 1 200 := rg_of_eq ex_15 (rg_add h_6 (rg_k (1 : Int32) 1 rfl) (by decide +kernel))
      refine pp_i (v := x_15) (ty := .int) (C := RX7) (T := TX7) (N := 15) hx hb hts (tw_i inlX7) tyX7 tyX7_ok nmX7 hown hK hP hD hS hL_this hK_this (by decide +kernel) rfl 0 224 (by decide +kernel) (hts _ (tw_c tw_254)) rfl (tyX7_ok 0 (by decide +kernel)) rfl rfl (Nat.le_of_ble_eq_true rfl) (ps_224 _ _ _ _ _) dX7_tell_60 (fun I_17 H locs eI_17 hP hD hS => ?_)
      replace hFr := fr_I (f := 224) hFr hO_this (by decide +kernel) eI_17
      replace hF := hF.trans (ap_n (vI_st (f := 224) hO_this (by decide +kernel) eI_17))
      have hG := GX.wI hG 224 rfl eI_17 (rg_w h_16 (by decide +kernel)) (by decide +kernel)
      refine lv_aload_n hx hb dX7_tell_63 rfl (lv_at hl 0 rfl) ?_
      refine pg_f (v := .int (I_17 224 this)) (C := RX7) (T := TX7) (N := 15) hx hb hts (tw_i inlX7) hown hK hP hL_this hK_this (by decide +kernel) rfl 0 (by decide +kernel) (hts _ (tw_c tw_254)) rfl dX7_tell_64 ?_
      have h_18 : rg (I_17 224 this) 1 200 := (by rw [eI_17, pq_us]; exact h_16)
      replace hF := hF.trans (ap_n (vI_e (f := 224) hO_this (by decide +kernel)))
      subst hQ
      exact W.iret (v := (I_17 224 this)) hx hb hr (fun t1 ht hW => ⟨⟨(I_17 224 this), (σ, I_17, J, r_14, rj, rq), rfl, ⟨I_17, r_14, rfl, hG, (hF0.symm.trans hF), hFr, (rg_w h_18 (by decide +kernel))⟩, by rw [ht]; exact hP, va_K.moved hW.alike hK, hD⟩, hS.F ht⟩) hS.2.2 dX7_tell_67
    · replace hF := hF.trans (if_neg c_3)
      have h_20 : rg (I 224 this) 200 200 := rg_le2 (nlt c_3) (rg_k (200 : Int32) 200 rfl) h_1 (by decide +kernel)
      refine lv_iconst (v := (-1)) hx hb dX7_tell_10 (by decide +kernel) ?_
      subst hQ
      exact W.iret (v := (-1)) hx hb hr (fun t1 ht hW => ⟨⟨(-1), (σ, I, J, ri, rj, rq), rfl, ⟨I, ri, rfl, hG, (hF0.symm.trans hF), hFr, (rg_w (rg_k (-1 : Int32) (-1) rfl) (by decide +kernel))⟩, by rw [ht]; exact hP, va_K.moved hW.alike hK, hD⟩, hS.F ht⟩) hS.2.2 dX7_tell_11
  exact go _ _ _ hP hD hS hl
