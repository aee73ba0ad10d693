theorem dX2_tide_0 : decode cX2_tide 0 = .ok (.aload_n 0, 1) := oc_42 (by decide +kernel)
theorem dX2_tide_1 : decode cX2_tide 1 = .ok (.lconst 0, 1) := oc_9 (by decide +kernel)
theorem dX2_tide_2 : decode cX2_tide 2 = .ok (.putfield 79, 3) := oc_181 (a := 0) (b := 79) (by decide +kernel)
theorem dX2_tide_5 : decode cX2_tide 5 = .ok (.lconst 0, 1) := oc_9 (by decide +kernel)
theorem dX2_tide_6 : decode cX2_tide 6 = .ok (.lstore 4, 2) := oc_55 (by decide +kernel)
theorem dX2_tide_8 : decode cX2_tide 8 = .ok (.iconst 0, 1) := oc_3 (by decide +kernel)
theorem dX2_tide_9 : decode cX2_tide 9 = .ok (.istore 6, 2) := oc_54 (by decide +kernel)
theorem dX2_tide_11 : decode cX2_tide 11 = .ok (.iload 6, 2) := oc_21 (by decide +kernel)
theorem dX2_tide_13 : decode cX2_tide 13 = .ok (.aload_n 0, 1) := oc_42 (by decide +kernel)
theorem dX2_tide_14 : decode cX2_tide 14 = .ok (.getfield 73, 3) := oc_180 (a := 0) (b := 73) (by decide +kernel)
theorem dX2_tide_17 : decode cX2_tide 17 = .ok (.if_icmp .ge 73, 3) := oc_162 (a := 0) (b := 73) (by decide +kernel)
theorem dX2_tide_90 : decode cX2_tide 90 = .ok (.iload_n 1, 1) := oc_27 (by decide +kernel)
theorem dX2_tide_91 : decode cX2_tide 91 = .ok (.ifCond .lt 18, 3) := oc_155 (a := 0) (b := 18) (by decide +kernel)
theorem dX2_tide_109 : decode cX2_tide 109 = .ok (.return_, 1) := oc_177 (by decide +kernel)
theorem dX2_tide_94 : decode cX2_tide 94 = .ok (.iload_n 1, 1) := oc_27 (by decide +kernel)
theorem dX2_tide_95 : decode cX2_tide 95 = .ok (.sipush 600, 3) := oc_17 (a := 2) (b := 88) (by decide +kernel)
theorem dX2_tide_98 : decode cX2_tide 98 = .ok (.if_icmp .ge 11, 3) := oc_162 (a := 0) (b := 11) (by decide +kernel)
theorem dX2_tide_101 : decode cX2_tide 101 = .ok (.aload_n 0, 1) := oc_42 (by decide +kernel)
theorem dX2_tide_102 : decode cX2_tide 102 = .ok (.getfield 9, 3) := oc_180 (a := 0) (b := 9) (by decide +kernel)
theorem dX2_tide_105 : decode cX2_tide 105 = .ok (.iload_n 1, 1) := oc_27 (by decide +kernel)
theorem dX2_tide_106 : decode cX2_tide 106 = .ok (.lload 4, 2) := oc_22 (by decide +kernel)
theorem dX2_tide_108 : decode cX2_tide 108 = .ok (.lastore, 1) := oc_80 (by decide +kernel)
theorem dX2_tide_20 : decode cX2_tide 20 = .ok (.aload_n 0, 1) := oc_42 (by decide +kernel)
theorem dX2_tide_21 : decode cX2_tide 21 = .ok (.iload 6, 2) := oc_21 (by decide +kernel)
theorem tw_1074 : Cond.methodLink RX2 114 yX2_topOf ∈ wsL_law := sg_45 _ (List.mem_of_getElem? (i := 18) rfl)
theorem tw_1075 : Cond.instanceMethod yX2_topOf ∈ wsL_law := sg_45 _ (List.mem_of_getElem? (i := 19) rfl)
theorem tw_1076 : Cond.selects RX2 yX2_topOf yX2_topOf ∈ wsL_law := sg_45 _ (List.mem_of_getElem? (i := 20) rfl)
theorem tw_1077 : Cond.code yX2_topOf cX2_topOf 2 (some .int) ∈ wsL_law := sg_45 _ (List.mem_of_getElem? (i := 21) rfl)
theorem dX2_tide_23 : decode cX2_tide 23 = .ok (.invokevirtual 114, 3) := oc_182 (a := 0) (b := 114) (by decide +kernel)
theorem dX2_tide_26 : decode cX2_tide 26 = .ok (.istore 7, 2) := oc_54 (by decide +kernel)
theorem dX2_tide_28 : decode cX2_tide 28 = .ok (.iload 7, 2) := oc_21 (by decide +kernel)
theorem dX2_tide_30 : decode cX2_tide 30 = .ok (.iload_n 3, 1) := oc_29 (by decide +kernel)
theorem dX2_tide_43 : decode cX2_tide 43 = .ok (.iload 7, 2) := oc_21 (by decide +kernel)
theorem dX2_tide_45 : decode cX2_tide 45 = .ok (.iload_n 2, 1) := oc_28 (by decide +kernel)
theorem dX2_tide_84 : decode cX2_tide 84 = .ok (.iinc 6 1, 3) := oc_132 (b := 1) (by decide +kernel)
theorem dX2_tide_87 : decode cX2_tide 87 = .ok (.goto (-76), 3) := oc_167 (a := 255) (b := 180) (by decide +kernel)
theorem dX2_tide_46 : decode cX2_tide 46 = .ok (.if_icmp .le 27, 3) := oc_164 (a := 0) (b := 27) (by decide +kernel)
theorem dX2_tide_73 : decode cX2_tide 73 = .ok (.aload_n 0, 1) := oc_42 (by decide +kernel)
theorem dX2_tide_74 : decode cX2_tide 74 = .ok (.getfield 40, 3) := oc_180 (a := 0) (b := 40) (by decide +kernel)
theorem dX2_tide_77 : decode cX2_tide 77 = .ok (.iload 6, 2) := oc_21 (by decide +kernel)
theorem dX2_tide_79 : decode cX2_tide 79 = .ok (.dup2, 1) := oc_92 (by decide +kernel)
theorem dX2_tide_80 : decode cX2_tide 80 = .ok (.iaload, 1) := oc_46 (by decide +kernel)
theorem dX2_tide_81 : decode cX2_tide 81 = .ok (.iconst 1, 1) := oc_4 (by decide +kernel)
theorem dX2_tide_82 : decode cX2_tide 82 = .ok (.iadd, 1) := oc_96 (by decide +kernel)
theorem dX2_tide_83 : decode cX2_tide 83 = .ok (.iastore, 1) := oc_79 (by decide +kernel)
theorem dX2_tide_49 : decode cX2_tide 49 = .ok (.aload_n 0, 1) := oc_42 (by decide +kernel)
theorem dX2_tide_50 : decode cX2_tide 50 = .ok (.dup, 1) := oc_89 (by decide +kernel)
theorem dX2_tide_51 : decode cX2_tide 51 = .ok (.getfield 79, 3) := oc_180 (a := 0) (b := 79) (by decide +kernel)
theorem dX2_tide_54 : decode cX2_tide 54 = .ok (.lconst 1, 1) := oc_10 (by decide +kernel)
theorem dX2_tide_55 : decode cX2_tide 55 = .ok (.iload 6, 2) := oc_21 (by decide +kernel)
theorem dX2_tide_57 : decode cX2_tide 57 = .ok (.lshl, 1) := oc_121 (by decide +kernel)
theorem dX2_tide_58 : decode cX2_tide 58 = .ok (.lor, 1) := oc_129 (by decide +kernel)
theorem dX2_tide_59 : decode cX2_tide 59 = .ok (.putfield 79, 3) := oc_181 (a := 0) (b := 79) (by decide +kernel)
theorem dX2_tide_62 : decode cX2_tide 62 = .ok (.aload_n 0, 1) := oc_42 (by decide +kernel)
theorem dX2_tide_63 : decode cX2_tide 63 = .ok (.getfield 40, 3) := oc_180 (a := 0) (b := 40) (by decide +kernel)
theorem dX2_tide_66 : decode cX2_tide 66 = .ok (.iload 6, 2) := oc_21 (by decide +kernel)
theorem dX2_tide_68 : decode cX2_tide 68 = .ok (.iconst 0, 1) := oc_3 (by decide +kernel)
theorem dX2_tide_69 : decode cX2_tide 69 = .ok (.iastore, 1) := oc_79 (by decide +kernel)
theorem dX2_tide_70 : decode cX2_tide 70 = .ok (.goto 14, 3) := oc_167 (a := 0) (b := 14) (by decide +kernel)
theorem dX2_tide_31 : decode cX2_tide 31 = .ok (.if_icmp .le 12, 3) := oc_164 (a := 0) (b := 12) (by decide +kernel)
theorem dX2_tide_34 : decode cX2_tide 34 = .ok (.lload 4, 2) := oc_22 (by decide +kernel)
theorem dX2_tide_36 : decode cX2_tide 36 = .ok (.lconst 1, 1) := oc_10 (by decide +kernel)
theorem dX2_tide_37 : decode cX2_tide 37 = .ok (.iload 6, 2) := oc_21 (by decide +kernel)
theorem dX2_tide_39 : decode cX2_tide 39 = .ok (.lshl, 1) := oc_121 (by decide +kernel)
theorem dX2_tide_40 : decode cX2_tide 40 = .ok (.lor, 1) := oc_129 (by decide +kernel)
theorem dX2_tide_41 : decode cX2_tide 41 = .ok (.lstore 4, 2) := oc_55 (by decide +kernel)
theorem dX2_giveUpBeds_0 : decode cX2_giveUpBeds 0 = .ok (.iconst 0, 1) := oc_3 (by decide +kernel)
theorem dX2_giveUpBeds_1 : decode cX2_giveUpBeds 1 = .ok (.istore_n 1, 1) := oc_60 (by decide +kernel)
theorem dX2_giveUpBeds_2 : decode cX2_giveUpBeds 2 = .ok (.iload_n 1, 1) := oc_27 (by decide +kernel)
theorem dX2_giveUpBeds_3 : decode cX2_giveUpBeds 3 = .ok (.aload_n 0, 1) := oc_42 (by decide +kernel)
theorem dX2_giveUpBeds_4 : decode cX2_giveUpBeds 4 = .ok (.getfield 73, 3) := oc_180 (a := 0) (b := 73) (by decide +kernel)
theorem dX2_giveUpBeds_7 : decode cX2_giveUpBeds 7 = .ok (.if_icmp .ge 24, 3) := oc_162 (a := 0) (b := 24) (by decide +kernel)
theorem dX2_giveUpBeds_31 : decode cX2_giveUpBeds 31 = .ok (.return_, 1) := oc_177 (by decide +kernel)
theorem dX2_giveUpBeds_10 : decode cX2_giveUpBeds 10 = .ok (.aload_n 0, 1) := oc_42 (by decide +kernel)
theorem dX2_giveUpBeds_11 : decode cX2_giveUpBeds 11 = .ok (.iload_n 1, 1) := oc_27 (by decide +kernel)
theorem tw_1082 : Cond.methodLink RX2 118 yX2_isDry ∈ wsL_law := sg_46 _ (List.mem_of_getElem? (i := 2) rfl)
theorem tw_555 : Cond.instanceMethod yX2_isDry ∈ wsL_law := sg_24 _ (List.mem_of_getElem? (i := 3) rfl)
theorem tw_556 : Cond.selects RX2 yX2_isDry yX2_isDry ∈ wsL_law := sg_24 _ (List.mem_of_getElem? (i := 4) rfl)
theorem tw_557 : Cond.code yX2_isDry cX2_isDry 2 (some .boolean) ∈ wsL_law := sg_24 _ (List.mem_of_getElem? (i := 5) rfl)
theorem dX2_giveUpBeds_12 : decode cX2_giveUpBeds 12 = .ok (.invokevirtual 118, 3) := oc_182 (a := 0) (b := 118) (by decide +kernel)
theorem dX2_giveUpBeds_25 : decode cX2_giveUpBeds 25 = .ok (.iinc 1 1, 3) := oc_132 (b := 1) (by decide +kernel)
theorem dX2_giveUpBeds_28 : decode cX2_giveUpBeds 28 = .ok (.goto (-26), 3) := oc_167 (a := 255) (b := 230) (by decide +kernel)
theorem dX2_giveUpBeds_15 : decode cX2_giveUpBeds 15 = .ok (.ifCond .ne 10, 3) := oc_154 (a := 0) (b := 10) (by decide +kernel)
theorem dX2_giveUpBeds_18 : decode cX2_giveUpBeds 18 = .ok (.aload_n 0, 1) := oc_42 (by decide +kernel)
theorem dX2_giveUpBeds_19 : decode cX2_giveUpBeds 19 = .ok (.getfield 37, 3) := oc_180 (a := 0) (b := 37) (by decide +kernel)
theorem dX2_giveUpBeds_22 : decode cX2_giveUpBeds 22 = .ok (.iload_n 1, 1) := oc_27 (by decide +kernel)
theorem dX2_giveUpBeds_23 : decode cX2_giveUpBeds 23 = .ok (.iconst 0, 1) := oc_3 (by decide +kernel)
theorem dX2_giveUpBeds_24 : decode cX2_giveUpBeds 24 = .ok (.iastore, 1) := oc_79 (by decide +kernel)
theorem dX2_countWalls_0 : decode cX2_countWalls 0 = .ok (.iconst 0, 1) := oc_3 (by decide +kernel)
theorem dX2_countWalls_1 : decode cX2_countWalls 1 = .ok (.istore_n 1, 1) := oc_60 (by decide +kernel)
theorem dX2_countWalls_2 : decode cX2_countWalls 2 = .ok (.iconst 0, 1) := oc_3 (by decide +kernel)
theorem dX2_countWalls_3 : decode cX2_countWalls 3 = .ok (.istore_n 2, 1) := oc_61 (by decide +kernel)
theorem dX2_countWalls_4 : decode cX2_countWalls 4 = .ok (.iload_n 2, 1) := oc_28 (by decide +kernel)
theorem dX2_countWalls_5 : decode cX2_countWalls 5 = .ok (.aload_n 0, 1) := oc_42 (by decide +kernel)
theorem dX2_countWalls_6 : decode cX2_countWalls 6 = .ok (.getfield 73, 3) := oc_180 (a := 0) (b := 73) (by decide +kernel)
theorem dX2_countWalls_9 : decode cX2_countWalls 9 = .ok (.if_icmp .ge 21, 3) := oc_162 (a := 0) (b := 21) (by decide +kernel)
theorem dX2_countWalls_30 : decode cX2_countWalls 30 = .ok (.iload_n 1, 1) := oc_27 (by decide +kernel)
theorem dX2_countWalls_31 : decode cX2_countWalls 31 = .ok (.ireturn, 1) := oc_172 (by decide +kernel)
theorem dX2_countWalls_12 : decode cX2_countWalls 12 = .ok (.aload_n 0, 1) := oc_42 (by decide +kernel)
theorem dX2_countWalls_13 : decode cX2_countWalls 13 = .ok (.getfield 34, 3) := oc_180 (a := 0) (b := 34) (by decide +kernel)
theorem dX2_countWalls_16 : decode cX2_countWalls 16 = .ok (.iload_n 2, 1) := oc_28 (by decide +kernel)
theorem dX2_countWalls_17 : decode cX2_countWalls 17 = .ok (.iaload, 1) := oc_46 (by decide +kernel)
theorem dX2_countWalls_24 : decode cX2_countWalls 24 = .ok (.iinc 2 1, 3) := oc_132 (b := 1) (by decide +kernel)
theorem dX2_countWalls_27 : decode cX2_countWalls 27 = .ok (.goto (-23), 3) := oc_167 (a := 255) (b := 233) (by decide +kernel)
theorem dX2_countWalls_18 : decode cX2_countWalls 18 = .ok (.ifCond .le 6, 3) := oc_158 (a := 0) (b := 6) (by decide +kernel)
theorem dX2_countWalls_21 : decode cX2_countWalls 21 = .ok (.iinc 1 1, 3) := oc_132 (b := 1) (by decide +kernel)
theorem dX2_measure_0 : decode cX2_measure 0 = .ok (.iload_n 1, 1) := oc_27 (by decide +kernel)
theorem dX2_measure_1 : decode cX2_measure 1 = .ok (.istore_n 2, 1) := oc_61 (by decide +kernel)
theorem dX2_measure_2 : decode cX2_measure 2 = .ok (.iconst 0, 1) := oc_3 (by decide +kernel)
theorem dX2_measure_3 : decode cX2_measure 3 = .ok (.istore_n 3, 1) := oc_62 (by decide +kernel)
theorem dX2_measure_4 : decode cX2_measure 4 = .ok (.iload_n 3, 1) := oc_29 (by decide +kernel)
theorem dX2_measure_5 : decode cX2_measure 5 = .ok (.iload_n 1, 1) := oc_27 (by decide +kernel)
theorem dX2_measure_6 : decode cX2_measure 6 = .ok (.if_icmp .gt 48, 3) := oc_163 (a := 0) (b := 48) (by decide +kernel)
theorem dX2_measure_54 : decode cX2_measure 54 = .ok (.return_, 1) := oc_177 (by decide +kernel)
theorem dX2_measure_9 : decode cX2_measure 9 = .ok (.iload_n 3, 1) := oc_29 (by decide +kernel)
theorem dX2_measure_10 : decode cX2_measure 10 = .ok (.aload_n 0, 1) := oc_42 (by decide +kernel)
theorem tw_100 : Cond.fieldLink RX2 62 "RingsUnder$Land" "widths" "[I" ∈ wsL_law := sg_5 _ (List.mem_of_getElem? (i := 4) rfl)
theorem dX2_measure_11 : decode cX2_measure 11 = .ok (.getfield 62, 3) := oc_180 (a := 0) (b := 62) (by decide +kernel)
theorem dX2_measure_14 : decode cX2_measure 14 = .ok (.arraylength, 1) := oc_190 (by decide +kernel)
theorem dX2_measure_15 : decode cX2_measure 15 = .ok (.if_icmp .ge 39, 3) := oc_162 (a := 0) (b := 39) (by decide +kernel)
theorem dX2_measure_18 : decode cX2_measure 18 = .ok (.iload_n 2, 1) := oc_28 (by decide +kernel)
theorem dX2_measure_41 : decode cX2_measure 41 = .ok (.aload_n 0, 1) := oc_42 (by decide +kernel)
theorem dX2_measure_42 : decode cX2_measure 42 = .ok (.getfield 62, 3) := oc_180 (a := 0) (b := 62) (by decide +kernel)
theorem dX2_measure_45 : decode cX2_measure 45 = .ok (.iload_n 3, 1) := oc_29 (by decide +kernel)
theorem dX2_measure_46 : decode cX2_measure 46 = .ok (.iload_n 2, 1) := oc_28 (by decide +kernel)
theorem dX2_measure_47 : decode cX2_measure 47 = .ok (.iastore, 1) := oc_79 (by decide +kernel)
theorem dX2_measure_48 : decode cX2_measure 48 = .ok (.iinc 3 1, 3) := oc_132 (b := 1) (by decide +kernel)
theorem dX2_measure_51 : decode cX2_measure 51 = .ok (.goto (-47), 3) := oc_167 (a := 255) (b := 209) (by decide +kernel)
theorem dX2_measure_19 : decode cX2_measure 19 = .ok (.ifCond .le 22, 3) := oc_158 (a := 0) (b := 22) (by decide +kernel)
theorem dX2_measure_22 : decode cX2_measure 22 = .ok (.iload_n 2, 1) := oc_28 (by decide +kernel)
theorem dX2_measure_23 : decode cX2_measure 23 = .ok (.iload_n 2, 1) := oc_28 (by decide +kernel)
theorem dX2_measure_24 : decode cX2_measure 24 = .ok (.imul, 1) := oc_104 (by decide +kernel)
theorem dX2_measure_25 : decode cX2_measure 25 = .ok (.iload_n 3, 1) := oc_29 (by decide +kernel)
theorem dX2_measure_26 : decode cX2_measure 26 = .ok (.iload_n 3, 1) := oc_29 (by decide +kernel)
theorem dX2_measure_27 : decode cX2_measure 27 = .ok (.imul, 1) := oc_104 (by decide +kernel)
theorem dX2_measure_28 : decode cX2_measure 28 = .ok (.iadd, 1) := oc_96 (by decide +kernel)
theorem dX2_measure_29 : decode cX2_measure 29 = .ok (.iload_n 1, 1) := oc_27 (by decide +kernel)
theorem dX2_measure_30 : decode cX2_measure 30 = .ok (.iload_n 1, 1) := oc_27 (by decide +kernel)
theorem dX2_measure_31 : decode cX2_measure 31 = .ok (.imul, 1) := oc_104 (by decide +kernel)
theorem dX2_measure_32 : decode cX2_measure 32 = .ok (.if_icmp .le 9, 3) := oc_164 (a := 0) (b := 9) (by decide +kernel)
theorem dX2_measure_35 : decode cX2_measure 35 = .ok (.iinc 2 (-1), 3) := oc_132 (b := 255) (by decide +kernel)
theorem dX2_measure_38 : decode cX2_measure 38 = .ok (.goto (-20), 3) := oc_167 (a := 255) (b := 236) (by decide +kernel)
theorem dJ6_bitCount_0f7a4_0 : decode cJ6_bitCount_0f7a4 0 = .ok (.iload_n 0, 1) := oc_26 (by decide +kernel)
theorem dJ6_bitCount_0f7a4_1 : decode cJ6_bitCount_0f7a4 1 = .ok (.iload_n 0, 1) := oc_26 (by decide +kernel)
theorem dJ6_bitCount_0f7a4_2 : decode cJ6_bitCount_0f7a4 2 = .ok (.iconst 1, 1) := oc_4 (by decide +kernel)
theorem dJ6_bitCount_0f7a4_3 : decode cJ6_bitCount_0f7a4 3 = .ok (.iushr, 1) := oc_124 (by decide +kernel)
theorem tw_1150 : Cond.constant RJ6 265 (1431655765) ∈ wsL_law := sg_48 _ (List.mem_of_getElem? (i := 22) rfl)
theorem dJ6_bitCount_0f7a4_4 : decode cJ6_bitCount_0f7a4 4 = .ok (.ldc_w 265, 3) := oc_19 (a := 1) (b := 9) (by decide +kernel)
theorem dJ6_bitCount_0f7a4_7 : decode cJ6_bitCount_0f7a4 7 = .ok (.iand, 1) := oc_126 (by decide +kernel)
theorem dJ6_bitCount_0f7a4_8 : decode cJ6_bitCount_0f7a4 8 = .ok (.isub, 1) := oc_100 (by decide +kernel)
theorem dJ6_bitCount_0f7a4_9 : decode cJ6_bitCount_0f7a4 9 = .ok (.istore_n 0, 1) := oc_59 (by decide +kernel)
theorem dJ6_bitCount_0f7a4_10 : decode cJ6_bitCount_0f7a4 10 = .ok (.iload_n 0, 1) := oc_26 (by decide +kernel)
theorem tw_1151 : Cond.constant RJ6 266 (858993459) ∈ wsL_law := sg_48 _ (List.mem_of_getElem? (i := 23) rfl)
theorem dJ6_bitCount_0f7a4_11 : decode cJ6_bitCount_0f7a4 11 = .ok (.ldc_w 266, 3) := oc_19 (a := 1) (b := 10) (by decide +kernel)
theorem dJ6_bitCount_0f7a4_14 : decode cJ6_bitCount_0f7a4 14 = .ok (.iand, 1) := oc_126 (by decide +kernel)
theorem dJ6_bitCount_0f7a4_15 : decode cJ6_bitCount_0f7a4 15 = .ok (.iload_n 0, 1) := oc_26 (by decide +kernel)
theorem dJ6_bitCount_0f7a4_16 : decode cJ6_bitCount_0f7a4 16 = .ok (.iconst 2, 1) := oc_5 (by decide +kernel)
theorem dJ6_bitCount_0f7a4_17 : decode cJ6_bitCount_0f7a4 17 = .ok (.iushr, 1) := oc_124 (by decide +kernel)
theorem dJ6_bitCount_0f7a4_18 : decode cJ6_bitCount_0f7a4 18 = .ok (.ldc_w 266, 3) := oc_19 (a := 1) (b := 10) (by decide +kernel)
theorem dJ6_bitCount_0f7a4_21 : decode cJ6_bitCount_0f7a4 21 = .ok (.iand, 1) := oc_126 (by decide +kernel)
theorem dJ6_bitCount_0f7a4_22 : decode cJ6_bitCount_0f7a4 22 = .ok (.iadd, 1) := oc_96 (by decide +kernel)
theorem dJ6_bitCount_0f7a4_23 : decode cJ6_bitCount_0f7a4 23 = .ok (.istore_n 0, 1) := oc_59 (by decide +kernel)
theorem dJ6_bitCount_0f7a4_24 : decode cJ6_bitCount_0f7a4 24 = .ok (.iload_n 0, 1) := oc_26 (by decide +kernel)
theorem dJ6_bitCount_0f7a4_25 : decode cJ6_bitCount_0f7a4 25 = .ok (.iload_n 0, 1) := oc_26 (by decide +kernel)
theorem dJ6_bitCount_0f7a4_26 : decode cJ6_bitCount_0f7a4 26 = .ok (.iconst 4, 1) := oc_7 (by decide +kernel)
theorem dJ6_bitCount_0f7a4_27 : decode cJ6_bitCount_0f7a4 27 = .ok (.iushr, 1) := oc_124 (by decide +kernel)
theorem dJ6_bitCount_0f7a4_28 : decode cJ6_bitCount_0f7a4 28 = .ok (.iadd, 1) := oc_96 (by decide +kernel)
theorem tw_1152 : Cond.constant RJ6 267 (252645135) ∈ wsL_law := sg_49 _ (List.mem_of_getElem? (i := 0) rfl)
theorem dJ6_bitCount_0f7a4_29 : decode cJ6_bitCount_0f7a4 29 = .ok (.ldc_w 267, 3) := oc_19 (a := 1) (b := 11) (by decide +kernel)
theorem dJ6_bitCount_0f7a4_32 : decode cJ6_bitCount_0f7a4 32 = .ok (.iand, 1) := oc_126 (by decide +kernel)
theorem dJ6_bitCount_0f7a4_33 : decode cJ6_bitCount_0f7a4 33 = .ok (.istore_n 0, 1) := oc_59 (by decide +kernel)
theorem dJ6_bitCount_0f7a4_34 : decode cJ6_bitCount_0f7a4 34 = .ok (.iload_n 0, 1) := oc_26 (by decide +kernel)
theorem dJ6_bitCount_0f7a4_35 : decode cJ6_bitCount_0f7a4 35 = .ok (.iload_n 0, 1) := oc_26 (by decide +kernel)
theorem dJ6_bitCount_0f7a4_36 : decode cJ6_bitCount_0f7a4 36 = .ok (.bipush 8, 2) := oc_16 (a := 8) (by decide +kernel)
theorem dJ6_bitCount_0f7a4_38 : decode cJ6_bitCount_0f7a4 38 = .ok (.iushr, 1) := oc_124 (by decide +kernel)
theorem dJ6_bitCount_0f7a4_39 : decode cJ6_bitCount_0f7a4 39 = .ok (.iadd, 1) := oc_96 (by decide +kernel)
theorem dJ6_bitCount_0f7a4_40 : decode cJ6_bitCount_0f7a4 40 = .ok (.istore_n 0, 1) := oc_59 (by decide +kernel)
theorem dJ6_bitCount_0f7a4_41 : decode cJ6_bitCount_0f7a4 41 = .ok (.iload_n 0, 1) := oc_26 (by decide +kernel)
theorem dJ6_bitCount_0f7a4_42 : decode cJ6_bitCount_0f7a4 42 = .ok (.iload_n 0, 1) := oc_26 (by decide +kernel)
theorem dJ6_bitCount_0f7a4_43 : decode cJ6_bitCount_0f7a4 43 = .ok (.bipush 16, 2) := oc_16 (a := 16) (by decide +kernel)
theorem dJ6_bitCount_0f7a4_45 : decode cJ6_bitCount_0f7a4 45 = .ok (.iushr, 1) := oc_124 (by decide +kernel)
theorem dJ6_bitCount_0f7a4_46 : decode cJ6_bitCount_0f7a4 46 = .ok (.iadd, 1) := oc_96 (by decide +kernel)
theorem dJ6_bitCount_0f7a4_47 : decode cJ6_bitCount_0f7a4 47 = .ok (.istore_n 0, 1) := oc_59 (by decide +kernel)
theorem dJ6_bitCount_0f7a4_48 : decode cJ6_bitCount_0f7a4 48 = .ok (.iload_n 0, 1) := oc_26 (by decide +kernel)
theorem dJ6_bitCount_0f7a4_49 : decode cJ6_bitCount_0f7a4 49 = .ok (.bipush 63, 2) := oc_16 (a := 63) (by decide +kernel)
theorem dJ6_bitCount_0f7a4_51 : decode cJ6_bitCount_0f7a4 51 = .ok (.iand, 1) := oc_126 (by decide +kernel)
theorem dJ6_bitCount_0f7a4_52 : decode cJ6_bitCount_0f7a4 52 = .ok (.ireturn, 1) := oc_172 (by decide +kernel)
theorem dX2_mark_0 : decode cX2_mark 0 = .ok (.iconst 0, 1) := oc_3 (by decide +kernel)
theorem dX2_mark_1 : decode cX2_mark 1 = .ok (.iload_n 2, 1) := oc_28 (by decide +kernel)
theorem dX2_mark_2 : decode cX2_mark 2 = .ok (.iload_n 3, 1) := oc_29 (by decide +kernel)
theorem dX2_mark_3 : decode cX2_mark 3 = .ok (.isub, 1) := oc_100 (by decide +kernel)
theorem dX2_mark_4 : decode cX2_mark 4 = .ok (.invokestatic 111, 3) := oc_184 (a := 0) (b := 111) (by decide +kernel)
theorem dX2_mark_7 : decode cX2_mark 7 = .ok (.istore 4, 2) := oc_54 (by decide +kernel)
theorem dX2_mark_9 : decode cX2_mark 9 = .ok (.bipush 31, 2) := oc_16 (a := 31) (by decide +kernel)
theorem dX2_mark_11 : decode cX2_mark 11 = .ok (.iload_n 2, 1) := oc_28 (by decide +kernel)
theorem dX2_mark_12 : decode cX2_mark 12 = .ok (.iload_n 3, 1) := oc_29 (by decide +kernel)
theorem dX2_mark_13 : decode cX2_mark 13 = .ok (.iadd, 1) := oc_96 (by decide +kernel)
theorem dX2_mark_14 : decode cX2_mark 14 = .ok (.invokestatic 105, 3) := oc_184 (a := 0) (b := 105) (by decide +kernel)
theorem dX2_mark_17 : decode cX2_mark 17 = .ok (.istore 5, 2) := oc_54 (by decide +kernel)
theorem dX2_mark_19 : decode cX2_mark 19 = .ok (.iload 4, 2) := oc_21 (by decide +kernel)
theorem dX2_mark_21 : decode cX2_mark 21 = .ok (.istore 6, 2) := oc_54 (by decide +kernel)
theorem dX2_mark_23 : decode cX2_mark 23 = .ok (.iload 6, 2) := oc_21 (by decide +kernel)
theorem dX2_mark_25 : decode cX2_mark 25 = .ok (.iload 5, 2) := oc_21 (by decide +kernel)
theorem dX2_mark_27 : decode cX2_mark 27 = .ok (.if_icmp .gt 81, 3) := oc_163 (a := 0) (b := 81) (by decide +kernel)
theorem dX2_mark_108 : decode cX2_mark 108 = .ok (.return_, 1) := oc_177 (by decide +kernel)
theorem dX2_mark_30 : decode cX2_mark 30 = .ok (.iload 6, 2) := oc_21 (by decide +kernel)
theorem dX2_mark_32 : decode cX2_mark 32 = .ok (.iload_n 2, 1) := oc_28 (by decide +kernel)
theorem dX2_mark_33 : decode cX2_mark 33 = .ok (.isub, 1) := oc_100 (by decide +kernel)
theorem tw_1146 : Cond.methodLink RX2 138 Lib.Math.abs.name ∈ wsL_law := sg_48 _ (List.mem_of_getElem? (i := 18) rfl)
theorem tw_484 : Cond.static Lib.Math.abs.name ∈ wsL_law := sg_21 _ (List.mem_of_getElem? (i := 4) rfl)
theorem tw_485 : Cond.code Lib.Math.abs.name Lib.Math.abs.code 1 (some .int) ∈ wsL_law := sg_21 _ (List.mem_of_getElem? (i := 5) rfl)
theorem dX2_mark_34 : decode cX2_mark 34 = .ok (.invokestatic 138, 3) := oc_184 (a := 0) (b := 138) (by decide +kernel)
theorem dX2_mark_37 : decode cX2_mark 37 = .ok (.istore 7, 2) := oc_54 (by decide +kernel)
theorem dX2_mark_39 : decode cX2_mark 39 = .ok (.iload 7, 2) := oc_21 (by decide +kernel)
theorem dX2_mark_41 : decode cX2_mark 41 = .ok (.aload_n 0, 1) := oc_42 (by decide +kernel)
theorem dX2_mark_42 : decode cX2_mark 42 = .ok (.getfield 62, 3) := oc_180 (a := 0) (b := 62) (by decide +kernel)
theorem dX2_mark_45 : decode cX2_mark 45 = .ok (.arraylength, 1) := oc_190 (by decide +kernel)
theorem dX2_mark_102 : decode cX2_mark 102 = .ok (.iinc 6 1, 3) := oc_132 (b := 1) (by decide +kernel)
theorem dX2_mark_105 : decode cX2_mark 105 = .ok (.goto (-82), 3) := oc_167 (a := 255) (b := 174) (by decide +kernel)
theorem dX2_mark_46 : decode cX2_mark 46 = .ok (.if_icmp .ge 56, 3) := oc_162 (a := 0) (b := 56) (by decide +kernel)
theorem dX2_mark_49 : decode cX2_mark 49 = .ok (.iconst 0, 1) := oc_3 (by decide +kernel)
theorem dX2_mark_50 : decode cX2_mark 50 = .ok (.iload_n 1, 1) := oc_27 (by decide +kernel)
theorem dX2_mark_51 : decode cX2_mark 51 = .ok (.aload_n 0, 1) := oc_42 (by decide +kernel)
theorem dX2_mark_52 : decode cX2_mark 52 = .ok (.getfield 62, 3) := oc_180 (a := 0) (b := 62) (by decide +kernel)
theorem dX2_mark_55 : decode cX2_mark 55 = .ok (.iload 7, 2) := oc_21 (by decide +kernel)
theorem dX2_mark_57 : decode cX2_mark 57 = .ok (.iaload, 1) := oc_46 (by decide +kernel)
theorem dX2_mark_58 : decode cX2_mark 58 = .ok (.isub, 1) := oc_100 (by decide +kernel)
theorem dX2_mark_59 : decode cX2_mark 59 = .ok (.invokestatic 111, 3) := oc_184 (a := 0) (b := 111) (by decide +kernel)
theorem dX2_mark_62 : decode cX2_mark 62 = .ok (.istore 8, 2) := oc_54 (by decide +kernel)
theorem dX2_mark_64 : decode cX2_mark 64 = .ok (.bipush 31, 2) := oc_16 (a := 31) (by decide +kernel)
theorem dX2_mark_66 : decode cX2_mark 66 = .ok (.iload_n 1, 1) := oc_27 (by decide +kernel)
theorem dX2_mark_67 : decode cX2_mark 67 = .ok (.aload_n 0, 1) := oc_42 (by decide +kernel)
theorem dX2_mark_68 : decode cX2_mark 68 = .ok (.getfield 62, 3) := oc_180 (a := 0) (b := 62) (by decide +kernel)
theorem dX2_mark_71 : decode cX2_mark 71 = .ok (.iload 7, 2) := oc_21 (by decide +kernel)
theorem dX2_mark_73 : decode cX2_mark 73 = .ok (.iaload, 1) := oc_46 (by decide +kernel)
theorem dX2_mark_74 : decode cX2_mark 74 = .ok (.iadd, 1) := oc_96 (by decide +kernel)
theorem dX2_mark_75 : decode cX2_mark 75 = .ok (.invokestatic 105, 3) := oc_184 (a := 0) (b := 105) (by decide +kernel)
theorem dX2_mark_78 : decode cX2_mark 78 = .ok (.istore 9, 2) := oc_54 (by decide +kernel)
theorem dX2_mark_80 : decode cX2_mark 80 = .ok (.aload_n 0, 1) := oc_42 (by decide +kernel)
theorem tw_99 : Cond.fieldLink RX2 59 "RingsUnder$Land" "rows" "[I" ∈ wsL_law := sg_5 _ (List.mem_of_getElem? (i := 3) rfl)
theorem dX2_mark_81 : decode cX2_mark 81 = .ok (.getfield 59, 3) := oc_180 (a := 0) (b := 59) (by decide +kernel)
theorem dX2_mark_84 : decode cX2_mark 84 = .ok (.iload 6, 2) := oc_21 (by decide +kernel)
theorem dX2_mark_86 : decode cX2_mark 86 = .ok (.dup2, 1) := oc_92 (by decide +kernel)
theorem dX2_mark_87 : decode cX2_mark 87 = .ok (.iaload, 1) := oc_46 (by decide +kernel)
theorem dX2_mark_88 : decode cX2_mark 88 = .ok (.iconst (-1), 1) := oc_2 (by decide +kernel)
theorem dX2_mark_89 : decode cX2_mark 89 = .ok (.iload 8, 2) := oc_21 (by decide +kernel)
theorem dX2_mark_91 : decode cX2_mark 91 = .ok (.ishl, 1) := oc_120 (by decide +kernel)
theorem dX2_mark_92 : decode cX2_mark 92 = .ok (.iconst (-1), 1) := oc_2 (by decide +kernel)
theorem dX2_mark_93 : decode cX2_mark 93 = .ok (.bipush 31, 2) := oc_16 (a := 31) (by decide +kernel)
theorem dX2_mark_95 : decode cX2_mark 95 = .ok (.iload 9, 2) := oc_21 (by decide +kernel)
theorem dX2_mark_97 : decode cX2_mark 97 = .ok (.isub, 1) := oc_100 (by decide +kernel)
theorem dX2_mark_98 : decode cX2_mark 98 = .ok (.iushr, 1) := oc_124 (by decide +kernel)
theorem dX2_mark_99 : decode cX2_mark 99 = .ok (.iand, 1) := oc_126 (by decide +kernel)
theorem dX2_mark_100 : decode cX2_mark 100 = .ok (.ior, 1) := oc_128 (by decide +kernel)
theorem dX2_mark_101 : decode cX2_mark 101 = .ok (.iastore, 1) := oc_79 (by decide +kernel)
theorem dX2_countArea_0 : decode cX2_countArea 0 = .ok (.aload_n 0, 1) := oc_42 (by decide +kernel)
theorem dX2_countArea_1 : decode cX2_countArea 1 = .ok (.getfield 59, 3) := oc_180 (a := 0) (b := 59) (by decide +kernel)
theorem dX2_countArea_4 : decode cX2_countArea 4 = .ok (.iconst 0, 1) := oc_3 (by decide +kernel)
theorem dX2_countArea_5 : decode cX2_countArea 5 = .ok (.invokestatic 65, 3) := oc_184 (a := 0) (b := 65) (by decide +kernel)
theorem dX2_countArea_8 : decode cX2_countArea 8 = .ok (.aload_n 0, 1) := oc_42 (by decide +kernel)
theorem dX2_countArea_9 : decode cX2_countArea 9 = .ok (.iload_n 3, 1) := oc_29 (by decide +kernel)
theorem tw_1138 : Cond.methodLink RX2 125 yX2_measure ∈ wsL_law := sg_48 _ (List.mem_of_getElem? (i := 10) rfl)
theorem tw_1139 : Cond.instanceMethod yX2_measure ∈ wsL_law := sg_48 _ (List.mem_of_getElem? (i := 11) rfl)
theorem tw_1140 : Cond.selects RX2 yX2_measure yX2_measure ∈ wsL_law := sg_48 _ (List.mem_of_getElem? (i := 12) rfl)
theorem tw_1141 : Cond.code yX2_measure cX2_measure 4 none ∈ wsL_law := sg_48 _ (List.mem_of_getElem? (i := 13) rfl)
theorem dX2_countArea_10 : decode cX2_countArea 10 = .ok (.invokevirtual 125, 3) := oc_182 (a := 0) (b := 125) (by decide +kernel)
theorem dX2_countArea_13 : decode cX2_countArea 13 = .ok (.iconst 0, 1) := oc_3 (by decide +kernel)
theorem dX2_countArea_14 : decode cX2_countArea 14 = .ok (.istore 4, 2) := oc_54 (by decide +kernel)
theorem dX2_countArea_16 : decode cX2_countArea 16 = .ok (.iload 4, 2) := oc_21 (by decide +kernel)
theorem dX2_countArea_18 : decode cX2_countArea 18 = .ok (.aload_n 0, 1) := oc_42 (by decide +kernel)
theorem dX2_countArea_19 : decode cX2_countArea 19 = .ok (.getfield 73, 3) := oc_180 (a := 0) (b := 73) (by decide +kernel)
theorem dX2_countArea_22 : decode cX2_countArea 22 = .ok (.if_icmp .ge 37, 3) := oc_162 (a := 0) (b := 37) (by decide +kernel)
theorem dX2_countArea_59 : decode cX2_countArea 59 = .ok (.iconst 0, 1) := oc_3 (by decide +kernel)
theorem dX2_countArea_60 : decode cX2_countArea 60 = .ok (.istore 4, 2) := oc_54 (by decide +kernel)
theorem dX2_countArea_62 : decode cX2_countArea 62 = .ok (.iconst 0, 1) := oc_3 (by decide +kernel)
theorem dX2_countArea_63 : decode cX2_countArea 63 = .ok (.istore 5, 2) := oc_54 (by decide +kernel)
theorem dX2_countArea_65 : decode cX2_countArea 65 = .ok (.iload 5, 2) := oc_21 (by decide +kernel)
theorem dX2_countArea_67 : decode cX2_countArea 67 = .ok (.bipush 32, 2) := oc_16 (a := 32) (by decide +kernel)
theorem dX2_countArea_69 : decode cX2_countArea 69 = .ok (.if_icmp .ge 24, 3) := oc_162 (a := 0) (b := 24) (by decide +kernel)
theorem dX2_countArea_93 : decode cX2_countArea 93 = .ok (.iload 4, 2) := oc_21 (by decide +kernel)
theorem dX2_countArea_95 : decode cX2_countArea 95 = .ok (.ireturn, 1) := oc_172 (by decide +kernel)
theorem dX2_countArea_72 : decode cX2_countArea 72 = .ok (.iload 4, 2) := oc_21 (by decide +kernel)
theorem dX2_countArea_74 : decode cX2_countArea 74 = .ok (.aload_n 0, 1) := oc_42 (by decide +kernel)
theorem dX2_countArea_75 : decode cX2_countArea 75 = .ok (.getfield 59, 3) := oc_180 (a := 0) (b := 59) (by decide +kernel)
theorem dX2_countArea_78 : decode cX2_countArea 78 = .ok (.iload 5, 2) := oc_21 (by decide +kernel)
theorem dX2_countArea_80 : decode cX2_countArea 80 = .ok (.iaload, 1) := oc_46 (by decide +kernel)
theorem tw_1147 : Cond.methodLink RX2 133 yJ6_bitCount_0f7a4 ∈ wsL_law := sg_48 _ (List.mem_of_getElem? (i := 19) rfl)
theorem tw_1148 : Cond.static yJ6_bitCount_0f7a4 ∈ wsL_law := sg_48 _ (List.mem_of_getElem? (i := 20) rfl)
theorem tw_492 : Cond.initialized RJ6 ∈ wsL_law := sg_21 _ (List.mem_of_getElem? (i := 12) rfl)
theorem tw_1149 : Cond.code yJ6_bitCount_0f7a4 cJ6_bitCount_0f7a4 1 (some .int) ∈ wsL_law := sg_48 _ (List.mem_of_getElem? (i := 21) rfl)
theorem dX2_countArea_81 : decode cX2_countArea 81 = .ok (.invokestatic 133, 3) := oc_184 (a := 0) (b := 133) (by decide +kernel)
theorem dX2_countArea_84 : decode cX2_countArea 84 = .ok (.iadd, 1) := oc_96 (by decide +kernel)
theorem dX2_countArea_85 : decode cX2_countArea 85 = .ok (.istore 4, 2) := oc_54 (by decide +kernel)
theorem dX2_countArea_87 : decode cX2_countArea 87 = .ok (.iinc 5 1, 3) := oc_132 (b := 1) (by decide +kernel)
theorem dX2_countArea_90 : decode cX2_countArea 90 = .ok (.goto (-25), 3) := oc_167 (a := 255) (b := 231) (by decide +kernel)
theorem dX2_countArea_25 : decode cX2_countArea 25 = .ok (.lload_n 1, 1) := oc_31 (by decide +kernel)
theorem dX2_countArea_26 : decode cX2_countArea 26 = .ok (.iload 4, 2) := oc_21 (by decide +kernel)
theorem dX2_countArea_28 : decode cX2_countArea 28 = .ok (.invokestatic 101, 3) := oc_184 (a := 0) (b := 101) (by decide +kernel)
theorem dX2_countArea_53 : decode cX2_countArea 53 = .ok (.iinc 4 1, 3) := oc_132 (b := 1) (by decide +kernel)
theorem dX2_countArea_56 : decode cX2_countArea 56 = .ok (.goto (-40), 3) := oc_167 (a := 255) (b := 216) (by decide +kernel)
theorem dX2_countArea_31 : decode cX2_countArea 31 = .ok (.ifCond .eq 22, 3) := oc_153 (a := 0) (b := 22) (by decide +kernel)
theorem dX2_countArea_34 : decode cX2_countArea 34 = .ok (.aload_n 0, 1) := oc_42 (by decide +kernel)
theorem dX2_countArea_35 : decode cX2_countArea 35 = .ok (.aload_n 0, 1) := oc_42 (by decide +kernel)
theorem dX2_countArea_36 : decode cX2_countArea 36 = .ok (.getfield 22, 3) := oc_180 (a := 0) (b := 22) (by decide +kernel)
theorem dX2_countArea_39 : decode cX2_countArea 39 = .ok (.iload 4, 2) := oc_21 (by decide +kernel)
theorem dX2_countArea_41 : decode cX2_countArea 41 = .ok (.iaload, 1) := oc_46 (by decide +kernel)
theorem dX2_countArea_42 : decode cX2_countArea 42 = .ok (.aload_n 0, 1) := oc_42 (by decide +kernel)
theorem dX2_countArea_43 : decode cX2_countArea 43 = .ok (.getfield 25, 3) := oc_180 (a := 0) (b := 25) (by decide +kernel)
theorem dX2_countArea_46 : decode cX2_countArea 46 = .ok (.iload 4, 2) := oc_21 (by decide +kernel)
theorem dX2_countArea_48 : decode cX2_countArea 48 = .ok (.iaload, 1) := oc_46 (by decide +kernel)
theorem dX2_countArea_49 : decode cX2_countArea 49 = .ok (.iload_n 3, 1) := oc_29 (by decide +kernel)
theorem tw_1142 : Cond.methodLink RX2 129 yX2_mark ∈ wsL_law := sg_48 _ (List.mem_of_getElem? (i := 14) rfl)
theorem tw_1143 : Cond.instanceMethod yX2_mark ∈ wsL_law := sg_48 _ (List.mem_of_getElem? (i := 15) rfl)
theorem tw_1144 : Cond.selects RX2 yX2_mark yX2_mark ∈ wsL_law := sg_48 _ (List.mem_of_getElem? (i := 16) rfl)
theorem tw_1145 : Cond.code yX2_mark cX2_mark 10 none ∈ wsL_law := sg_48 _ (List.mem_of_getElem? (i := 17) rfl)
theorem dX2_countArea_50 : decode cX2_countArea 50 = .ok (.invokevirtual 129, 3) := oc_182 (a := 0) (b := 129) (by decide +kernel)
set_option maxRecDepth 100000 in
def g_X2_tide_K84 (x_574 : Int32) (x_658 : Int64) (k_g_X2_tide_L11 : (Int64) → (Int32) → (Nat → Int64) → (Nat → Nat → Int32) → vM) (J_690 : Nat → Int64) (ri_691 : Nat → Nat → Int32) : vM := (ap1 (x_574 + Int32.ofInt 1) fun (x_695 : Int32) => (k_g_X2_tide_L11 x_658 x_695 J_690 ri_691))
set_option maxRecDepth 100000 in
theorem g_X2_tide_K84_e {x_574 : Int32} {x_658 : Int64} {k_g_X2_tide_L11 : (Int64) → (Int32) → (Nat → Int64) → (Nat → Nat → Int32) → vM} {J_690 : Nat → Int64} {ri_691 : Nat → Nat → Int32} : g_X2_tide_K84 x_574 x_658 k_g_X2_tide_L11 J_690 ri_691 = (ap1 (x_574 + Int32.ofInt 1) fun (x_695 : Int32) => (k_g_X2_tide_L11 x_658 x_695 J_690 ri_691)) := rfl
set_option maxRecDepth 100000 in
def g_X2_tide_K43 (a1 : Int32) (x_574 : Int32) (J_575 : Nat → Int64) (ri_576 : Nat → Nat → Int32) (k_g_X2_tide_L11 : (Int64) → (Int32) → (Nat → Int64) → (Nat → Nat → Int32) → vM) (x_646 : Int32) (x_658 : Int64) : vM := (if x_646 ≤ a1 then (ap1 (ri_576 77 (x_574).toNatClampNeg) fun (x_701 : Int32) => (ap1 (x_701 + (1 : Int32)) fun (x_702 : Int32) => (ap1 (va_up ri_576 77 (upd (ri_576 77) (x_574).toNatClampNeg x_702)) fun (r_703 : Nat → Nat → Int32) => (g_X2_tide_K84 x_574 x_658 k_g_X2_tide_L11 J_575 r_703)))) else (ap1 (J_575 67) fun (y_706 : Int64) => (ap1 ((1 : Int64) <<< (x_574.toInt64 &&& 63)) fun (x_707 : Int64) => (ap1 ((y_706) ||| x_707) fun (x_708 : Int64) => (ap1 (va_up J_575 67 x_708) fun (J_709 : Nat → Int64) => (ap1 (va_up ri_576 77 (upd (ri_576 77) (x_574).toNatClampNeg (0 : Int32))) fun (r_711 : Nat → Nat → Int32) => (g_X2_tide_K84 x_574 x_658 k_g_X2_tide_L11 J_709 r_711)))))))
set_option maxRecDepth 100000 in
theorem g_X2_tide_K43_e {a1 : Int32} {x_574 : Int32} {J_575 : Nat → Int64} {ri_576 : Nat → Nat → Int32} {k_g_X2_tide_L11 : (Int64) → (Int32) → (Nat → Int64) → (Nat → Nat → Int32) → vM} {x_646 : Int32} {x_658 : Int64} : g_X2_tide_K43 a1 x_574 J_575 ri_576 k_g_X2_tide_L11 x_646 x_658 = (if x_646 ≤ a1 then (ap1 (ri_576 77 (x_574).toNatClampNeg) fun (x_701 : Int32) => (ap1 (x_701 + (1 : Int32)) fun (x_702 : Int32) => (ap1 (va_up ri_576 77 (upd (ri_576 77) (x_574).toNatClampNeg x_702)) fun (r_703 : Nat → Nat → Int32) => (g_X2_tide_K84 x_574 x_658 k_g_X2_tide_L11 J_575 r_703)))) else (ap1 (J_575 67) fun (y_706 : Int64) => (ap1 ((1 : Int64) <<< (x_574.toInt64 &&& 63)) fun (x_707 : Int64) => (ap1 ((y_706) ||| x_707) fun (x_708 : Int64) => (ap1 (va_up J_575 67 x_708) fun (J_709 : Nat → Int64) => (ap1 (va_up ri_576 77 (upd (ri_576 77) (x_574).toNatClampNeg (0 : Int32))) fun (r_711 : Nat → Nat → Int32) => (g_X2_tide_K84 x_574 x_658 k_g_X2_tide_L11 J_709 r_711))))))) := rfl
set_option maxRecDepth 100000 in
def g_X2_tide_L11 (a0 : Int32) (a1 : Int32) (a2 : Int32) (I : Nat → Int32) (rj : Nat → Nat → Int64) (rq : Nat → Nat → Option Nat) : Nat → (Int64) → (Int32) → (Nat → Int64) → (Nat → Nat → Int32) → vM
  | 0, x_573, x_574, J_575, ri_576 => (I, J_575, ri_576, rj, rq)
  | n_622 + 1, x_573, x_574, J_575, ri_576 => (ap1 (I 65) fun (y_628 : Int32) => (if (y_628) ≤ x_574 then (if a0 < (0 : Int32) then (I, J_575, ri_576, rj, rq) else (if (600 : Int32) ≤ a0 then (I, J_575, ri_576, rj, rq) else (ap1 (va_up rj 68 (vp_updL (rj 68) (a0).toNatClampNeg x_573)) fun (r_643 : Nat → Nat → Int64) => (I, J_575, ri_576, r_643, rq)))) else (bnI (g_X2_topOf x_574 I J_575 ri_576 rj rq) fun (x_646 : Int32) (_ : Nat → Int32) (_ : Nat → Int64) (_ : Nat → Nat → Int32) (_ : Nat → Nat → Int64) (_ : Nat → Nat → Option Nat) => (if x_646 ≤ a2 then (g_X2_tide_K43 a1 x_574 J_575 ri_576 (g_X2_tide_L11 a0 a1 a2 I rj rq n_622) x_646 x_573) else (ap1 ((1 : Int64) <<< (x_574.toInt64 &&& 63)) fun (x_717 : Int64) => (ap1 (x_573 ||| x_717) fun (x_718 : Int64) => (g_X2_tide_K43 a1 x_574 J_575 ri_576 (g_X2_tide_L11 a0 a1 a2 I rj rq n_622) x_646 x_718)))))))
set_option maxRecDepth 100000 in
theorem g_X2_tide_L11_e {a0 : Int32} {a1 : Int32} {a2 : Int32} {I : Nat → Int32} {rj : Nat → Nat → Int64} {rq : Nat → Nat → Option Nat} {n_622 : Nat} {x_573 : Int64} {x_574 : Int32} {J_575 : Nat → Int64} {ri_576 : Nat → Nat → Int32} : g_X2_tide_L11 a0 a1 a2 I rj rq (n_622 + 1) x_573 x_574 J_575 ri_576 = (ap1 (I 65) fun (y_628 : Int32) => (if (y_628) ≤ x_574 then (if a0 < (0 : Int32) then (I, J_575, ri_576, rj, rq) else (if (600 : Int32) ≤ a0 then (I, J_575, ri_576, rj, rq) else (ap1 (va_up rj 68 (vp_updL (rj 68) (a0).toNatClampNeg x_573)) fun (r_643 : Nat → Nat → Int64) => (I, J_575, ri_576, r_643, rq)))) else (bnI (g_X2_topOf x_574 I J_575 ri_576 rj rq) fun (x_646 : Int32) (_ : Nat → Int32) (_ : Nat → Int64) (_ : Nat → Nat → Int32) (_ : Nat → Nat → Int64) (_ : Nat → Nat → Option Nat) => (if x_646 ≤ a2 then (g_X2_tide_K43 a1 x_574 J_575 ri_576 (g_X2_tide_L11 a0 a1 a2 I rj rq n_622) x_646 x_573) else (ap1 ((1 : Int64) <<< (x_574.toInt64 &&& 63)) fun (x_717 : Int64) => (ap1 (x_573 ||| x_717) fun (x_718 : Int64) => (g_X2_tide_K43 a1 x_574 J_575 ri_576 (g_X2_tide_L11 a0 a1 a2 I rj rq n_622) x_646 x_718))))))) := rfl
set_option maxRecDepth 100000 in
def g_X2_tide (a0 : Int32) (a1 : Int32) (a2 : Int32) (I : Nat → Int32) (J : Nat → Int64) (ri : Nat → Nat → Int32) (rj : Nat → Nat → Int64) (rq : Nat → Nat → Option Nat) : vM := (ap1 (va_up J 67 (0 : Int64)) fun (J_1 : Nat → Int64) => (g_X2_tide_L11 a0 a1 a2 I rj rq ((40 - ((0 : Int32)).toInt).toNat + 1) (0 : Int64) (0 : Int32) J_1 ri))
set_option maxRecDepth 100000 in
theorem g_X2_tide_e {a0 : Int32} {a1 : Int32} {a2 : Int32} {I : Nat → Int32} {J : Nat → Int64} {ri : Nat → Nat → Int32} {rj : Nat → Nat → Int64} {rq : Nat → Nat → Option Nat} : g_X2_tide a0 a1 a2 I J ri rj rq = (ap1 (va_up J 67 (0 : Int64)) fun (J_1 : Nat → Int64) => (g_X2_tide_L11 a0 a1 a2 I rj rq ((40 - ((0 : Int32)).toInt).toNat + 1) (0 : Int64) (0 : Int32) J_1 ri)) := rfl
set_option maxHeartbeats 4000000 in
set_option maxRecDepth 100000 in
theorem s_X2_tide (l : Launch) (D : va_G) (t : pq_T) (σ : pq_S) (I : Nat → Nat → Int32) (J : Nat → Nat → Int64) (ri : Nat → Nat → Int32) (rj : Nat → Nat → Int64) (rq : Nat → Nat → Option Nat) (sz : Nat) (tg : Nat → Nat) (hSH : SH σ tg) (hG0 : GS tg σ I ri rq) (this : Nat) (a0 : Int32) (a1 : Int32) (a2 : Int32) (hL_this : this ∈ σ.1) (hK_this : σ.2.1 this = 2) (M : Nat) (hL_M : M ∈ σ.1) (hK_M : σ.2.1 M = 10) (hO_this : this = vo σ 2 M) : MetV l yX2_tide (wa yX2_tide cX2_tide 8 none) ({ frames := 1, cells := 0, slots := 0, locals := 21 }) [.ref this, .int a0, .int a1, .int a2] D t σ (I, J, ri, rj, rq) sz 0 0 (fun (u : pq_S × pq_M) => ∃ J' : Nat → Nat → Int64, ∃ ri' : Nat → Nat → Int32, ∃ rj' : Nat → Nat → Int64, u = (σ, I, J', ri', rj', rq) ∧ GX [1068, 1077] tg σ I ri rj I ri' rj' rq ∧ g_X2_tide a0 a1 a2 (vI 10 σ M I) (vJ 10 σ M J) (vR 10 σ M ri) (vL 10 σ M rj) (vQ 10 σ M rq) = ((vI 10 σ M I), (vJ 10 σ M J'), (vR 10 σ M ri'), (vL 10 σ M rj'), (vQ 10 σ M rq)) ∧ FR 10 tg σ M (I, J, ri, rj, rq) (I, J', ri', rj', rq)) := by
  refine Met.ofW (cc := cX2_tide) (maxL := 8) (ret := none) (by decide) rfl ?_
  intro p e s m args below meth c s₁ B hml hv
  obtain ⟨rfl, hsz, hP, hK, hD0, hN⟩ := hv
  have hx := B.exec
  have hb := B.bytes
  have hr := B.returns
  have hts := atoms_spec (ws := (wa yX2_tide cX2_tide 8 none)) B.pre
  have hown : s.vm.findClass RX2 = some m.cls := findClass_of_methodNamed B.named
  have hlocks := B.notSynchronized
  subst hsz
  have hD : va_D (pq_B t σ (I, J, ri, rj, rq) s.heap.size) (pq_P t σ (I, J, ri, rj, rq)) := hD0.self
  generalize hAe : pq_B t σ (I, J, ri, rj, rq) s.heap.size = A at hD ⊢
  have hA : ∀ q : Nat, s.heap.size ≤ q → A q := fun q h => by rw [← hAe]; exact Or.inr h
  have hS : va_S A s.heap s.heap [] := va_S.rf
  have hG : GX [1068, 1077] tg σ I ri rj I ri rj rq := ⟨hG0, fun _ _ _ => rfl, fun _ _ _ _ _ => rfl, fun _ _ _ _ _ => rfl⟩
  have hl := lv_entry ([.ref this, .int a0, .int a1, .int a2]) (n := 8) (Nat.le_of_ble_eq_true rfl)
  rw [lg_entry_eq]
  generalize (lg_sl ([.ref this, .int a0, .int a1, .int a2]) ++ List.replicate (8 - (lg_sl ([.ref this, .int a0, .int a1, .int a2])).length) Slot.unset).toArray = ls at hl ⊢
  have hl : lv_has ls 8 [(0, .ref this), (1, .int a0), (2, .int a1), (3, .int a2)] := hl
  refine q_gen (fun Q hQ => ?_)
  have go : ∀ (H : Heap) (locs : List Loc) (ls : Array Slot), va_P D vwCl (pq_P t σ (I, J, ri, rj, rq)) H → va_D A (pq_P t σ (I, J, ri, rj, rq)) → va_S A s.heap H locs → lv_has ls 8 [(0, .ref this), (1, .int a0), (2, .int a1), (3, .int a2)] → W p l e ({ frames := 1, cells := 0, slots := 0, locals := 21 } : Room) s m (List.toArray ([.ref this, .int a0, .int a1, .int a2] : List Value)) below meth c H locs 0 0 Q (F0 m 0 ls []) := by
    intro H locs ls hP hD hS hl
    have hVT : VT 10 σ tg M := vt_10 hSH hL_M hK_M
    have hFr : FR 10 tg σ M (I, J, ri, rj, rq) (I, J, ri, rj, rq) := fr_rf
    obtain ⟨F, hF0⟩ : ∃ F, F = g_X2_tide a0 a1 a2 (vI 10 σ M I) (vJ 10 σ M J) (vR 10 σ M ri) (vL 10 σ M rj) (vQ 10 σ M rq) := ⟨_, rfl⟩
    have hF := hF0.trans g_X2_tide_e
    refine lv_aload_n hx hb dX2_tide_0 rfl (lv_at hl 0 rfl) ?_
    refine lv_lconst (v := 0) hx hb dX2_tide_1 (by decide) ?_
    refine pp_l (v := 0) (C := RX2) (T := TX2) (N := 20) hx hb hts (tw_i inlX2) tyX2 tyX2_ok nmX2 hown hK hP hD hS hL_this hK_this (by decide) rfl 3 67 (by decide) (hts _ (tw_c tw_558)) rfl (tyX2_ok 3 (by decide)) (Nat.le_of_ble_eq_true rfl) (ps_67 _ _ _ _ _) dX2_tide_2 (fun J_1 H locs eJ_1 hP hD hS => ?_)
    replace hFr := fr_J (f := 67) hFr hO_this (by decide) eJ_1
    replace hF := hF.trans (ap_n (vJ_st (f := 67) hO_this (by decide) eJ_1))
    refine lv_lconst (v := 0) hx hb dX2_tide_5 (by decide) ?_
    refine lv_lstore (lv' := [(4, .long 0), (0, .ref this), (1, .int a0), (2, .int a1), (3, .int a2)]) hx hb dX2_tide_6 hl (by decide) rfl (fun ls hl => ?_)
    refine lv_iconst (v := 0) hx hb dX2_tide_8 (by decide) ?_
    refine lv_istore (lv' := [(6, .int 0), (4, .long 0), (0, .ref this), (1, .int a0), (2, .int a1), (3, .int a2)]) hx hb dX2_tide_9 hl (by decide) rfl (fun ls hl => ?_)
    have L_623 : ∀ (n_622 : Nat) (x_573 : Int64) (x_574 : Int32) (J_575 : Nat → Nat → Int64) (ri_576 : Nat → Nat → Int32) (H : Heap) (locs : List Loc) (ls : Array Slot), rg x_574 0 40 → (40 - (x_574).toInt).toNat < n_622 → F = g_X2_tide_L11 a0 a1 a2 (vI 10 σ M I) (vL 10 σ M rj) (vQ 10 σ M rq) n_622 x_573 x_574 (vJ 10 σ M J_575) (vR 10 σ M ri_576) → FR 10 tg σ M (I, J, ri, rj, rq) (I, J_575, ri_576, rj, rq) → GX [1068, 1077] tg σ I ri rj I ri_576 rj rq → va_P D vwCl (pq_P t σ (I, J_575, ri_576, rj, rq)) H → va_D A (pq_P t σ (I, J_575, ri_576, rj, rq)) → va_S A s.heap H locs → lv_has ls 8 [(0, .ref this), (1, .int a0), (2, .int a1), (3, .int a2), (4, .long x_573), (6, .int x_574)] → W p l e ({ frames := 1, cells := 0, slots := 0, locals := 21 } : Room) s m (List.toArray ([.ref this, .int a0, .int a1, .int a2] : List Value)) below meth c H locs 0 0 Q (F0 m 11 ls []) := by
      intro n_622
      induction n_622 with
      | zero => intro x_573 x_574 J_575 ri_576 H locs ls h_626 hm_621 hF hFr hG hP hD hS hl; exact absurd hm_621 (Nat.not_lt_zero _)
      | succ n_622 ih_624 =>
        intro x_573 x_574 J_575 ri_576 H locs ls h_626 hm_621 hF hFr hG hP hD hS hl
        replace hF := hF.trans g_X2_tide_L11_e
        refine lv_iload hx hb dX2_tide_11 (lv_at hl 5 rfl) ?_
        refine lv_aload_n hx hb dX2_tide_13 rfl (lv_at hl 0 rfl) ?_
        refine pg_f (v := .int (I 65 this)) (C := RX2) (T := TX2) (N := 20) hx hb hts (tw_i inlX2) hown hK hP hL_this hK_this (by decide) rfl 1 (by decide) (hts _ (tw_c tw_222)) rfl dX2_tide_14 ?_
        have h_627 : rg (I 65 this) 0 40 := GX.rI hG 65 rfl
        replace hF := hF.trans (ap_n (vI_e (f := 65) hO_this (by decide)))
        refine lv_icmp_ge (tgt := 90) hx hb dX2_tide_17 (by decide) (fun c_629 => ?_) (fun c_629 => ?_)
        · replace hF := hF.trans (if_pos c_629)
          refine lv_iload_n hx hb dX2_tide_90 rfl (lv_at hl 1 rfl) ?_
          refine lv_if_lt (tgt := 109) hx hb dX2_tide_91 (by decide) (fun c_632 => ?_) (fun c_632 => ?_)
          · replace hF := hF.trans (if_pos c_632)
            have h_635 : rg a0 (-2147483648) (-1) := rg_lt1 c_632 (rg_full _) (rg_k (0 : Int32) 0 rfl) (by decide)
            subst hQ
            exact W.vret hx hb hr (fun t1 ht hW => ⟨⟨(σ, I, J_575, ri_576, rj, rq), rfl, ⟨J_575, ri_576, rj, rfl, hG, (hF0.symm.trans hF), hFr⟩, by rw [ht]; exact hP, va_K.moved hW.alike hK, hD⟩, hS.F ht⟩) hS.2.2 dX2_tide_109
          · replace hF := hF.trans (if_neg c_632)
            have h_636 : rg a0 0 2147483647 := rg_le2 (nlt c_632) (rg_k (0 : Int32) 0 rfl) (rg_full _) (by decide)
            refine lv_iload_n hx hb dX2_tide_94 rfl (lv_at hl 1 rfl) ?_
            refine lv_sipush (v := 600) hx hb dX2_tide_95 (by decide) ?_
            refine lv_icmp_ge (tgt := 109) hx hb dX2_tide_98 (by decide) (fun c_637 => ?_) (fun c_637 => ?_)
            · replace hF := hF.trans (if_pos c_637)
              have h_640 : rg a0 600 2147483647 := rg_le2 c_637 (rg_k (600 : Int32) 600 rfl) h_636 (by decide)
              subst hQ
              exact W.vret hx hb hr (fun t1 ht hW => ⟨⟨(σ, I, J_575, ri_576, rj, rq), rfl, ⟨J_575, ri_576, rj, rfl, hG, (hF0.symm.trans hF), hFr⟩, by rw [ht]; exact hP, va_K.moved hW.alike hK, hD⟩, hS.F ht⟩) hS.2.2 dX2_tide_109
            · replace hF := hF.trans (if_neg c_637)
              have h_641 : rg a0 0 599 := rg_lt1 (nle c_637) h_636 (rg_k (600 : Int32) 600 rfl) (by decide)
              refine lv_aload_n hx hb dX2_tide_101 rfl (lv_at hl 0 rfl) ?_
              obtain ⟨w_642, hR_w_642, hL_w_642, hK_w_642, hN_w_642, hT_w_642⟩ := sh_a hSH 68 (ci := 2) (kd := 14) (len := 600) rfl (by decide) hL_this hK_this
              have hO_w_642 : w_642 = vrow σ 68 M := vo_k (c := 2) hO_this hR_w_642
              refine pg_f (v := .ref w_642) (C := RX2) (T := TX2) (N := 20) hx hb hts (tw_i inlX2) hown hK hP hL_this hK_this (by decide) rfl 4 (by decide) (hts _ (tw_c tw_82)) (pq_hv rfl hR_w_642) dX2_tide_102 ?_
              refine lv_iload_n hx hb dX2_tide_105 rfl (lv_at hl 1 rfl) ?_
              refine lv_lload hx hb dX2_tide_106 (lv_at hl 4 rfl) ?_
              refine pt_l hx hb hK hP hD hS hL_w_642 hK_w_642 hN_w_642 (rg_in h_641 (by decide)) dX2_tide_108 (fun r_643 H locs er_643 hP hD hS => ?_)
              replace hFr := fr_L hFr hO_w_642 (by decide) er_643
              replace hF := hF.trans (ap_n (vL_st hVT hO_w_642 (by decide) er_643))
              have hG := GX.wJ hG hT_w_642 er_643 (by decide)
              subst hQ
              exact W.vret hx hb hr (fun t1 ht hW => ⟨⟨(σ, I, J_575, ri_576, r_643, rq), rfl, ⟨J_575, ri_576, r_643, rfl, hG, (hF0.symm.trans hF), hFr⟩, by rw [ht]; exact hP, va_K.moved hW.alike hK, hD⟩, hS.F ht⟩) hS.2.2 dX2_tide_109
        · replace hF := hF.trans (if_neg c_629)
          have h_644 : rg x_574 0 39 := rg_lt1 (nle c_629) h_626 h_627 (by decide)
          have h_645 : rg (I 65 this) 1 40 := rg_lt2 (nle c_629) h_626 h_627 (by decide)
          refine lv_aload_n hx hb dX2_tide_20 rfl (lv_at hl 0 rfl) ?_
          refine lv_iload hx hb dX2_tide_21 (lv_at hl 5 rfl) ?_
          refine pk_i (va_runV (As := [.int x_574]) (rest := []) ⟨hx, hb, hml, hown, hts⟩ (s_X2_topOf l D t σ I J_575 ri_576 rj rq H.size tg hSH hG.1 this x_574 hL_this hK_this (rg_w h_644 (by decide)) M hL_M hK_M hO_this) (cwV 1 hts (tw_V tw_1074 tw_1075 tw_1076 tw_41 tw_1077) rfl rfl rfl cv_yX2_topOf_1 ⟨Nat.le_of_ble_eq_true rfl, Nat.le_of_ble_eq_true rfl⟩) ⟨pq_blind, pq_recv hK hP hL_this hK_this (by decide) rfl, pq_pre hK hN hP hD⟩ rfl rfl hl.1 rfl (lv_room (Nat.le_of_ble_eq_true rfl)) dX2_tide_23 ⟨Nat.le_of_ble_eq_true rfl, Nat.le_of_ble_eq_true rfl⟩) hD hS hA (fun x_646 σ1 μ1 H locs hw_647 hP hD hS => ?_)
          obtain ⟨hu_648, hfn_651⟩ := hw_647
          obtain ⟨hu_648a, hu_648b⟩ := Prod.mk.inj hu_648
          rw [hu_648a, hu_648b] at hP hD
          replace hF := hF.trans (bn_n hfn_651)
          refine lv_istore (lv' := [(7, .int x_646), (0, .ref this), (1, .int a0), (2, .int a1), (3, .int a2), (4, .long x_573), (6, .int x_574)]) hx hb dX2_tide_26 hl (by decide) rfl (fun ls hl => ?_)
          refine lv_iload hx hb dX2_tide_28 (lv_at hl 0 rfl) ?_
          refine lv_iload_n hx hb dX2_tide_30 rfl (lv_at hl 4 rfl) ?_
          have K_676 : ∀  (x_658 : Int64) (H : Heap) (locs : List Loc) (ls : Array Slot), F = g_X2_tide_K43 a1 x_574 (vJ 10 σ M J_575) (vR 10 σ M ri_576) (g_X2_tide_L11 a0 a1 a2 (vI 10 σ M I) (vL 10 σ M rj) (vQ 10 σ M rq) n_622) x_646 x_658 → FR 10 tg σ M (I, J, ri, rj, rq) (I, J_575, ri_576, rj, rq) → GX [1068, 1077] tg σ I ri rj I ri_576 rj rq → va_P D vwCl (pq_P t σ (I, J_575, ri_576, rj, rq)) H → va_D A (pq_P t σ (I, J_575, ri_576, rj, rq)) → va_S A s.heap H locs → lv_has ls 8 [(0, .ref this), (1, .int a0), (2, .int a1), (3, .int a2), (4, .long x_658), (6, .int x_574), (7, .int x_646)] → W p l e ({ frames := 1, cells := 0, slots := 0, locals := 21 } : Room) s m (List.toArray ([.ref this, .int a0, .int a1, .int a2] : List Value)) below meth c H locs 0 0 Q (F0 m 43 ls []) := by
            intro x_658 H locs ls hF hFr hG hP hD hS hl
            replace hF := hF.trans g_X2_tide_K43_e
            refine lv_iload hx hb dX2_tide_43 (lv_at hl 6 rfl) ?_
            refine lv_iload_n hx hb dX2_tide_45 rfl (lv_at hl 2 rfl) ?_
            have K_694 : ∀  (J_690 : Nat → Nat → Int64) (ri_691 : Nat → Nat → Int32) (H : Heap) (locs : List Loc) (ls : Array Slot), F = g_X2_tide_K84 x_574 x_658 (g_X2_tide_L11 a0 a1 a2 (vI 10 σ M I) (vL 10 σ M rj) (vQ 10 σ M rq) n_622) (vJ 10 σ M J_690) (vR 10 σ M ri_691) → FR 10 tg σ M (I, J, ri, rj, rq) (I, J_690, ri_691, rj, rq) → GX [1068, 1077] tg σ I ri rj I ri_691 rj rq → va_P D vwCl (pq_P t σ (I, J_690, ri_691, rj, rq)) H → va_D A (pq_P t σ (I, J_690, ri_691, rj, rq)) → va_S A s.heap H locs → lv_has ls 8 [(0, .ref this), (1, .int a0), (2, .int a1), (3, .int a2), (4, .long x_658), (6, .int x_574)] → W p l e ({ frames := 1, cells := 0, slots := 0, locals := 21 } : Room) s m (List.toArray ([.ref this, .int a0, .int a1, .int a2] : List Value)) below meth c H locs 0 0 Q (F0 m 84 ls []) := by
              intro J_690 ri_691 H locs ls hF hFr hG hP hD hS hl
              replace hF := hF.trans g_X2_tide_K84_e
              obtain ⟨x_695, ex_695⟩ : ∃ y : Int32, y = x_574 + Int32.ofInt 1 := ⟨_, rfl⟩
              replace hF := hF.trans (ap_n ex_695)
              have h_696 : rg x_695 1 40 := rg_of_eq ex_695 (rg_add h_644 (rg_k (Int32.ofInt 1) 1 rfl) (by decide))
              refine lv_iinc (v := x_695) (lv' := [(6, .int x_695), (0, .ref this), (1, .int a0), (2, .int a1), (3, .int a2), (4, .long x_658)]) hx hb dX2_tide_84 hl (k := 5) rfl ex_695.symm (by decide) rfl (fun ls hl => ?_)
              refine lv_goto (tgt := 11) hx hb dX2_tide_87 (by decide) ?_
              exact ih_624 x_658 x_695 J_690 ri_691 _ _ _ (rg_w h_696 (by decide)) (ms_up 1 hm_621 ex_695 rfl (by decide) h_644 (by decide) (by decide)) hF hFr hG hP hD hS (lv_sub hl [1, 2, 3, 4, 5, 0] rfl)
            refine lv_icmp_le (tgt := 73) hx hb dX2_tide_46 (by decide) (fun c_697 => ?_) (fun c_697 => ?_)
            · replace hF := hF.trans (if_pos c_697)
              refine lv_aload_n hx hb dX2_tide_73 rfl (lv_at hl 0 rfl) ?_
              obtain ⟨w_700, hR_w_700, hL_w_700, hK_w_700, hN_w_700, hT_w_700⟩ := sh_a hSH 77 (ci := 2) (kd := 13) (len := 40) rfl (by decide) hL_this hK_this
              have hO_w_700 : w_700 = vrow σ 77 M := vo_k (c := 2) hO_this hR_w_700
              refine pg_f (v := .ref w_700) (C := RX2) (T := TX2) (N := 20) hx hb hts (tw_i inlX2) hown hK hP hL_this hK_this (by decide) rfl 13 (by decide) (hts _ (tw_c tw_91)) (pq_hv rfl hR_w_700) dX2_tide_74 ?_
              refine lv_iload hx hb dX2_tide_77 (lv_at hl 5 rfl) ?_
              refine lv_dup2_11 hx hb dX2_tide_79 rfl rfl ?_
              refine pl_i hx hb hK hP hL_w_700 hK_w_700 hN_w_700 (rg_in h_644 (by decide)) dX2_tide_80 ?_
              refine lv_topi (fun x_701 ex_701 => ?_)
              replace hF := hF.trans (ap_n (vR_r hO_w_700 (by decide) ex_701))
              refine lv_iconst (v := 1) hx hb dX2_tide_81 (by decide) ?_
              refine lv_iadd hx hb dX2_tide_82 ?_
              refine lv_topi (fun x_702 ex_702 => ?_)
              replace hF := hF.trans (ap_n ex_702)
              refine pt_i hx hb hK hP hD hS hL_w_700 hK_w_700 hN_w_700 (rg_in h_644 (by decide)) dX2_tide_83 (fun r_703 H locs er_703 hP hD hS => ?_)
              replace hFr := fr_R hFr hO_w_700 (by decide) er_703
              replace hF := hF.trans (ap_n (vR_st hVT hO_w_700 (by decide) er_703))
              have hG := GX.wR hG hSH hT_w_700 rfl er_703 (rg_w (rg_full _) (by decide)) (by decide)
              exact K_694 J_575 r_703 _ _ _ hF hFr hG hP hD hS (lv_sub hl [0, 1, 2, 3, 4, 5] rfl)
            · replace hF := hF.trans (if_neg c_697)
              have h_704 : rg a1 (-2147483648) 2147483646 := rg_lt1 (nle c_697) (rg_full _) (rg_full _) (by decide)
              have h_705 : rg x_646 (-2147483647) 2147483647 := rg_lt2 (nle c_697) (rg_full _) (rg_full _) (by decide)
              refine lv_aload_n hx hb dX2_tide_49 rfl (lv_at hl 0 rfl) ?_
              refine lv_dup hx hb dX2_tide_50 rfl ?_
              refine pg_f (v := .long (J_575 67 this)) (C := RX2) (T := TX2) (N := 20) hx hb hts (tw_i inlX2) hown hK hP hL_this hK_this (by decide) rfl 3 (by decide) (hts _ (tw_c tw_558)) rfl dX2_tide_51 ?_
              replace hF := hF.trans (ap_n (vJ_e (f := 67) hO_this (by decide)))
              refine lv_lconst (v := 1) hx hb dX2_tide_54 (by decide) ?_
              refine lv_iload hx hb dX2_tide_55 (lv_at hl 5 rfl) ?_
              refine lv_lshl hx hb dX2_tide_57 rfl ?_
              refine lv_topl (fun x_707 ex_707 => ?_)
              replace hF := hF.trans (ap_n ex_707)
              refine lv_lor hx hb dX2_tide_58 ?_
              refine lv_topl (fun x_708 ex_708 => ?_)
              replace hF := hF.trans (ap_n ex_708)
              refine pp_l (v := x_708) (C := RX2) (T := TX2) (N := 20) hx hb hts (tw_i inlX2) tyX2 tyX2_ok nmX2 hown hK hP hD hS hL_this hK_this (by decide) rfl 3 67 (by decide) (hts _ (tw_c tw_558)) rfl (tyX2_ok 3 (by decide)) (Nat.le_of_ble_eq_true rfl) (ps_67 _ _ _ _ _) dX2_tide_59 (fun J_709 H locs eJ_709 hP hD hS => ?_)
              replace hFr := fr_J (f := 67) hFr hO_this (by decide) eJ_709
              replace hF := hF.trans (ap_n (vJ_st (f := 67) hO_this (by decide) eJ_709))
              refine lv_aload_n hx hb dX2_tide_62 rfl (lv_at hl 0 rfl) ?_
              obtain ⟨w_710, hR_w_710, hL_w_710, hK_w_710, hN_w_710, hT_w_710⟩ := sh_a hSH 77 (ci := 2) (kd := 13) (len := 40) rfl (by decide) hL_this hK_this
              have hO_w_710 : w_710 = vrow σ 77 M := vo_k (c := 2) hO_this hR_w_710
              refine pg_f (v := .ref w_710) (C := RX2) (T := TX2) (N := 20) hx hb hts (tw_i inlX2) hown hK hP hL_this hK_this (by decide) rfl 13 (by decide) (hts _ (tw_c tw_91)) (pq_hv rfl hR_w_710) dX2_tide_63 ?_
              refine lv_iload hx hb dX2_tide_66 (lv_at hl 5 rfl) ?_
              refine lv_iconst (v := 0) hx hb dX2_tide_68 (by decide) ?_
              refine pt_i hx hb hK hP hD hS hL_w_710 hK_w_710 hN_w_710 (rg_in h_644 (by decide)) dX2_tide_69 (fun r_711 H locs er_711 hP hD hS => ?_)
              replace hFr := fr_R hFr hO_w_710 (by decide) er_711
              replace hF := hF.trans (ap_n (vR_st hVT hO_w_710 (by decide) er_711))
              have hG := GX.wR hG hSH hT_w_710 rfl er_711 (rg_w (rg_k (0 : Int32) 0 rfl) (by decide)) (by decide)
              refine lv_goto (tgt := 84) hx hb dX2_tide_70 (by decide) ?_
              exact K_694 J_709 r_711 _ _ _ hF hFr hG hP hD hS (lv_sub hl [0, 1, 2, 3, 4, 5] rfl)
          refine lv_icmp_le (tgt := 43) hx hb dX2_tide_31 (by decide) (fun c_712 => ?_) (fun c_712 => ?_)
          · replace hF := hF.trans (if_pos c_712)
            exact K_676 x_573 _ _ _ hF hFr hG hP hD hS (lv_sub hl [1, 2, 3, 4, 5, 6, 0] rfl)
          · replace hF := hF.trans (if_neg c_712)
            have h_715 : rg a2 (-2147483648) 2147483646 := rg_lt1 (nle c_712) (rg_full _) (rg_full _) (by decide)
            have h_716 : rg x_646 (-2147483647) 2147483647 := rg_lt2 (nle c_712) (rg_full _) (rg_full _) (by decide)
            refine lv_lload hx hb dX2_tide_34 (lv_at hl 5 rfl) ?_
            refine lv_lconst (v := 1) hx hb dX2_tide_36 (by decide) ?_
            refine lv_iload hx hb dX2_tide_37 (lv_at hl 6 rfl) ?_
            refine lv_lshl hx hb dX2_tide_39 rfl ?_
            refine lv_topl (fun x_717 ex_717 => ?_)
            replace hF := hF.trans (ap_n ex_717)
            refine lv_lor hx hb dX2_tide_40 ?_
            refine lv_topl (fun x_718 ex_718 => ?_)
            replace hF := hF.trans (ap_n ex_718)
            refine lv_lstore (lv' := [(4, .long x_718), (7, .int x_646), (0, .ref this), (1, .int a0), (2, .int a1), (3, .int a2), (6, .int x_574)]) hx hb dX2_tide_41 hl (by decide) rfl (fun ls hl => ?_)
            exact K_676 x_718 _ _ _ hF hFr hG hP hD hS (lv_sub hl [2, 3, 4, 5, 0, 6, 1] rfl)
    exact L_623 _ (0 : Int64) (0 : Int32) J_1 ri _ _ _ (rg_w (rg_k (0 : Int32) 0 rfl) (by decide)) (Nat.lt_succ_self _) hF hFr hG hP hD hS (lv_sub hl [2, 3, 4, 5, 1, 0] rfl)
  exact go _ _ _ hP hD hS hl

set_option maxRecDepth 100000 in
def g_X2_giveUpBeds_K25 (x_286 : Int32) (k_g_X2_giveUpBeds_L2 : (Int32) → (Nat → Nat → Int32) → vM) (ri_336 : Nat → Nat → Int32) : vM := (ap1 (x_286 + Int32.ofInt 1) fun (x_340 : Int32) => (k_g_X2_giveUpBeds_L2 x_340 ri_336))
set_option maxRecDepth 100000 in
theorem g_X2_giveUpBeds_K25_e {x_286 : Int32} {k_g_X2_giveUpBeds_L2 : (Int32) → (Nat → Nat → Int32) → vM} {ri_336 : Nat → Nat → Int32} : g_X2_giveUpBeds_K25 x_286 k_g_X2_giveUpBeds_L2 ri_336 = (ap1 (x_286 + Int32.ofInt 1) fun (x_340 : Int32) => (k_g_X2_giveUpBeds_L2 x_340 ri_336)) := rfl
set_option maxRecDepth 100000 in
def g_X2_giveUpBeds_L2 (I : Nat → Int32) (J : Nat → Int64) (rj : Nat → Nat → Int64) (rq : Nat → Nat → Option Nat) : Nat → (Int32) → (Nat → Nat → Int32) → vM
  | 0, x_286, ri_287 => (I, J, ri_287, rj, rq)
  | n_311 + 1, x_286, ri_287 => (ap1 (I 65) fun (y_317 : Int32) => (if (y_317) ≤ x_286 then (I, J, ri_287, rj, rq) else (bnI (g_X2_isDry x_286 I J ri_287 rj rq) fun (x_323 : Int32) (_ : Nat → Int32) (_ : Nat → Int64) (_ : Nat → Nat → Int32) (_ : Nat → Nat → Int64) (_ : Nat → Nat → Option Nat) => (if x_323 = (0 : Int32) then (ap1 (va_up ri_287 76 (upd (ri_287 76) (x_286).toNatClampNeg (0 : Int32))) fun (r_348 : Nat → Nat → Int32) => (g_X2_giveUpBeds_K25 x_286 (g_X2_giveUpBeds_L2 I J rj rq n_311) r_348)) else (g_X2_giveUpBeds_K25 x_286 (g_X2_giveUpBeds_L2 I J rj rq n_311) ri_287)))))
set_option maxRecDepth 100000 in
theorem g_X2_giveUpBeds_L2_e {I : Nat → Int32} {J : Nat → Int64} {rj : Nat → Nat → Int64} {rq : Nat → Nat → Option Nat} {n_311 : Nat} {x_286 : Int32} {ri_287 : Nat → Nat → Int32} : g_X2_giveUpBeds_L2 I J rj rq (n_311 + 1) x_286 ri_287 = (ap1 (I 65) fun (y_317 : Int32) => (if (y_317) ≤ x_286 then (I, J, ri_287, rj, rq) else (bnI (g_X2_isDry x_286 I J ri_287 rj rq) fun (x_323 : Int32) (_ : Nat → Int32) (_ : Nat → Int64) (_ : Nat → Nat → Int32) (_ : Nat → Nat → Int64) (_ : Nat → Nat → Option Nat) => (if x_323 = (0 : Int32) then (ap1 (va_up ri_287 76 (upd (ri_287 76) (x_286).toNatClampNeg (0 : Int32))) fun (r_348 : Nat → Nat → Int32) => (g_X2_giveUpBeds_K25 x_286 (g_X2_giveUpBeds_L2 I J rj rq n_311) r_348)) else (g_X2_giveUpBeds_K25 x_286 (g_X2_giveUpBeds_L2 I J rj rq n_311) ri_287))))) := rfl
set_option maxRecDepth 100000 in
def g_X2_giveUpBeds (I : Nat → Int32) (J : Nat → Int64) (ri : Nat → Nat → Int32) (rj : Nat → Nat → Int64) (rq : Nat → Nat → Option Nat) : vM := (g_X2_giveUpBeds_L2 I J rj rq ((40 - ((0 : Int32)).toInt).toNat + 1) (0 : Int32) ri)
set_option maxRecDepth 100000 in
theorem g_X2_giveUpBeds_e {I : Nat → Int32} {J : Nat → Int64} {ri : Nat → Nat → Int32} {rj : Nat → Nat → Int64} {rq : Nat → Nat → Option Nat} : g_X2_giveUpBeds I J ri rj rq = (g_X2_giveUpBeds_L2 I J rj rq ((40 - ((0 : Int32)).toInt).toNat + 1) (0 : Int32) ri) := rfl
set_option maxHeartbeats 4000000 in
set_option maxRecDepth 100000 in
theorem s_X2_giveUpBeds (l : Launch) (D : va_G) (t : pq_T) (σ : pq_S) (I : Nat → Nat → Int32) (J : Nat → Nat → Int64) (ri : Nat → Nat → Int32) (rj : Nat → Nat → Int64) (rq : Nat → Nat → Option Nat) (sz : Nat) (tg : Nat → Nat) (hSH : SH σ tg) (hG0 : GS tg σ I ri rq) (this : Nat) (hL_this : this ∈ σ.1) (hK_this : σ.2.1 this = 2) (M : Nat) (hL_M : M ∈ σ.1) (hK_M : σ.2.1 M = 10) (hO_this : this = vo σ 2 M) : MetV l yX2_giveUpBeds (wa yX2_giveUpBeds cX2_giveUpBeds 2 none) ({ frames := 2, cells := 0, slots := 0, locals := 43 }) [.ref this] D t σ (I, J, ri, rj, rq) sz 0 0 (fun (u : pq_S × pq_M) => ∃ ri' : Nat → Nat → Int32, u = (σ, I, J, ri', rj, rq) ∧ GX [] tg σ I ri rj I ri' rj rq ∧ g_X2_giveUpBeds (vI 10 σ M I) (vJ 10 σ M J) (vR 10 σ M ri) (vL 10 σ M rj) (vQ 10 σ M rq) = ((vI 10 σ M I), (vJ 10 σ M J), (vR 10 σ M ri'), (vL 10 σ M rj), (vQ 10 σ M rq)) ∧ FR 10 tg σ M (I, J, ri, rj, rq) (I, J, ri', rj, rq)) := by
  refine Met.ofW (cc := cX2_giveUpBeds) (maxL := 2) (ret := none) (by decide) rfl ?_
  intro p e s m args below meth c s₁ B hml hv
  obtain ⟨rfl, hsz, hP, hK, hD0, hN⟩ := hv
  have hx := B.exec
  have hb := B.bytes
  have hr := B.returns
  have hts := atoms_spec (ws := (wa yX2_giveUpBeds cX2_giveUpBeds 2 none)) B.pre
  have hown : s.vm.findClass RX2 = some m.cls := findClass_of_methodNamed B.named
  have hlocks := B.notSynchronized
  subst hsz
  have hD : va_D (pq_B t σ (I, J, ri, rj, rq) s.heap.size) (pq_P t σ (I, J, ri, rj, rq)) := hD0.self
  generalize hAe : pq_B t σ (I, J, ri, rj, rq) s.heap.size = A at hD ⊢
  have hA : ∀ q : Nat, s.heap.size ≤ q → A q := fun q h => by rw [← hAe]; exact Or.inr h
  have hS : va_S A s.heap s.heap [] := va_S.rf
  have hG : GX [] tg σ I ri rj I ri rj rq := ⟨hG0, fun _ _ _ => rfl, fun _ _ _ _ _ => rfl, fun _ _ _ _ _ => rfl⟩
  have hl := lv_entry ([.ref this]) (n := 2) (Nat.le_of_ble_eq_true rfl)
  rw [lg_entry_eq]
  generalize (lg_sl ([.ref this]) ++ List.replicate (2 - (lg_sl ([.ref this])).length) Slot.unset).toArray = ls at hl ⊢
  have hl : lv_has ls 2 [(0, .ref this)] := hl
  refine q_gen (fun Q hQ => ?_)
  have go : ∀ (H : Heap) (locs : List Loc) (ls : Array Slot), va_P D vwCl (pq_P t σ (I, J, ri, rj, rq)) H → va_D A (pq_P t σ (I, J, ri, rj, rq)) → va_S A s.heap H locs → lv_has ls 2 [(0, .ref this)] → W p l e ({ frames := 2, cells := 0, slots := 0, locals := 43 } : Room) s m (List.toArray ([.ref this] : List Value)) below meth c H locs 0 0 Q (F0 m 0 ls []) := by
    intro H locs ls hP hD hS hl
    have hVT : VT 10 σ tg M := vt_10 hSH hL_M hK_M
    have hFr : FR 10 tg σ M (I, J, ri, rj, rq) (I, J, ri, rj, rq) := fr_rf
    obtain ⟨F, hF0⟩ : ∃ F, F = g_X2_giveUpBeds (vI 10 σ M I) (vJ 10 σ M J) (vR 10 σ M ri) (vL 10 σ M rj) (vQ 10 σ M rq) := ⟨_, rfl⟩
    have hF := hF0.trans g_X2_giveUpBeds_e
    refine lv_iconst (v := 0) hx hb dX2_giveUpBeds_0 (by decide) ?_
    refine lv_istore_n (lv' := [(1, .int 0), (0, .ref this)]) hx hb dX2_giveUpBeds_1 rfl hl (by decide) rfl (fun ls hl => ?_)
    have L_312 : ∀ (n_311 : Nat) (x_286 : Int32) (ri_287 : Nat → Nat → Int32) (H : Heap) (locs : List Loc) (ls : Array Slot), rg x_286 0 40 → (40 - (x_286).toInt).toNat < n_311 → F = g_X2_giveUpBeds_L2 (vI 10 σ M I) (vJ 10 σ M J) (vL 10 σ M rj) (vQ 10 σ M rq) n_311 x_286 (vR 10 σ M ri_287) → FR 10 tg σ M (I, J, ri, rj, rq) (I, J, ri_287, rj, rq) → GX [] tg σ I ri rj I ri_287 rj rq → va_P D vwCl (pq_P t σ (I, J, ri_287, rj, rq)) H → va_D A (pq_P t σ (I, J, ri_287, rj, rq)) → va_S A s.heap H locs → lv_has ls 2 [(0, .ref this), (1, .int x_286)] → W p l e ({ frames := 2, cells := 0, slots := 0, locals := 43 } : Room) s m (List.toArray ([.ref this] : List Value)) below meth c H locs 0 0 Q (F0 m 2 ls []) := by
      intro n_311
      induction n_311 with
      | zero => intro x_286 ri_287 H locs ls h_315 hm_310 hF hFr hG hP hD hS hl; exact absurd hm_310 (Nat.not_lt_zero _)
      | succ n_311 ih_313 =>
        intro x_286 ri_287 H locs ls h_315 hm_310 hF hFr hG hP hD hS hl
        replace hF := hF.trans g_X2_giveUpBeds_L2_e
        refine lv_iload_n hx hb dX2_giveUpBeds_2 rfl (lv_at hl 1 rfl) ?_
        refine lv_aload_n hx hb dX2_giveUpBeds_3 rfl (lv_at hl 0 rfl) ?_
        refine pg_f (v := .int (I 65 this)) (C := RX2) (T := TX2) (N := 20) hx hb hts (tw_i inlX2) hown hK hP hL_this hK_this (by decide) rfl 1 (by decide) (hts _ (tw_c tw_222)) rfl dX2_giveUpBeds_4 ?_
        have h_316 : rg (I 65 this) 0 40 := GX.rI hG 65 rfl
        replace hF := hF.trans (ap_n (vI_e (f := 65) hO_this (by decide)))
        refine lv_icmp_ge (tgt := 31) hx hb dX2_giveUpBeds_7 (by decide) (fun c_318 => ?_) (fun c_318 => ?_)
        · replace hF := hF.trans (if_pos c_318)
          subst hQ
          exact W.vret hx hb hr (fun t1 ht hW => ⟨⟨(σ, I, J, ri_287, rj, rq), rfl, ⟨ri_287, rfl, hG, (hF0.symm.trans hF), hFr⟩, by rw [ht]; exact hP, va_K.moved hW.alike hK, hD⟩, hS.F ht⟩) hS.2.2 dX2_giveUpBeds_31
        · replace hF := hF.trans (if_neg c_318)
          have h_321 : rg x_286 0 39 := rg_lt1 (nle c_318) h_315 h_316 (by decide)
          have h_322 : rg (I 65 this) 1 40 := rg_lt2 (nle c_318) h_315 h_316 (by decide)
          refine lv_aload_n hx hb dX2_giveUpBeds_10 rfl (lv_at hl 0 rfl) ?_
          refine lv_iload_n hx hb dX2_giveUpBeds_11 rfl (lv_at hl 1 rfl) ?_
          refine pk_i (va_runV (As := [.int x_286]) (rest := []) ⟨hx, hb, hml, hown, hts⟩ (s_X2_isDry l D t σ I J ri_287 rj rq H.size tg hSH hG.1 this x_286 hL_this hK_this M hL_M hK_M hO_this) (cwV 1 hts (tw_V tw_1082 tw_555 tw_556 tw_41 tw_557) rfl rfl rfl cv_yX2_isDry_1 ⟨Nat.le_of_ble_eq_true rfl, Nat.le_of_ble_eq_true rfl⟩) ⟨pq_blind, pq_recv hK hP hL_this hK_this (by decide) rfl, pq_pre hK hN hP hD⟩ rfl rfl hl.1 rfl (lv_room (Nat.le_of_ble_eq_true rfl)) dX2_giveUpBeds_12 ⟨Nat.le_of_ble_eq_true rfl, Nat.le_of_ble_eq_true rfl⟩) hD hS hA (fun x_323 σ1 μ1 H locs hw_324 hP hD hS => ?_)
          obtain ⟨hu_325, hfn_328, hr_327⟩ := hw_324
          obtain ⟨hu_325a, hu_325b⟩ := Prod.mk.inj hu_325
          rw [hu_325a, hu_325b] at hP hD
          replace hF := hF.trans (bn_n hfn_328)
          have h_330 : rg x_323 0 1 := by rcases hr_327 with ⟨q, -⟩ | ⟨q, -⟩ <;> rw [q] <;> exact ⟨by decide, by decide⟩
          have K_339 : ∀  (ri_336 : Nat → Nat → Int32) (H : Heap) (locs : List Loc) (ls : Array Slot), F = g_X2_giveUpBeds_K25 x_286 (g_X2_giveUpBeds_L2 (vI 10 σ M I) (vJ 10 σ M J) (vL 10 σ M rj) (vQ 10 σ M rq) n_311) (vR 10 σ M ri_336) → FR 10 tg σ M (I, J, ri, rj, rq) (I, J, ri_336, rj, rq) → GX [] tg σ I ri rj I ri_336 rj rq → va_P D vwCl (pq_P t σ (I, J, ri_336, rj, rq)) H → va_D A (pq_P t σ (I, J, ri_336, rj, rq)) → va_S A s.heap H locs → lv_has ls 2 [(0, .ref this), (1, .int x_286)] → W p l e ({ frames := 2, cells := 0, slots := 0, locals := 43 } : Room) s m (List.toArray ([.ref this] : List Value)) below meth c H locs 0 0 Q (F0 m 25 ls []) := by
            intro ri_336 H locs ls hF hFr hG hP hD hS hl
            replace hF := hF.trans g_X2_giveUpBeds_K25_e
            obtain ⟨x_340, ex_340⟩ : ∃ y : Int32, y = x_286 + Int32.ofInt 1 := ⟨_, rfl⟩
            replace hF := hF.trans (ap_n ex_340)
            have h_341 : rg x_340 1 40 := rg_of_eq ex_340 (rg_add h_321 (rg_k (Int32.ofInt 1) 1 rfl) (by decide))
            refine lv_iinc (v := x_340) (lv' := [(1, .int x_340), (0, .ref this)]) hx hb dX2_giveUpBeds_25 hl (k := 1) rfl ex_340.symm (by decide) rfl (fun ls hl => ?_)
            refine lv_goto (tgt := 2) hx hb dX2_giveUpBeds_28 (by decide) ?_
            exact ih_313 x_340 ri_336 _ _ _ (rg_w h_341 (by decide)) (ms_up 1 hm_310 ex_340 rfl (by decide) h_321 (by decide) (by decide)) hF hFr hG hP hD hS (lv_sub hl [1, 0] rfl)
          refine lv_if_ne (tgt := 25) hx hb dX2_giveUpBeds_15 (by decide) (fun c_342 => ?_) (fun c_342 => ?_)
          · replace hF := hF.trans (if_neg c_342)
            have h_345 : rg x_323 1 1 := rg_ne c_342 h_330 0 rfl (by decide)
            exact K_339 ri_287 _ _ _ hF hFr hG hP hD hS (lv_sub hl [0, 1] rfl)
          · replace hF := hF.trans (if_pos c_342)
            have h_346 : rg x_323 0 0 := rg_and h_330 (rg_of_eq c_342 (rg_k (0 : Int32) 0 rfl)) (by decide)
            refine lv_aload_n hx hb dX2_giveUpBeds_18 rfl (lv_at hl 0 rfl) ?_
            obtain ⟨w_347, hR_w_347, hL_w_347, hK_w_347, hN_w_347, hT_w_347⟩ := sh_a hSH 76 (ci := 2) (kd := 13) (len := 40) rfl (by decide) hL_this hK_this
            have hO_w_347 : w_347 = vrow σ 76 M := vo_k (c := 2) hO_this hR_w_347
            refine pg_f (v := .ref w_347) (C := RX2) (T := TX2) (N := 20) hx hb hts (tw_i inlX2) hown hK hP hL_this hK_this (by decide) rfl 12 (by decide) (hts _ (tw_c tw_90)) (pq_hv rfl hR_w_347) dX2_giveUpBeds_19 ?_
            refine lv_iload_n hx hb dX2_giveUpBeds_22 rfl (lv_at hl 1 rfl) ?_
            refine lv_iconst (v := 0) hx hb dX2_giveUpBeds_23 (by decide) ?_
            refine pt_i hx hb hK hP hD hS hL_w_347 hK_w_347 hN_w_347 (rg_in h_321 (by decide)) dX2_giveUpBeds_24 (fun r_348 H locs er_348 hP hD hS => ?_)
            replace hFr := fr_R hFr hO_w_347 (by decide) er_348
            replace hF := hF.trans (ap_n (vR_st hVT hO_w_347 (by decide) er_348))
            have hG := GX.wR hG hSH hT_w_347 rfl er_348 (rg_w (rg_k (0 : Int32) 0 rfl) (by decide)) (by decide)
            exact K_339 r_348 _ _ _ hF hFr hG hP hD hS (lv_sub hl [0, 1] rfl)
    exact L_312 _ (0 : Int32) ri _ _ _ (rg_w (rg_k (0 : Int32) 0 rfl) (by decide)) (Nat.lt_succ_self _) hF hFr hG hP hD hS (lv_sub hl [1, 0] rfl)
  exact go _ _ _ hP hD hS hl

set_option maxRecDepth 100000 in
def g_X2_countWalls_K24 (x_470 : Int32) (k_g_X2_countWalls_L4 : (Int32) → (Int32) → Int32 × vM) (x_505 : Int32) : Int32 × vM := (ap1 (x_470 + Int32.ofInt 1) fun (x_509 : Int32) => (k_g_X2_countWalls_L4 x_505 x_509))
set_option maxRecDepth 100000 in
theorem g_X2_countWalls_K24_e {x_470 : Int32} {k_g_X2_countWalls_L4 : (Int32) → (Int32) → Int32 × vM} {x_505 : Int32} : g_X2_countWalls_K24 x_470 k_g_X2_countWalls_L4 x_505 = (ap1 (x_470 + Int32.ofInt 1) fun (x_509 : Int32) => (k_g_X2_countWalls_L4 x_505 x_509)) := rfl
set_option maxRecDepth 100000 in
def g_X2_countWalls_L4 (I : Nat → Int32) (J : Nat → Int64) (ri : Nat → Nat → Int32) (rj : Nat → Nat → Int64) (rq : Nat → Nat → Option Nat) : Nat → (Int32) → (Int32) → Int32 × vM
  | 0, x_469, x_470 => ((0 : Int32), I, J, ri, rj, rq)
  | n_487 + 1, x_469, x_470 => (ap1 (I 65) fun (y_493 : Int32) => (if (y_493) ≤ x_470 then (x_469, I, J, ri, rj, rq) else (ap1 (ri 75 (x_470).toNatClampNeg) fun (x_500 : Int32) => (if x_500 ≤ (0 : Int32) then (g_X2_countWalls_K24 x_470 (g_X2_countWalls_L4 I J ri rj rq n_487) x_469) else (ap1 (x_469 + Int32.ofInt 1) fun (x_516 : Int32) => (g_X2_countWalls_K24 x_470 (g_X2_countWalls_L4 I J ri rj rq n_487) x_516))))))
set_option maxRecDepth 100000 in
theorem g_X2_countWalls_L4_e {I : Nat → Int32} {J : Nat → Int64} {ri : Nat → Nat → Int32} {rj : Nat → Nat → Int64} {rq : Nat → Nat → Option Nat} {n_487 : Nat} {x_469 : Int32} {x_470 : Int32} : g_X2_countWalls_L4 I J ri rj rq (n_487 + 1) x_469 x_470 = (ap1 (I 65) fun (y_493 : Int32) => (if (y_493) ≤ x_470 then (x_469, I, J, ri, rj, rq) else (ap1 (ri 75 (x_470).toNatClampNeg) fun (x_500 : Int32) => (if x_500 ≤ (0 : Int32) then (g_X2_countWalls_K24 x_470 (g_X2_countWalls_L4 I J ri rj rq n_487) x_469) else (ap1 (x_469 + Int32.ofInt 1) fun (x_516 : Int32) => (g_X2_countWalls_K24 x_470 (g_X2_countWalls_L4 I J ri rj rq n_487) x_516)))))) := rfl
set_option maxRecDepth 100000 in
def g_X2_countWalls (I : Nat → Int32) (J : Nat → Int64) (ri : Nat → Nat → Int32) (rj : Nat → Nat → Int64) (rq : Nat → Nat → Option Nat) : Int32 × vM := (g_X2_countWalls_L4 I J ri rj rq ((40 - ((0 : Int32)).toInt).toNat + 1) (0 : Int32) (0 : Int32))
set_option maxRecDepth 100000 in
theorem g_X2_countWalls_e {I : Nat → Int32} {J : Nat → Int64} {ri : Nat → Nat → Int32} {rj : Nat → Nat → Int64} {rq : Nat → Nat → Option Nat} : g_X2_countWalls I J ri rj rq = (g_X2_countWalls_L4 I J ri rj rq ((40 - ((0 : Int32)).toInt).toNat + 1) (0 : Int32) (0 : Int32)) := rfl
set_option maxHeartbeats 4000000 in
set_option maxRecDepth 100000 in
theorem s_X2_countWalls (l : Launch) (D : va_G) (t : pq_T) (σ : pq_S) (I : Nat → Nat → Int32) (J : Nat → Nat → Int64) (ri : Nat → Nat → Int32) (rj : Nat → Nat → Int64) (rq : Nat → Nat → Option Nat) (sz : Nat) (tg : Nat → Nat) (hSH : SH σ tg) (hG0 : GS tg σ I ri rq) (this : Nat) (hL_this : this ∈ σ.1) (hK_this : σ.2.1 this = 2) (M : Nat) (hL_M : M ∈ σ.1) (hK_M : σ.2.1 M = 10) (hO_this : this = vo σ 2 M) : MetI l yX2_countWalls (wa yX2_countWalls cX2_countWalls 3 (some .int)) ({ frames := 0, cells := 0, slots := 0, locals := 0 }) [.ref this] D t σ (I, J, ri, rj, rq) sz 0 0 (fun (r : Int32) (u : pq_S × pq_M) => u = (σ, I, J, ri, rj, rq) ∧ g_X2_countWalls (vI 10 σ M I) (vJ 10 σ M J) (vR 10 σ M ri) (vL 10 σ M rj) (vQ 10 σ M rq) = (r, (vI 10 σ M I), (vJ 10 σ M J), (vR 10 σ M ri), (vL 10 σ M rj), (vQ 10 σ M rq))) := by
  refine Met.ofW (cc := cX2_countWalls) (maxL := 3) (ret := (some .int)) (by decide) rfl ?_
  intro p e s m args below meth c s₁ B hml hv
  obtain ⟨rfl, hsz, hP, hK, hD0, hN⟩ := hv
  have hx := B.exec
  have hb := B.bytes
  have hr := B.returns
  have hts := atoms_spec (ws := (wa yX2_countWalls cX2_countWalls 3 (some .int))) B.pre
  have hown : s.vm.findClass RX2 = some m.cls := findClass_of_methodNamed B.named
  have hlocks := B.notSynchronized
  subst hsz
  have hD : va_D (pq_B t σ (I, J, ri, rj, rq) s.heap.size) (pq_P t σ (I, J, ri, rj, rq)) := hD0.self
  generalize hAe : pq_B t σ (I, J, ri, rj, rq) s.heap.size = A at hD ⊢
  have hA : ∀ q : Nat, s.heap.size ≤ q → A q := fun q h => by rw [← hAe]; exact Or.inr h
  have hS : va_S A s.heap s.heap [] := va_S.rf
  have hG : GX [] tg σ I ri rj I ri rj rq := ⟨hG0, fun _ _ _ => rfl, fun _ _ _ _ _ => rfl, fun _ _ _ _ _ => rfl⟩
  have hl := lv_entry ([.ref this]) (n := 3) (Nat.le_of_ble_eq_true rfl)
  rw [lg_entry_eq]
  generalize (lg_sl ([.ref this]) ++ List.replicate (3 - (lg_sl ([.ref this])).length) Slot.unset).toArray = ls at hl ⊢
  have hl : lv_has ls 3 [(0, .ref this)] := hl
  refine q_gen (fun Q hQ => ?_)
  have go : ∀ (H : Heap) (locs : List Loc) (ls : Array Slot), va_P D vwCl (pq_P t σ (I, J, ri, rj, rq)) H → va_D A (pq_P t σ (I, J, ri, rj, rq)) → va_S A s.heap H locs → lv_has ls 3 [(0, .ref this)] → W p l e ({ frames := 0, cells := 0, slots := 0, locals := 0 } : Room) s m (List.toArray ([.ref this] : List Value)) below meth c H locs 0 0 Q (F0 m 0 ls []) := by
    intro H locs ls hP hD hS hl
    have hVT : VT 10 σ tg M := vt_10 hSH hL_M hK_M
    have hFr : FR 10 tg σ M (I, J, ri, rj, rq) (I, J, ri, rj, rq) := fr_rf
    obtain ⟨F, hF0⟩ : ∃ F, F = g_X2_countWalls (vI 10 σ M I) (vJ 10 σ M J) (vR 10 σ M ri) (vL 10 σ M rj) (vQ 10 σ M rq) := ⟨_, rfl⟩
    have hF := hF0.trans g_X2_countWalls_e
    refine lv_iconst (v := 0) hx hb dX2_countWalls_0 (by decide) ?_
    refine lv_istore_n (lv' := [(1, .int 0), (0, .ref this)]) hx hb dX2_countWalls_1 rfl hl (by decide) rfl (fun ls hl => ?_)
    refine lv_iconst (v := 0) hx hb dX2_countWalls_2 (by decide) ?_
    refine lv_istore_n (lv' := [(2, .int 0), (1, .int 0), (0, .ref this)]) hx hb dX2_countWalls_3 rfl hl (by decide) rfl (fun ls hl => ?_)
    have L_488 : ∀ (n_487 : Nat) (x_469 : Int32) (x_470 : Int32) (H : Heap) (locs : List Loc) (ls : Array Slot), rg x_470 0 40 → (40 - (x_470).toInt).toNat < n_487 → F = g_X2_countWalls_L4 (vI 10 σ M I) (vJ 10 σ M J) (vR 10 σ M ri) (vL 10 σ M rj) (vQ 10 σ M rq) n_487 x_469 x_470 → FR 10 tg σ M (I, J, ri, rj, rq) (I, J, ri, rj, rq) → GX [] tg σ I ri rj I ri rj rq → va_P D vwCl (pq_P t σ (I, J, ri, rj, rq)) H → va_D A (pq_P t σ (I, J, ri, rj, rq)) → va_S A s.heap H locs → lv_has ls 3 [(0, .ref this), (1, .int x_469), (2, .int x_470)] → W p l e ({ frames := 0, cells := 0, slots := 0, locals := 0 } : Room) s m (List.toArray ([.ref this] : List Value)) below meth c H locs 0 0 Q (F0 m 4 ls []) := by
      intro n_487
      induction n_487 with
      | zero => intro x_469 x_470 H locs ls h_491 hm_486 hF hFr hG hP hD hS hl; exact absurd hm_486 (Nat.not_lt_zero _)
      | succ n_487 ih_489 =>
        intro x_469 x_470 H locs ls h_491 hm_486 hF hFr hG hP hD hS hl
        replace hF := hF.trans g_X2_countWalls_L4_e
        refine lv_iload_n hx hb dX2_countWalls_4 rfl (lv_at hl 2 rfl) ?_
        refine lv_aload_n hx hb dX2_countWalls_5 rfl (lv_at hl 0 rfl) ?_
        refine pg_f (v := .int (I 65 this)) (C := RX2) (T := TX2) (N := 20) hx hb hts (tw_i inlX2) hown hK hP hL_this hK_this (by decide) rfl 1 (by decide) (hts _ (tw_c tw_222)) rfl dX2_countWalls_6 ?_
        have h_492 : rg (I 65 this) 0 40 := GX.rI hG 65 rfl
        replace hF := hF.trans (ap_n (vI_e (f := 65) hO_this (by decide)))
        refine lv_icmp_ge (tgt := 30) hx hb dX2_countWalls_9 (by decide) (fun c_494 => ?_) (fun c_494 => ?_)
        · replace hF := hF.trans (if_pos c_494)
          refine lv_iload_n hx hb dX2_countWalls_30 rfl (lv_at hl 1 rfl) ?_
          subst hQ
          exact W.iret (v := x_469) hx hb hr (fun t1 ht hW => ⟨⟨x_469, (σ, I, J, ri, rj, rq), rfl, ⟨rfl, (hF0.symm.trans hF)⟩, by rw [ht]; exact hP, va_K.moved hW.alike hK, hD⟩, hS.F ht⟩) hS.2.2 dX2_countWalls_31
        · replace hF := hF.trans (if_neg c_494)
          have h_497 : rg x_470 0 39 := rg_lt1 (nle c_494) h_491 h_492 (by decide)
          have h_498 : rg (I 65 this) 1 40 := rg_lt2 (nle c_494) h_491 h_492 (by decide)
          refine lv_aload_n hx hb dX2_countWalls_12 rfl (lv_at hl 0 rfl) ?_
          obtain ⟨w_499, hR_w_499, hL_w_499, hK_w_499, hN_w_499, hT_w_499⟩ := sh_a hSH 75 (ci := 2) (kd := 13) (len := 40) rfl (by decide) hL_this hK_this
          have hO_w_499 : w_499 = vrow σ 75 M := vo_k (c := 2) hO_this hR_w_499
          refine pg_f (v := .ref w_499) (C := RX2) (T := TX2) (N := 20) hx hb hts (tw_i inlX2) hown hK hP hL_this hK_this (by decide) rfl 11 (by decide) (hts _ (tw_c tw_89)) (pq_hv rfl hR_w_499) dX2_countWalls_13 ?_
          refine lv_iload_n hx hb dX2_countWalls_16 rfl (lv_at hl 2 rfl) ?_
          refine pl_i hx hb hK hP hL_w_499 hK_w_499 hN_w_499 (rg_in h_497 (by decide)) dX2_countWalls_17 ?_
          refine lv_topi (fun x_500 ex_500 => ?_)
          replace hF := hF.trans (ap_n (vR_r hO_w_499 (by decide) ex_500))
          have K_508 : ∀  (x_505 : Int32) (H : Heap) (locs : List Loc) (ls : Array Slot), F = g_X2_countWalls_K24 x_470 (g_X2_countWalls_L4 (vI 10 σ M I) (vJ 10 σ M J) (vR 10 σ M ri) (vL 10 σ M rj) (vQ 10 σ M rq) n_487) x_505 → FR 10 tg σ M (I, J, ri, rj, rq) (I, J, ri, rj, rq) → GX [] tg σ I ri rj I ri rj rq → va_P D vwCl (pq_P t σ (I, J, ri, rj, rq)) H → va_D A (pq_P t σ (I, J, ri, rj, rq)) → va_S A s.heap H locs → lv_has ls 3 [(0, .ref this), (1, .int x_505), (2, .int x_470)] → W p l e ({ frames := 0, cells := 0, slots := 0, locals := 0 } : Room) s m (List.toArray ([.ref this] : List Value)) below meth c H locs 0 0 Q (F0 m 24 ls []) := by
            intro x_505 H locs ls hF hFr hG hP hD hS hl
            replace hF := hF.trans g_X2_countWalls_K24_e
            obtain ⟨x_509, ex_509⟩ : ∃ y : Int32, y = x_470 + Int32.ofInt 1 := ⟨_, rfl⟩
            replace hF := hF.trans (ap_n ex_509)
            have h_510 : rg x_509 1 40 := rg_of_eq ex_509 (rg_add h_497 (rg_k (Int32.ofInt 1) 1 rfl) (by decide))
            refine lv_iinc (v := x_509) (lv' := [(2, .int x_509), (0, .ref this), (1, .int x_505)]) hx hb dX2_countWalls_24 hl (k := 2) rfl ex_509.symm (by decide) rfl (fun ls hl => ?_)
            refine lv_goto (tgt := 4) hx hb dX2_countWalls_27 (by decide) ?_
            exact ih_489 x_505 x_509 _ _ _ (rg_w h_510 (by decide)) (ms_up 1 hm_486 ex_509 rfl (by decide) h_497 (by decide) (by decide)) hF hFr hG hP hD hS (lv_sub hl [1, 2, 0] rfl)
          refine lv_if_le (tgt := 24) hx hb dX2_countWalls_18 (by decide) (fun c_511 => ?_) (fun c_511 => ?_)
          · replace hF := hF.trans (if_pos c_511)
            have h_514 : rg x_500 (-2147483648) 0 := rg_le1 c_511 (rg_full _) (rg_k (0 : Int32) 0 rfl) (by decide)
            exact K_508 x_469 _ _ _ hF hFr hG hP hD hS (lv_sub hl [0, 1, 2] rfl)
          · replace hF := hF.trans (if_neg c_511)
            have h_515 : rg x_500 1 2147483647 := rg_lt2 (nle c_511) (rg_k (0 : Int32) 0 rfl) (rg_full _) (by decide)
            obtain ⟨x_516, ex_516⟩ : ∃ y : Int32, y = x_469 + Int32.ofInt 1 := ⟨_, rfl⟩
            replace hF := hF.trans (ap_n ex_516)
            refine lv_iinc (v := x_516) (lv' := [(1, .int x_516), (0, .ref this), (2, .int x_470)]) hx hb dX2_countWalls_21 hl (k := 1) rfl ex_516.symm (by decide) rfl (fun ls hl => ?_)
            exact K_508 x_516 _ _ _ hF hFr hG hP hD hS (lv_sub hl [1, 0, 2] rfl)
    exact L_488 _ (0 : Int32) (0 : Int32) _ _ _ (rg_w (rg_k (0 : Int32) 0 rfl) (by decide)) (Nat.lt_succ_self _) hF hFr hG hP hD hS (lv_sub hl [2, 1, 0] rfl)
  exact go _ _ _ hP hD hS hl

set_option maxHeartbeats 4000000 in
set_option maxRecDepth 100000 in
theorem s_X11_fill_82 (l : Launch) (D : va_G) (t : pq_T) (σ : pq_S) (I : Nat → Nat → Int32) (J : Nat → Nat → Int64) (ri : Nat → Nat → Int32) (rj : Nat → Nat → Int64) (rq : Nat → Nat → Option Nat) (sz : Nat) (tg : Nat → Nat) (hSH : SH σ tg) (hG0 : GS tg σ I ri rq) (a0 : Nat) (a1 : Int32) (hL_a0 : a0 ∈ σ.1) (hK_a0 : σ.2.1 a0 = 13) (hN_a0 : σ.2.2.2 a0 = 32) (hT_a0 : tg a0 = 82) : MetV l yX11_fill (wa yX11_fill cX11_fill 3 none) ({ frames := 0, cells := 0, slots := 0, locals := 0 }) [.ref a0, .int a1] D t σ (I, J, ri, rj, rq) sz 0 0 (fun (u : pq_S × pq_M) => ∃ ri' : Nat → Nat → Int32, u = (σ, I, J, ri', rj, rq) ∧ GX [] tg σ I ri rj I ri' rj rq ∧ (ri' = va_up ri a0 (fil a1 32 (ri a0)))) := by
  refine Met.ofW (cc := cX11_fill) (maxL := 3) (ret := none) (by decide) rfl ?_
  intro p e s m args below meth c s₁ B hml hv
  obtain ⟨rfl, hsz, hP, hK, hD0, hN⟩ := hv
  have hx := B.exec
  have hb := B.bytes
  have hr := B.returns
  have hts := atoms_spec (ws := (wa yX11_fill cX11_fill 3 none)) B.pre
  have hown : s.vm.findClass RX11 = some m.cls := findClass_of_methodNamed B.named
  have hlocks := B.notSynchronized
  subst hsz
  have hD : va_D (pq_B t σ (I, J, ri, rj, rq) s.heap.size) (pq_P t σ (I, J, ri, rj, rq)) := hD0.self
  generalize hAe : pq_B t σ (I, J, ri, rj, rq) s.heap.size = A at hD ⊢
  have hA : ∀ q : Nat, s.heap.size ≤ q → A q := fun q h => by rw [← hAe]; exact Or.inr h
  have hS : va_S A s.heap s.heap [] := va_S.rf
  have hG : GX [] tg σ I ri rj I ri rj rq := ⟨hG0, fun _ _ _ => rfl, fun _ _ _ _ _ => rfl, fun _ _ _ _ _ => rfl⟩
  have hl := lv_entry ([.ref a0, .int a1]) (n := 3) (Nat.le_of_ble_eq_true rfl)
  rw [lg_entry_eq]
  generalize (lg_sl ([.ref a0, .int a1]) ++ List.replicate (3 - (lg_sl ([.ref a0, .int a1])).length) Slot.unset).toArray = ls at hl ⊢
  have hl : lv_has ls 3 [(0, .ref a0), (1, .int a1)] := hl
  refine q_gen (fun Q hQ => ?_)
  have go : ∀ (H : Heap) (locs : List Loc) (ls : Array Slot), va_P D vwCl (pq_P t σ (I, J, ri, rj, rq)) H → va_D A (pq_P t σ (I, J, ri, rj, rq)) → va_S A s.heap H locs → lv_has ls 3 [(0, .ref a0), (1, .int a1)] → W p l e ({ frames := 0, cells := 0, slots := 0, locals := 0 } : Room) s m (List.toArray ([.ref a0, .int a1] : List Value)) below meth c H locs 0 0 Q (F0 m 0 ls []) := by
    intro H locs ls hP hD hS hl
    refine lv_iconst (v := 0) hx hb dX11_fill_0 (by decide) ?_
    refine lv_istore_n (lv' := [(2, .int 0), (0, .ref a0), (1, .int a1)]) hx hb dX11_fill_1 rfl hl (by decide) rfl (fun ls hl => ?_)
    have L_172 : ∀ (n_171 : Nat) (x_157 : Int32) (ri_158 : Nat → Nat → Int32) (H : Heap) (locs : List Loc) (ls : Array Slot), rg x_157 0 32 → (0 ≤ (x_157).toInt) → (ri_158 = va_up ri a0 (fil a1 (x_157).toNatClampNeg (ri a0))) → (32 - (x_157).toInt).toNat < n_171 → GX [] tg σ I ri rj I ri_158 rj rq → va_P D vwCl (pq_P t σ (I, J, ri_158, rj, rq)) H → va_D A (pq_P t σ (I, J, ri_158, rj, rq)) → va_S A s.heap H locs → lv_has ls 3 [(0, .ref a0), (1, .int a1), (2, .int x_157)] → W p l e ({ frames := 0, cells := 0, slots := 0, locals := 0 } : Room) s m (List.toArray ([.ref a0, .int a1] : List Value)) below meth c H locs 0 0 Q (F0 m 2 ls []) := by
      intro n_171
      induction n_171 with
      | zero => intro x_157 ri_158 H locs ls h_177 hrel_178 hrel_179 hm_170 hG hP hD hS hl; exact absurd hm_170 (Nat.not_lt_zero _)
      | succ n_171 ih_173 =>
        intro x_157 ri_158 H locs ls h_177 hrel_178 hrel_179 hm_170 hG hP hD hS hl
        have uh_177 := h_177.1
        have vh_177 := h_177.2
        refine lv_iload_n hx hb dX11_fill_2 rfl (lv_at hl 2 rfl) ?_
        refine lv_aload_n hx hb dX11_fill_3 rfl (lv_at hl 0 rfl) ?_
        refine pn_i (v := 32) hx hb hK hP hL_a0 hK_a0 hN_a0 (by decide) dX11_fill_4 ?_
        refine lv_icmp_ge (tgt := 18) hx hb dX11_fill_5 (by decide) (fun c_180 => ?_) (fun c_180 => ?_)
        · have tc_181 : 32 ≤ (x_157).toInt := Int32.le_iff_toInt_le.mp c_180
          have h_182 : rg x_157 32 32 := rg_le2 c_180 (rg_k (32 : Int32) 32 rfl) h_177 (by decide)
          have uh_182 := h_182.1
          have vh_182 := h_182.2
          subst hQ
          exact W.vret hx hb hr (fun t1 ht hW => ⟨⟨(σ, I, J, ri_158, rj, rq), rfl, ⟨ri_158, rfl, hG, (by rw [hrel_179, show (x_157).toNatClampNeg = 32 from by have z_i := clampE x_157; omega])⟩, by rw [ht]; exact hP, va_K.moved hW.alike hK, hD⟩, hS.F ht⟩) hS.2.2 dX11_fill_18
        · have tc_183 : (x_157).toInt < 32 := Int32.lt_iff_toInt_lt.mp (nle c_180)
          have h_184 : rg x_157 0 31 := rg_lt1 (nle c_180) h_177 (rg_k (32 : Int32) 32 rfl) (by decide)
          have uh_184 := h_184.1
          have vh_184 := h_184.2
          refine lv_aload_n hx hb dX11_fill_8 rfl (lv_at hl 0 rfl) ?_
          refine lv_iload_n hx hb dX11_fill_9 rfl (lv_at hl 2 rfl) ?_
          refine lv_iload_n hx hb dX11_fill_10 rfl (lv_at hl 1 rfl) ?_
          refine pt_i hx hb hK hP hD hS hL_a0 hK_a0 hN_a0 (rg_in h_184 (by decide)) dX11_fill_11 (fun r_185 H locs er_185 hP hD hS => ?_)
          have hG := GX.wR hG hSH hT_a0 rfl er_185 (rg_w (rg_full _) (by decide)) (by decide)
          obtain ⟨x_186, ex_186⟩ : ∃ y : Int32, y = x_157 + Int32.ofInt 1 := ⟨_, rfl⟩
          have h_187 : rg x_186 1 32 := rg_of_eq ex_186 (rg_add h_184 (rg_k (Int32.ofInt 1) 1 rfl) (by decide))
          have uh_187 := h_187.1
          have vh_187 := h_187.2
          have tx_186 : (x_186).toInt = (x_157).toInt + 1 := by rw [ex_186]; exact i_add_rg (a2 := (x_157).toInt) (b2 := 1) rfl rfl h_184 (rg_k (Int32.ofInt 1) 1 rfl) (by decide)
          refine lv_iinc (v := x_186) (lv' := [(2, .int x_186), (0, .ref a0), (1, .int a1)]) hx hb dX11_fill_12 hl (k := 2) rfl ex_186.symm (by decide) rfl (fun ls hl => ?_)
          refine lv_goto (tgt := 2) hx hb dX11_fill_15 (by decide) ?_
          exact ih_173 x_186 r_185 _ _ _ (rg_w h_187 (by decide)) (by omega) (fil_s hrel_179 er_185 (by have z_i := clampE x_157; have z_n := clampE x_186; omega)) (ms_up 1 hm_170 ex_186 rfl (by decide) h_184 (by decide) (by decide)) hG hP hD hS (lv_sub hl [1, 2, 0] rfl)
    exact L_172 _ (0 : Int32) ri _ _ _ (rg_w (rg_k (0 : Int32) 0 rfl) (by decide)) (by have k0 : (0 : Int32).toInt = 0 := rfl; omega) fil_0 (Nat.lt_succ_self _) hG hP hD hS (lv_sub hl [1, 2, 0] rfl)
  exact go _ _ _ hP hD hS hl

set_option maxRecDepth 100000 in
def g_X2_measure_K41 (x_1237 : Int32) (ri_1238 : Nat → Nat → Int32) (k_g_X2_measure_L4 : (Int32) → (Int32) → (Nat → Nat → Int32) → vM) (x_1426 : Int32) : vM := (ap1 (va_up ri_1238 83 (upd (ri_1238 83) (x_1237).toNatClampNeg x_1426)) fun (r_1473 : Nat → Nat → Int32) => (ap1 (x_1237 + Int32.ofInt 1) fun (x_1474 : Int32) => (k_g_X2_measure_L4 x_1426 x_1474 r_1473)))
set_option maxRecDepth 100000 in
theorem g_X2_measure_K41_e {x_1237 : Int32} {ri_1238 : Nat → Nat → Int32} {k_g_X2_measure_L4 : (Int32) → (Int32) → (Nat → Nat → Int32) → vM} {x_1426 : Int32} : g_X2_measure_K41 x_1237 ri_1238 k_g_X2_measure_L4 x_1426  = (ap1 (va_up ri_1238 83 (upd (ri_1238 83) (x_1237).toNatClampNeg x_1426)) fun (r_1473 : Nat → Nat → Int32) => (ap1 (x_1237 + Int32.ofInt 1) fun (x_1474 : Int32) => (k_g_X2_measure_L4 x_1426 x_1474 r_1473))) := rfl
set_option maxRecDepth 100000 in
def g_X2_measure_L18 (a0 : Int32) (I : Nat → Int32) (J : Nat → Int64) (rj : Nat → Nat → Int64) (rq : Nat → Nat → Option Nat) (x_1237 : Int32) (ri_1238 : Nat → Nat → Int32) (k_g_X2_measure_L4 : (Int32) → (Int32) → (Nat → Nat → Int32) → vM) : Nat → (Int32) → vM
  | 0, x_1426 => (I, J, ri_1238, rj, rq)
  | n_1448 + 1, x_1426 => (if x_1426 ≤ (0 : Int32) then (g_X2_measure_K41 x_1237 ri_1238 k_g_X2_measure_L4 x_1426 ) else (ap1 (x_1426 * x_1426) fun (x_1481 : Int32) => (ap1 (x_1237 * x_1237) fun (x_1483 : Int32) => (ap1 (x_1481 + x_1483) fun (x_1485 : Int32) => (ap1 (a0 * a0) fun (x_1487 : Int32) => (if x_1485 ≤ x_1487 then (g_X2_measure_K41 x_1237 ri_1238 k_g_X2_measure_L4 x_1426 ) else (ap1 (x_1426 + Int32.ofInt (-1)) fun (x_1494 : Int32) => ((g_X2_measure_L18 a0 I J rj rq x_1237 ri_1238 k_g_X2_measure_L4 n_1448) x_1494))))))))
set_option maxRecDepth 100000 in
theorem g_X2_measure_L18_e {a0 : Int32} {I : Nat → Int32} {J : Nat → Int64} {rj : Nat → Nat → Int64} {rq : Nat → Nat → Option Nat} {x_1237 : Int32} {ri_1238 : Nat → Nat → Int32} {k_g_X2_measure_L4 : (Int32) → (Int32) → (Nat → Nat → Int32) → vM} {n_1448 : Nat} {x_1426 : Int32} : g_X2_measure_L18 a0 I J rj rq x_1237 ri_1238 k_g_X2_measure_L4 (n_1448 + 1) x_1426 = (if x_1426 ≤ (0 : Int32) then (g_X2_measure_K41 x_1237 ri_1238 k_g_X2_measure_L4 x_1426 ) else (ap1 (x_1426 * x_1426) fun (x_1481 : Int32) => (ap1 (x_1237 * x_1237) fun (x_1483 : Int32) => (ap1 (x_1481 + x_1483) fun (x_1485 : Int32) => (ap1 (a0 * a0) fun (x_1487 : Int32) => (if x_1485 ≤ x_1487 then (g_X2_measure_K41 x_1237 ri_1238 k_g_X2_measure_L4 x_1426 ) else (ap1 (x_1426 + Int32.ofInt (-1)) fun (x_1494 : Int32) => ((g_X2_measure_L18 a0 I J rj rq x_1237 ri_1238 k_g_X2_measure_L4 n_1448) x_1494)))))))) := rfl
set_option maxRecDepth 100000 in
def g_X2_measure_L4 (a0 : Int32) (I : Nat → Int32) (J : Nat → Int64) (rj : Nat → Nat → Int64) (rq : Nat → Nat → Option Nat) : Nat → (Int32) → (Int32) → (Nat → Nat → Int32) → vM
  | 0, x_1236, x_1237, ri_1238 => (I, J, ri_1238, rj, rq)
  | n_1351 + 1, x_1236, x_1237, ri_1238 => (if a0 < x_1237 then (I, J, ri_1238, rj, rq) else (g_X2_measure_L18 a0 I J rj rq x_1237 ri_1238 (g_X2_measure_L4 a0 I J rj rq n_1351) (((x_1236).toInt - 0).toNat + 1) x_1236))
set_option maxRecDepth 100000 in
theorem g_X2_measure_L4_e {a0 : Int32} {I : Nat → Int32} {J : Nat → Int64} {rj : Nat → Nat → Int64} {rq : Nat → Nat → Option Nat} {n_1351 : Nat} {x_1236 : Int32} {x_1237 : Int32} {ri_1238 : Nat → Nat → Int32} : g_X2_measure_L4 a0 I J rj rq (n_1351 + 1) x_1236 x_1237 ri_1238 = (if a0 < x_1237 then (I, J, ri_1238, rj, rq) else (g_X2_measure_L18 a0 I J rj rq x_1237 ri_1238 (g_X2_measure_L4 a0 I J rj rq n_1351) (((x_1236).toInt - 0).toNat + 1) x_1236)) := rfl
set_option maxRecDepth 100000 in
def g_X2_measure (a0 : Int32) (I : Nat → Int32) (J : Nat → Int64) (ri : Nat → Nat → Int32) (rj : Nat → Nat → Int64) (rq : Nat → Nat → Option Nat) : vM := (g_X2_measure_L4 a0 I J rj rq ((21 - ((0 : Int32)).toInt).toNat + 1) a0 (0 : Int32) ri)
set_option maxRecDepth 100000 in
theorem g_X2_measure_e {a0 : Int32} {I : Nat → Int32} {J : Nat → Int64} {ri : Nat → Nat → Int32} {rj : Nat → Nat → Int64} {rq : Nat → Nat → Option Nat} : g_X2_measure a0 I J ri rj rq = (g_X2_measure_L4 a0 I J rj rq ((21 - ((0 : Int32)).toInt).toNat + 1) a0 (0 : Int32) ri) := rfl
set_option maxHeartbeats 4000000 in
set_option maxRecDepth 100000 in
theorem s_X2_measure (l : Launch) (D : va_G) (t : pq_T) (σ : pq_S) (I : Nat → Nat → Int32) (J : Nat → Nat → Int64) (ri : Nat → Nat → Int32) (rj : Nat → Nat → Int64) (rq : Nat → Nat → Option Nat) (sz : Nat) (tg : Nat → Nat) (hSH : SH σ tg) (hG0 : GS tg σ I ri rq) (this : Nat) (a0 : Int32) (hL_this : this ∈ σ.1) (hK_this : σ.2.1 this = 2) (h_a0 : rg a0 0 20) (M : Nat) (hL_M : M ∈ σ.1) (hK_M : σ.2.1 M = 10) (hO_this : this = vo σ 2 M) : MetV l yX2_measure (wa yX2_measure cX2_measure 4 none) ({ frames := 0, cells := 0, slots := 0, locals := 0 }) [.ref this, .int a0] D t σ (I, J, ri, rj, rq) sz 0 0 (fun (u : pq_S × pq_M) => ∃ ri' : Nat → Nat → Int32, u = (σ, I, J, ri', rj, rq) ∧ GX [] tg σ I ri rj I ri' rj rq ∧ g_X2_measure a0 (vI 10 σ M I) (vJ 10 σ M J) (vR 10 σ M ri) (vL 10 σ M rj) (vQ 10 σ M rq) = ((vI 10 σ M I), (vJ 10 σ M J), (vR 10 σ M ri'), (vL 10 σ M rj), (vQ 10 σ M rq)) ∧ FR 10 tg σ M (I, J, ri, rj, rq) (I, J, ri', rj, rq)) := by
  refine Met.ofW (cc := cX2_measure) (maxL := 4) (ret := none) (by decide) rfl ?_
  intro p e s m args below meth c s₁ B hml hv
  obtain ⟨rfl, hsz, hP, hK, hD0, hN⟩ := hv
  have hx := B.exec
  have hb := B.bytes
  have hr := B.returns
  have hts := atoms_spec (ws := (wa yX2_measure cX2_measure 4 none)) B.pre
  have hown : s.vm.findClass RX2 = some m.cls := findClass_of_methodNamed B.named
  have hlocks := B.notSynchronized
  subst hsz
  have hD : va_D (pq_B t σ (I, J, ri, rj, rq) s.heap.size) (pq_P t σ (I, J, ri, rj, rq)) := hD0.self
  generalize hAe : pq_B t σ (I, J, ri, rj, rq) s.heap.size = A at hD ⊢
  have hA : ∀ q : Nat, s.heap.size ≤ q → A q := fun q h => by rw [← hAe]; exact Or.inr h
  have hS : va_S A s.heap s.heap [] := va_S.rf
  have hG : GX [] tg σ I ri rj I ri rj rq := ⟨hG0, fun _ _ _ => rfl, fun _ _ _ _ _ => rfl, fun _ _ _ _ _ => rfl⟩
  have hl := lv_entry ([.ref this, .int a0]) (n := 4) (Nat.le_of_ble_eq_true rfl)
  rw [lg_entry_eq]
  generalize (lg_sl ([.ref this, .int a0]) ++ List.replicate (4 - (lg_sl ([.ref this, .int a0])).length) Slot.unset).toArray = ls at hl ⊢
  have hl : lv_has ls 4 [(0, .ref this), (1, .int a0)] := hl
  refine q_gen (fun Q hQ => ?_)
  have go : ∀ (H : Heap) (locs : List Loc) (ls : Array Slot), va_P D vwCl (pq_P t σ (I, J, ri, rj, rq)) H → va_D A (pq_P t σ (I, J, ri, rj, rq)) → va_S A s.heap H locs → lv_has ls 4 [(0, .ref this), (1, .int a0)] → W p l e ({ frames := 0, cells := 0, slots := 0, locals := 0 } : Room) s m (List.toArray ([.ref this, .int a0] : List Value)) below meth c H locs 0 0 Q (F0 m 0 ls []) := by
    intro H locs ls hP hD hS hl
    have hVT : VT 10 σ tg M := vt_10 hSH hL_M hK_M
    have hFr : FR 10 tg σ M (I, J, ri, rj, rq) (I, J, ri, rj, rq) := fr_rf
    obtain ⟨F, hF0⟩ : ∃ F, F = g_X2_measure a0 (vI 10 σ M I) (vJ 10 σ M J) (vR 10 σ M ri) (vL 10 σ M rj) (vQ 10 σ M rq) := ⟨_, rfl⟩
    have hF := hF0.trans g_X2_measure_e
    refine lv_iload_n hx hb dX2_measure_0 rfl (lv_at hl 1 rfl) ?_
    refine lv_istore_n (lv' := [(2, .int a0), (0, .ref this), (1, .int a0)]) hx hb dX2_measure_1 rfl hl (by decide) rfl (fun ls hl => ?_)
    refine lv_iconst (v := 0) hx hb dX2_measure_2 (by decide) ?_
    refine lv_istore_n (lv' := [(3, .int 0), (2, .int a0), (0, .ref this), (1, .int a0)]) hx hb dX2_measure_3 rfl hl (by decide) rfl (fun ls hl => ?_)
    have L_1352 : ∀ (n_1351 : Nat) (x_1236 : Int32) (x_1237 : Int32) (ri_1238 : Nat → Nat → Int32) (H : Heap) (locs : List Loc) (ls : Array Slot), rg x_1236 0 20 → rg x_1237 0 21 → (21 - (x_1237).toInt).toNat < n_1351 → F = g_X2_measure_L4 a0 (vI 10 σ M I) (vJ 10 σ M J) (vL 10 σ M rj) (vQ 10 σ M rq) n_1351 x_1236 x_1237 (vR 10 σ M ri_1238) → FR 10 tg σ M (I, J, ri, rj, rq) (I, J, ri_1238, rj, rq) → GX [] tg σ I ri rj I ri_1238 rj rq → va_P D vwCl (pq_P t σ (I, J, ri_1238, rj, rq)) H → va_D A (pq_P t σ (I, J, ri_1238, rj, rq)) → va_S A s.heap H locs → lv_has ls 4 [(0, .ref this), (1, .int a0), (2, .int x_1236), (3, .int x_1237)] → W p l e ({ frames := 0, cells := 0, slots := 0, locals := 0 } : Room) s m (List.toArray ([.ref this, .int a0] : List Value)) below meth c H locs 0 0 Q (F0 m 4 ls []) := by
      intro n_1351
      induction n_1351 with
      | zero => intro x_1236 x_1237 ri_1238 H locs ls h_1356 h_1357 hm_1350 hF hFr hG hP hD hS hl; exact absurd hm_1350 (Nat.not_lt_zero _)
      | succ n_1351 ih_1353 =>
        intro x_1236 x_1237 ri_1238 H locs ls h_1356 h_1357 hm_1350 hF hFr hG hP hD hS hl
        replace hF := hF.trans g_X2_measure_L4_e
        refine lv_iload_n hx hb dX2_measure_4 rfl (lv_at hl 3 rfl) ?_
        refine lv_iload_n hx hb dX2_measure_5 rfl (lv_at hl 1 rfl) ?_
        refine lv_icmp_gt (tgt := 54) hx hb dX2_measure_6 (by decide) (fun c_1358 => ?_) (fun c_1358 => ?_)
        · replace hF := hF.trans (if_pos c_1358)
          have h_1361 : rg x_1237 1 21 := rg_lt2 c_1358 h_a0 h_1357 (by decide)
          subst hQ
          exact W.vret hx hb hr (fun t1 ht hW => ⟨⟨(σ, I, J, ri_1238, rj, rq), rfl, ⟨ri_1238, rfl, hG, (hF0.symm.trans hF), hFr⟩, by rw [ht]; exact hP, va_K.moved hW.alike hK, hD⟩, hS.F ht⟩) hS.2.2 dX2_measure_54
        · replace hF := hF.trans (if_neg c_1358)
          have h_1362 : rg x_1237 0 20 := rg_le1 (nlt c_1358) h_1357 h_a0 (by decide)
          refine lv_iload_n hx hb dX2_measure_9 rfl (lv_at hl 3 rfl) ?_
          refine lv_aload_n hx hb dX2_measure_10 rfl (lv_at hl 0 rfl) ?_
          obtain ⟨w_1363, hR_w_1363, hL_w_1363, hK_w_1363, hN_w_1363, hT_w_1363⟩ := sh_a hSH 83 (ci := 2) (kd := 13) (len := 21) rfl (by decide) hL_this hK_this
          have hO_w_1363 : w_1363 = vrow σ 83 M := vo_k (c := 2) hO_this hR_w_1363
          refine pg_f (v := .ref w_1363) (C := RX2) (T := TX2) (N := 20) hx hb hts (tw_i inlX2) hown hK hP hL_this hK_this (by decide) rfl 19 (by decide) (hts _ (tw_c tw_100)) (pq_hv rfl hR_w_1363) dX2_measure_11 ?_
          refine pn_i (v := 21) hx hb hK hP hL_w_1363 hK_w_1363 hN_w_1363 (by decide) dX2_measure_14 ?_
          refine lv_icmp_ge (tgt := 54) hx hb dX2_measure_15 (by decide) (fun c_1364 => ?_) (fun c_1364 => ?_)
          · exact (rg_empty (rg_le2 c_1364 (rg_k (21 : Int32) 21 rfl) h_1362 (lo := 21) (hi := 20) (by decide)) (by decide)).elim
          · have L_1449 : ∀ (n_1448 : Nat) (x_1426 : Int32) (H : Heap) (locs : List Loc) (ls : Array Slot), rg x_1426 0 20 → ((x_1426).toInt - 0).toNat < n_1448 → F = g_X2_measure_L18 a0 (vI 10 σ M I) (vJ 10 σ M J) (vL 10 σ M rj) (vQ 10 σ M rq) x_1237 (vR 10 σ M ri_1238) (g_X2_measure_L4 a0 (vI 10 σ M I) (vJ 10 σ M J) (vL 10 σ M rj) (vQ 10 σ M rq) n_1351) n_1448 x_1426 → FR 10 tg σ M (I, J, ri, rj, rq) (I, J, ri_1238, rj, rq) → GX [] tg σ I ri rj I ri_1238 rj rq → va_P D vwCl (pq_P t σ (I, J, ri_1238, rj, rq)) H → va_D A (pq_P t σ (I, J, ri_1238, rj, rq)) → va_S A s.heap H locs → lv_has ls 4 [(0, .ref this), (1, .int a0), (2, .int x_1426), (3, .int x_1237)] → W p l e ({ frames := 0, cells := 0, slots := 0, locals := 0 } : Room) s m (List.toArray ([.ref this, .int a0] : List Value)) below meth c H locs 0 0 Q (F0 m 18 ls []) := by
              intro n_1448
              induction n_1448 with
              | zero => intro x_1426 H locs ls h_1452 hm_1447 hF hFr hG hP hD hS hl; exact absurd hm_1447 (Nat.not_lt_zero _)
              | succ n_1448 ih_1450 =>
                intro x_1426 H locs ls h_1452 hm_1447 hF hFr hG hP hD hS hl
                replace hF := hF.trans g_X2_measure_L18_e
                refine lv_iload_n hx hb dX2_measure_18 rfl (lv_at hl 2 rfl) ?_
                have K_1472 : ∀  (H : Heap) (locs : List Loc) (ls : Array Slot), F = g_X2_measure_K41 x_1237 (vR 10 σ M ri_1238) (g_X2_measure_L4 a0 (vI 10 σ M I) (vJ 10 σ M J) (vL 10 σ M rj) (vQ 10 σ M rq) n_1351) x_1426  → FR 10 tg σ M (I, J, ri, rj, rq) (I, J, ri_1238, rj, rq) → GX [] tg σ I ri rj I ri_1238 rj rq → va_P D vwCl (pq_P t σ (I, J, ri_1238, rj, rq)) H → va_D A (pq_P t σ (I, J, ri_1238, rj, rq)) → va_S A s.heap H locs → lv_has ls 4 [(0, .ref this), (1, .int a0), (2, .int x_1426), (3, .int x_1237)] → W p l e ({ frames := 0, cells := 0, slots := 0, locals := 0 } : Room) s m (List.toArray ([.ref this, .int a0] : List Value)) below meth c H locs 0 0 Q (F0 m 41 ls []) := by
                  intro H locs ls hF hFr hG hP hD hS hl
                  replace hF := hF.trans g_X2_measure_K41_e
                  refine lv_aload_n hx hb dX2_measure_41 rfl (lv_at hl 0 rfl) ?_
                  refine pg_f (v := .ref w_1363) (C := RX2) (T := TX2) (N := 20) hx hb hts (tw_i inlX2) hown hK hP hL_this hK_this (by decide) rfl 19 (by decide) (hts _ (tw_c tw_100)) (pq_hv rfl hR_w_1363) dX2_measure_42 ?_
                  refine lv_iload_n hx hb dX2_measure_45 rfl (lv_at hl 3 rfl) ?_
                  refine lv_iload_n hx hb dX2_measure_46 rfl (lv_at hl 2 rfl) ?_
                  refine pt_i hx hb hK hP hD hS hL_w_1363 hK_w_1363 hN_w_1363 (rg_in h_1362 (by decide)) dX2_measure_47 (fun r_1473 H locs er_1473 hP hD hS => ?_)
                  replace hFr := fr_R hFr hO_w_1363 (by decide) er_1473
                  replace hF := hF.trans (ap_n (vR_st hVT hO_w_1363 (by decide) er_1473))
                  have hG := GX.wR hG hSH hT_w_1363 rfl er_1473 (rg_w h_1452 (by decide)) (by decide)
                  obtain ⟨x_1474, ex_1474⟩ : ∃ y : Int32, y = x_1237 + Int32.ofInt 1 := ⟨_, rfl⟩
                  replace hF := hF.trans (ap_n ex_1474)
                  have h_1475 : rg x_1474 1 21 := rg_of_eq ex_1474 (rg_add h_1362 (rg_k (Int32.ofInt 1) 1 rfl) (by decide))
                  refine lv_iinc (v := x_1474) (lv' := [(3, .int x_1474), (0, .ref this), (1, .int a0), (2, .int x_1426)]) hx hb dX2_measure_48 hl (k := 3) rfl ex_1474.symm (by decide) rfl (fun ls hl => ?_)
                  refine lv_goto (tgt := 4) hx hb dX2_measure_51 (by decide) ?_
                  exact ih_1353 x_1426 x_1474 r_1473 _ _ _ (rg_w h_1452 (by decide)) (rg_w h_1475 (by decide)) (ms_up 1 hm_1350 ex_1474 rfl (by decide) h_1362 (by decide) (by decide)) hF hFr hG hP hD hS (lv_sub hl [1, 2, 3, 0] rfl)
                refine lv_if_le (tgt := 41) hx hb dX2_measure_19 (by decide) (fun c_1476 => ?_) (fun c_1476 => ?_)
                · replace hF := hF.trans (if_pos c_1476)
                  have h_1479 : rg x_1426 0 0 := rg_le1 c_1476 h_1452 (rg_k (0 : Int32) 0 rfl) (by decide)
                  exact K_1472 _ _ _ hF hFr hG hP hD hS (lv_sub hl [0, 1, 2, 3] rfl)
                · replace hF := hF.trans (if_neg c_1476)
                  have h_1480 : rg x_1426 1 20 := rg_lt2 (nle c_1476) (rg_k (0 : Int32) 0 rfl) h_1452 (by decide)
                  refine lv_iload_n hx hb dX2_measure_22 rfl (lv_at hl 2 rfl) ?_
                  refine lv_iload_n hx hb dX2_measure_23 rfl (lv_at hl 2 rfl) ?_
                  refine lv_imul hx hb dX2_measure_24 ?_
                  refine lv_topi (fun x_1481 ex_1481 => ?_)
                  replace hF := hF.trans (ap_n ex_1481)
                  have h_1482 : rg x_1481 1 400 := rg_of_eq ex_1481 (rg_mul h_1480 h_1480 (by decide))
                  refine lv_iload_n hx hb dX2_measure_25 rfl (lv_at hl 3 rfl) ?_
                  refine lv_iload_n hx hb dX2_measure_26 rfl (lv_at hl 3 rfl) ?_
                  refine lv_imul hx hb dX2_measure_27 ?_
                  refine lv_topi (fun x_1483 ex_1483 => ?_)
                  replace hF := hF.trans (ap_n ex_1483)
                  have h_1484 : rg x_1483 0 400 := rg_of_eq ex_1483 (rg_mul h_1362 h_1362 (by decide))
                  refine lv_iadd hx hb dX2_measure_28 ?_
                  refine lv_topi (fun x_1485 ex_1485 => ?_)
                  replace hF := hF.trans (ap_n ex_1485)
                  have h_1486 : rg x_1485 1 800 := rg_of_eq ex_1485 (rg_add h_1482 h_1484 (by decide))
                  refine lv_iload_n hx hb dX2_measure_29 rfl (lv_at hl 1 rfl) ?_
                  refine lv_iload_n hx hb dX2_measure_30 rfl (lv_at hl 1 rfl) ?_
                  refine lv_imul hx hb dX2_measure_31 ?_
                  refine lv_topi (fun x_1487 ex_1487 => ?_)
                  replace hF := hF.trans (ap_n ex_1487)
                  have h_1488 : rg x_1487 0 400 := rg_of_eq ex_1487 (rg_mul h_a0 h_a0 (by decide))
                  refine lv_icmp_le (tgt := 41) hx hb dX2_measure_32 (by decide) (fun c_1489 => ?_) (fun c_1489 => ?_)
                  · replace hF := hF.trans (if_pos c_1489)
                    have h_1492 : rg x_1485 1 400 := rg_le1 c_1489 h_1486 h_1488 (by decide)
                    have h_1493 : rg x_1487 1 400 := rg_le2 c_1489 h_1486 h_1488 (by decide)
                    exact K_1472 _ _ _ hF hFr hG hP hD hS (lv_sub hl [0, 1, 2, 3] rfl)
                  · replace hF := hF.trans (if_neg c_1489)
                    obtain ⟨x_1494, ex_1494⟩ : ∃ y : Int32, y = x_1426 + Int32.ofInt (-1) := ⟨_, rfl⟩
                    replace hF := hF.trans (ap_n ex_1494)
                    have h_1495 : rg x_1494 0 19 := rg_of_eq ex_1494 (rg_add h_1480 (rg_k (Int32.ofInt (-1)) (-1) rfl) (by decide))
                    refine lv_iinc (v := x_1494) (lv' := [(2, .int x_1494), (0, .ref this), (1, .int a0), (3, .int x_1237)]) hx hb dX2_measure_35 hl (k := 2) rfl ex_1494.symm (by decide) rfl (fun ls hl => ?_)
                    refine lv_goto (tgt := 18) hx hb dX2_measure_38 (by decide) ?_
                    exact ih_1450 x_1494 _ _ _ (rg_w h_1495 (by decide)) (ms_dn 1 hm_1447 ex_1494 rfl (by decide) h_1480 (by decide) (by decide)) hF hFr hG hP hD hS (lv_sub hl [1, 2, 0, 3] rfl)
            exact L_1449 _ x_1236 _ _ _ (rg_w h_1356 (by decide)) (Nat.lt_succ_self _) hF hFr hG hP hD hS (lv_sub hl [0, 1, 2, 3] rfl)
    exact L_1352 _ a0 (0 : Int32) ri _ _ _ (rg_w h_a0 (by decide)) (rg_w (rg_k (0 : Int32) 0 rfl) (by decide)) (Nat.lt_succ_self _) hF hFr hG hP hD hS (lv_sub hl [2, 3, 1, 0] rfl)
  exact go _ _ _ hP hD hS hl

set_option maxRecDepth 100000 in
def g_J6_bitCount_0f7a4 (a0 : Int32) : Int32 := (ap1 ((a0.toUInt32 >>> ((1 : Int32).toUInt32 &&& Int32.toUInt32 31)).toInt32) fun (x_1 : Int32) => (ap1 (x_1 &&& (1431655765 : Int32)) fun (x_2 : Int32) => (ap1 (a0 - x_2) fun (x_3 : Int32) => (ap1 (x_3 &&& (858993459 : Int32)) fun (x_4 : Int32) => (ap1 ((x_3.toUInt32 >>> ((2 : Int32).toUInt32 &&& Int32.toUInt32 31)).toInt32) fun (x_5 : Int32) => (ap1 (x_5 &&& (858993459 : Int32)) fun (x_6 : Int32) => (ap1 (x_4 + x_6) fun (x_7 : Int32) => (ap1 ((x_7.toUInt32 >>> ((4 : Int32).toUInt32 &&& Int32.toUInt32 31)).toInt32) fun (x_8 : Int32) => (ap1 (x_7 + x_8) fun (x_9 : Int32) => (ap1 (x_9 &&& (252645135 : Int32)) fun (x_10 : Int32) => (ap1 ((x_10.toUInt32 >>> ((8 : Int32).toUInt32 &&& Int32.toUInt32 31)).toInt32) fun (x_11 : Int32) => (ap1 (x_10 + x_11) fun (x_12 : Int32) => (ap1 ((x_12.toUInt32 >>> ((16 : Int32).toUInt32 &&& Int32.toUInt32 31)).toInt32) fun (x_13 : Int32) => (ap1 (x_12 + x_13) fun (x_14 : Int32) => (ap1 (x_14 &&& (63 : Int32)) fun (x_15 : Int32) => x_15)))))))))))))))
set_option maxRecDepth 100000 in
theorem g_J6_bitCount_0f7a4_e {a0 : Int32} : g_J6_bitCount_0f7a4 a0 = (ap1 ((a0.toUInt32 >>> ((1 : Int32).toUInt32 &&& Int32.toUInt32 31)).toInt32) fun (x_1 : Int32) => (ap1 (x_1 &&& (1431655765 : Int32)) fun (x_2 : Int32) => (ap1 (a0 - x_2) fun (x_3 : Int32) => (ap1 (x_3 &&& (858993459 : Int32)) fun (x_4 : Int32) => (ap1 ((x_3.toUInt32 >>> ((2 : Int32).toUInt32 &&& Int32.toUInt32 31)).toInt32) fun (x_5 : Int32) => (ap1 (x_5 &&& (858993459 : Int32)) fun (x_6 : Int32) => (ap1 (x_4 + x_6) fun (x_7 : Int32) => (ap1 ((x_7.toUInt32 >>> ((4 : Int32).toUInt32 &&& Int32.toUInt32 31)).toInt32) fun (x_8 : Int32) => (ap1 (x_7 + x_8) fun (x_9 : Int32) => (ap1 (x_9 &&& (252645135 : Int32)) fun (x_10 : Int32) => (ap1 ((x_10.toUInt32 >>> ((8 : Int32).toUInt32 &&& Int32.toUInt32 31)).toInt32) fun (x_11 : Int32) => (ap1 (x_10 + x_11) fun (x_12 : Int32) => (ap1 ((x_12.toUInt32 >>> ((16 : Int32).toUInt32 &&& Int32.toUInt32 31)).toInt32) fun (x_13 : Int32) => (ap1 (x_12 + x_13) fun (x_14 : Int32) => (ap1 (x_14 &&& (63 : Int32)) fun (x_15 : Int32) => x_15))))))))))))))) := rfl
set_option maxHeartbeats 4000000 in
set_option maxRecDepth 100000 in
theorem s_J6_bitCount_0f7a4 (l : Launch) (D : va_G) (t : pq_T) (σ : pq_S) (I : Nat → Nat → Int32) (J : Nat → Nat → Int64) (ri : Nat → Nat → Int32) (rj : Nat → Nat → Int64) (rq : Nat → Nat → Option Nat) (sz : Nat) (tg : Nat → Nat) (hSH : SH σ tg) (hG0 : GS tg σ I ri rq) (a0 : Int32) : MetI l yJ6_bitCount_0f7a4 (wa yJ6_bitCount_0f7a4 cJ6_bitCount_0f7a4 1 (some .int)) ({ frames := 0, cells := 0, slots := 0, locals := 0 }) [.int a0] D t σ (I, J, ri, rj, rq) sz 0 0 (fun (r : Int32) (u : pq_S × pq_M) => u = (σ, I, J, ri, rj, rq) ∧ g_J6_bitCount_0f7a4 a0 = r) := by
  refine Met.ofW (cc := cJ6_bitCount_0f7a4) (maxL := 1) (ret := (some .int)) (by decide) rfl ?_
  intro p e s m args below meth c s₁ B hml hv
  obtain ⟨rfl, hsz, hP, hK, hD0, hN⟩ := hv
  have hx := B.exec
  have hb := B.bytes
  have hr := B.returns
  have hts := atoms_spec (ws := (wa yJ6_bitCount_0f7a4 cJ6_bitCount_0f7a4 1 (some .int))) B.pre
  have hown : s.vm.findClass RJ6 = some m.cls := findClass_of_methodNamed B.named
  have hlocks := B.notSynchronized
  subst hsz
  have hD : va_D (pq_B t σ (I, J, ri, rj, rq) s.heap.size) (pq_P t σ (I, J, ri, rj, rq)) := hD0.self
  generalize hAe : pq_B t σ (I, J, ri, rj, rq) s.heap.size = A at hD ⊢
  have hA : ∀ q : Nat, s.heap.size ≤ q → A q := fun q h => by rw [← hAe]; exact Or.inr h
  have hS : va_S A s.heap s.heap [] := va_S.rf
  have hG : GX [] tg σ I ri rj I ri rj rq := ⟨hG0, fun _ _ _ => rfl, fun _ _ _ _ _ => rfl, fun _ _ _ _ _ => rfl⟩
  have hl := lv_entry ([.int a0]) (n := 1) (Nat.le_of_ble_eq_true rfl)
  rw [lg_entry_eq]
  generalize (lg_sl ([.int a0]) ++ List.replicate (1 - (lg_sl ([.int a0])).length) Slot.unset).toArray = ls at hl ⊢
  have hl : lv_has ls 1 [(0, .int a0)] := hl
  refine q_gen (fun Q hQ => ?_)
  have go : ∀ (H : Heap) (locs : List Loc) (ls : Array Slot), va_P D vwCl (pq_P t σ (I, J, ri, rj, rq)) H → va_D A (pq_P t σ (I, J, ri, rj, rq)) → va_S A s.heap H locs → lv_has ls 1 [(0, .int a0)] → W p l e ({ frames := 0, cells := 0, slots := 0, locals := 0 } : Room) s m (List.toArray ([.int a0] : List Value)) below meth c H locs 0 0 Q (F0 m 0 ls []) := by
    intro H locs ls hP hD hS hl
    obtain ⟨F, hF0⟩ : ∃ F, F = g_J6_bitCount_0f7a4 a0 := ⟨_, rfl⟩
    have hF := hF0.trans g_J6_bitCount_0f7a4_e
    refine lv_iload_n hx hb dJ6_bitCount_0f7a4_0 rfl (lv_at hl 0 rfl) ?_
    refine lv_iload_n hx hb dJ6_bitCount_0f7a4_1 rfl (lv_at hl 0 rfl) ?_
    refine lv_iconst (v := 1) hx hb dJ6_bitCount_0f7a4_2 (by decide) ?_
    refine lv_iushr hx hb dJ6_bitCount_0f7a4_3 rfl ?_
    refine lv_topi (fun x_1 ex_1 => ?_)
    replace hF := hF.trans (ap_n ex_1)
    refine lv_ldcw hx hb hown (hts _ (tw_c tw_1150)) dJ6_bitCount_0f7a4_4 ?_
    refine lv_iand hx hb dJ6_bitCount_0f7a4_7 ?_
    refine lv_topi (fun x_2 ex_2 => ?_)
    replace hF := hF.trans (ap_n ex_2)
    refine lv_isub hx hb dJ6_bitCount_0f7a4_8 ?_
    refine lv_topi (fun x_3 ex_3 => ?_)
    replace hF := hF.trans (ap_n ex_3)
    refine lv_istore_n (lv' := [(0, .int x_3)]) hx hb dJ6_bitCount_0f7a4_9 rfl hl (by decide) rfl (fun ls hl => ?_)
    refine lv_iload_n hx hb dJ6_bitCount_0f7a4_10 rfl (lv_at hl 0 rfl) ?_
    refine lv_ldcw hx hb hown (hts _ (tw_c tw_1151)) dJ6_bitCount_0f7a4_11 ?_
    refine lv_iand hx hb dJ6_bitCount_0f7a4_14 ?_
    refine lv_topi (fun x_4 ex_4 => ?_)
    replace hF := hF.trans (ap_n ex_4)
    refine lv_iload_n hx hb dJ6_bitCount_0f7a4_15 rfl (lv_at hl 0 rfl) ?_
    refine lv_iconst (v := 2) hx hb dJ6_bitCount_0f7a4_16 (by decide) ?_
    refine lv_iushr hx hb dJ6_bitCount_0f7a4_17 rfl ?_
    refine lv_topi (fun x_5 ex_5 => ?_)
    replace hF := hF.trans (ap_n ex_5)
    refine lv_ldcw hx hb hown (hts _ (tw_c tw_1151)) dJ6_bitCount_0f7a4_18 ?_
    refine lv_iand hx hb dJ6_bitCount_0f7a4_21 ?_
    refine lv_topi (fun x_6 ex_6 => ?_)
    replace hF := hF.trans (ap_n ex_6)
    refine lv_iadd hx hb dJ6_bitCount_0f7a4_22 ?_
    refine lv_topi (fun x_7 ex_7 => ?_)
    replace hF := hF.trans (ap_n ex_7)
    refine lv_istore_n (lv' := [(0, .int x_7)]) hx hb dJ6_bitCount_0f7a4_23 rfl hl (by decide) rfl (fun ls hl => ?_)
    refine lv_iload_n hx hb dJ6_bitCount_0f7a4_24 rfl (lv_at hl 0 rfl) ?_
    refine lv_iload_n hx hb dJ6_bitCount_0f7a4_25 rfl (lv_at hl 0 rfl) ?_
    refine lv_iconst (v := 4) hx hb dJ6_bitCount_0f7a4_26 (by decide) ?_
    refine lv_iushr hx hb dJ6_bitCount_0f7a4_27 rfl ?_
    refine lv_topi (fun x_8 ex_8 => ?_)
    replace hF := hF.trans (ap_n ex_8)
    refine lv_iadd hx hb dJ6_bitCount_0f7a4_28 ?_
    refine lv_topi (fun x_9 ex_9 => ?_)
    replace hF := hF.trans (ap_n ex_9)
    refine lv_ldcw hx hb hown (hts _ (tw_c tw_1152)) dJ6_bitCount_0f7a4_29 ?_
    refine lv_iand hx hb dJ6_bitCount_0f7a4_32 ?_
    refine lv_topi (fun x_10 ex_10 => ?_)
    replace hF := hF.trans (ap_n ex_10)
    refine lv_istore_n (lv' := [(0, .int x_10)]) hx hb dJ6_bitCount_0f7a4_33 rfl hl (by decide) rfl (fun ls hl => ?_)
    refine lv_iload_n hx hb dJ6_bitCount_0f7a4_34 rfl (lv_at hl 0 rfl) ?_
    refine lv_iload_n hx hb dJ6_bitCount_0f7a4_35 rfl (lv_at hl 0 rfl) ?_
    refine lv_bipush (v := 8) hx hb dJ6_bitCount_0f7a4_36 (by decide) ?_
    refine lv_iushr hx hb dJ6_bitCount_0f7a4_38 rfl ?_
    refine lv_topi (fun x_11 ex_11 => ?_)
    replace hF := hF.trans (ap_n ex_11)
    refine lv_iadd hx hb dJ6_bitCount_0f7a4_39 ?_
    refine lv_topi (fun x_12 ex_12 => ?_)
    replace hF := hF.trans (ap_n ex_12)
    refine lv_istore_n (lv' := [(0, .int x_12)]) hx hb dJ6_bitCount_0f7a4_40 rfl hl (by decide) rfl (fun ls hl => ?_)
    refine lv_iload_n hx hb dJ6_bitCount_0f7a4_41 rfl (lv_at hl 0 rfl) ?_
    refine lv_iload_n hx hb dJ6_bitCount_0f7a4_42 rfl (lv_at hl 0 rfl) ?_
    refine lv_bipush (v := 16) hx hb dJ6_bitCount_0f7a4_43 (by decide) ?_
    refine lv_iushr hx hb dJ6_bitCount_0f7a4_45 rfl ?_
    refine lv_topi (fun x_13 ex_13 => ?_)
    replace hF := hF.trans (ap_n ex_13)
    refine lv_iadd hx hb dJ6_bitCount_0f7a4_46 ?_
    refine lv_topi (fun x_14 ex_14 => ?_)
    replace hF := hF.trans (ap_n ex_14)
    refine lv_istore_n (lv' := [(0, .int x_14)]) hx hb dJ6_bitCount_0f7a4_47 rfl hl (by decide) rfl (fun ls hl => ?_)
    refine lv_iload_n hx hb dJ6_bitCount_0f7a4_48 rfl (lv_at hl 0 rfl) ?_
    refine lv_bipush (v := 63) hx hb dJ6_bitCount_0f7a4_49 (by decide) ?_
    refine lv_iand hx hb dJ6_bitCount_0f7a4_51 ?_
    refine lv_topi (fun x_15 ex_15 => ?_)
    replace hF := hF.trans (ap_n ex_15)
    subst hQ
    exact W.iret (v := x_15) hx hb hr (fun t1 ht hW => ⟨⟨x_15, (σ, I, J, ri, rj, rq), rfl, ⟨rfl, (hF0.symm.trans hF)⟩, by rw [ht]; exact hP, va_K.moved hW.alike hK, hD⟩, hS.F ht⟩) hS.2.2 dJ6_bitCount_0f7a4_52
  exact go _ _ _ hP hD hS hl

set_option maxRecDepth 100000 in
def g_X2_mark_K102 (x_222 : Int32) (k_g_X2_mark_L23 : (Int32) → (Nat → Nat → Int32) → vM) (ri_296 : Nat → Nat → Int32) : vM := (ap1 (x_222 + Int32.ofInt 1) fun (x_300 : Int32) => (k_g_X2_mark_L23 x_300 ri_296))
set_option maxRecDepth 100000 in
theorem g_X2_mark_K102_e {x_222 : Int32} {k_g_X2_mark_L23 : (Int32) → (Nat → Nat → Int32) → vM} {ri_296 : Nat → Nat → Int32} : g_X2_mark_K102 x_222 k_g_X2_mark_L23 ri_296 = (ap1 (x_222 + Int32.ofInt 1) fun (x_300 : Int32) => (k_g_X2_mark_L23 x_300 ri_296)) := rfl
set_option maxRecDepth 100000 in
def g_X2_mark_L23 (a0 : Int32) (a1 : Int32) (I : Nat → Int32) (J : Nat → Int64) (rj : Nat → Nat → Int64) (rq : Nat → Nat → Option Nat) (x_7 : Int32) : Nat → (Int32) → (Nat → Nat → Int32) → vM
  | 0, x_222, ri_223 => (I, J, ri_223, rj, rq)
  | n_259 + 1, x_222, ri_223 => (if x_7 < x_222 then (I, J, ri_223, rj, rq) else (ap1 (x_222 - a1) fun (x_269 : Int32) => (ap1 (if (0 : Int32) ≤ x_269 then x_269 else 0 - x_269) fun (x_271 : Int32) => (if (21 : Int32) ≤ x_271 then (g_X2_mark_K102 x_222 (g_X2_mark_L23 a0 a1 I J rj rq x_7 n_259) ri_223) else (ap1 (ri_223 83 (x_271).toNatClampNeg) fun (x_307 : Int32) => (ap1 (a0 - x_307) fun (x_309 : Int32) => (ap1 (if (0 : Int32) < x_309 then x_309 else (0 : Int32)) fun (x_311 : Int32) => (ap1 (a0 + x_307) fun (x_313 : Int32) => (ap1 (if x_313 < (31 : Int32) then x_313 else (31 : Int32)) fun (x_315 : Int32) => (ap1 (ri_223 82 (x_222).toNatClampNeg) fun (x_318 : Int32) => (ap1 ((-1 : Int32) <<< (x_311 &&& 31)) fun (x_319 : Int32) => (ap1 ((31 : Int32) - x_315) fun (x_320 : Int32) => (ap1 (((-1 : Int32).toUInt32 >>> (x_320.toUInt32 &&& Int32.toUInt32 31)).toInt32) fun (x_322 : Int32) => (ap1 (x_319 &&& x_322) fun (x_323 : Int32) => (ap1 (x_318 ||| x_323) fun (x_324 : Int32) => (ap1 (va_up ri_223 82 (upd (ri_223 82) (x_222).toNatClampNeg x_324)) fun (r_325 : Nat → Nat → Int32) => (g_X2_mark_K102 x_222 (g_X2_mark_L23 a0 a1 I J rj rq x_7 n_259) r_325)))))))))))))))))
set_option maxRecDepth 100000 in
theorem g_X2_mark_L23_e {a0 : Int32} {a1 : Int32} {I : Nat → Int32} {J : Nat → Int64} {rj : Nat → Nat → Int64} {rq : Nat → Nat → Option Nat} {x_7 : Int32} {n_259 : Nat} {x_222 : Int32} {ri_223 : Nat → Nat → Int32} : g_X2_mark_L23 a0 a1 I J rj rq x_7 (n_259 + 1) x_222 ri_223 = (if x_7 < x_222 then (I, J, ri_223, rj, rq) else (ap1 (x_222 - a1) fun (x_269 : Int32) => (ap1 (if (0 : Int32) ≤ x_269 then x_269 else 0 - x_269) fun (x_271 : Int32) => (if (21 : Int32) ≤ x_271 then (g_X2_mark_K102 x_222 (g_X2_mark_L23 a0 a1 I J rj rq x_7 n_259) ri_223) else (ap1 (ri_223 83 (x_271).toNatClampNeg) fun (x_307 : Int32) => (ap1 (a0 - x_307) fun (x_309 : Int32) => (ap1 (if (0 : Int32) < x_309 then x_309 else (0 : Int32)) fun (x_311 : Int32) => (ap1 (a0 + x_307) fun (x_313 : Int32) => (ap1 (if x_313 < (31 : Int32) then x_313 else (31 : Int32)) fun (x_315 : Int32) => (ap1 (ri_223 82 (x_222).toNatClampNeg) fun (x_318 : Int32) => (ap1 ((-1 : Int32) <<< (x_311 &&& 31)) fun (x_319 : Int32) => (ap1 ((31 : Int32) - x_315) fun (x_320 : Int32) => (ap1 (((-1 : Int32).toUInt32 >>> (x_320.toUInt32 &&& Int32.toUInt32 31)).toInt32) fun (x_322 : Int32) => (ap1 (x_319 &&& x_322) fun (x_323 : Int32) => (ap1 (x_318 ||| x_323) fun (x_324 : Int32) => (ap1 (va_up ri_223 82 (upd (ri_223 82) (x_222).toNatClampNeg x_324)) fun (r_325 : Nat → Nat → Int32) => (g_X2_mark_K102 x_222 (g_X2_mark_L23 a0 a1 I J rj rq x_7 n_259) r_325))))))))))))))))) := rfl
set_option maxRecDepth 100000 in
def g_X2_mark (a0 : Int32) (a1 : Int32) (a2 : Int32) (I : Nat → Int32) (J : Nat → Int64) (ri : Nat → Nat → Int32) (rj : Nat → Nat → Int64) (rq : Nat → Nat → Option Nat) : vM := (ap1 (a1 - a2) fun (x_1 : Int32) => (ap1 (if (0 : Int32) < x_1 then x_1 else (0 : Int32)) fun (x_3 : Int32) => (ap1 (a1 + a2) fun (x_5 : Int32) => (ap1 (if x_5 < (31 : Int32) then x_5 else (31 : Int32)) fun (x_7 : Int32) => (g_X2_mark_L23 a0 a1 I J rj rq x_7 ((32 - (x_3).toInt).toNat + 1) x_3 ri)))))
set_option maxRecDepth 100000 in
theorem g_X2_mark_e {a0 : Int32} {a1 : Int32} {a2 : Int32} {I : Nat → Int32} {J : Nat → Int64} {ri : Nat → Nat → Int32} {rj : Nat → Nat → Int64} {rq : Nat → Nat → Option Nat} : g_X2_mark a0 a1 a2 I J ri rj rq = (ap1 (a1 - a2) fun (x_1 : Int32) => (ap1 (if (0 : Int32) < x_1 then x_1 else (0 : Int32)) fun (x_3 : Int32) => (ap1 (a1 + a2) fun (x_5 : Int32) => (ap1 (if x_5 < (31 : Int32) then x_5 else (31 : Int32)) fun (x_7 : Int32) => (g_X2_mark_L23 a0 a1 I J rj rq x_7 ((32 - (x_3).toInt).toNat + 1) x_3 ri))))) := rfl
set_option maxHeartbeats 4000000 in
set_option maxRecDepth 100000 in
theorem s_X2_mark (l : Launch) (D : va_G) (t : pq_T) (σ : pq_S) (I : Nat → Nat → Int32) (J : Nat → Nat → Int64) (ri : Nat → Nat → Int32) (rj : Nat → Nat → Int64) (rq : Nat → Nat → Option Nat) (sz : Nat) (tg : Nat → Nat) (hSH : SH σ tg) (hG0 : GS tg σ I ri rq) (this : Nat) (a0 : Int32) (a1 : Int32) (a2 : Int32) (hL_this : this ∈ σ.1) (hK_this : σ.2.1 this = 2) (h_a0 : rg a0 0 31) (h_a1 : rg a1 0 31) (h_a2 : rg a2 0 20) (M : Nat) (hL_M : M ∈ σ.1) (hK_M : σ.2.1 M = 10) (hO_this : this = vo σ 2 M) : MetV l yX2_mark (wa yX2_mark cX2_mark 10 none) ({ frames := 1, cells := 0, slots := 0, locals := 40 }) [.ref this, .int a0, .int a1, .int a2] D t σ (I, J, ri, rj, rq) sz 0 0 (fun (u : pq_S × pq_M) => ∃ ri' : Nat → Nat → Int32, u = (σ, I, J, ri', rj, rq) ∧ GX [] tg σ I ri rj I ri' rj rq ∧ g_X2_mark a0 a1 a2 (vI 10 σ M I) (vJ 10 σ M J) (vR 10 σ M ri) (vL 10 σ M rj) (vQ 10 σ M rq) = ((vI 10 σ M I), (vJ 10 σ M J), (vR 10 σ M ri'), (vL 10 σ M rj), (vQ 10 σ M rq)) ∧ FR 10 tg σ M (I, J, ri, rj, rq) (I, J, ri', rj, rq)) := by
  refine Met.ofW (cc := cX2_mark) (maxL := 10) (ret := none) (by decide) rfl ?_
  intro p e s m args below meth c s₁ B hml hv
  obtain ⟨rfl, hsz, hP, hK, hD0, hN⟩ := hv
  have hx := B.exec
  have hb := B.bytes
  have hr := B.returns
  have hts := atoms_spec (ws := (wa yX2_mark cX2_mark 10 none)) B.pre
  have hown : s.vm.findClass RX2 = some m.cls := findClass_of_methodNamed B.named
  have hlocks := B.notSynchronized
  subst hsz
  have hD : va_D (pq_B t σ (I, J, ri, rj, rq) s.heap.size) (pq_P t σ (I, J, ri, rj, rq)) := hD0.self
  generalize hAe : pq_B t σ (I, J, ri, rj, rq) s.heap.size = A at hD ⊢
  have hA : ∀ q : Nat, s.heap.size ≤ q → A q := fun q h => by rw [← hAe]; exact Or.inr h
  have hS : va_S A s.heap s.heap [] := va_S.rf
  have hG : GX [] tg σ I ri rj I ri rj rq := ⟨hG0, fun _ _ _ => rfl, fun _ _ _ _ _ => rfl, fun _ _ _ _ _ => rfl⟩
  have hl := lv_entry ([.ref this, .int a0, .int a1, .int a2]) (n := 10) (Nat.le_of_ble_eq_true rfl)
  rw [lg_entry_eq]
  generalize (lg_sl ([.ref this, .int a0, .int a1, .int a2]) ++ List.replicate (10 - (lg_sl ([.ref this, .int a0, .int a1, .int a2])).length) Slot.unset).toArray = ls at hl ⊢
  have hl : lv_has ls 10 [(0, .ref this), (1, .int a0), (2, .int a1), (3, .int a2)] := hl
  refine q_gen (fun Q hQ => ?_)
  have go : ∀ (H : Heap) (locs : List Loc) (ls : Array Slot), va_P D vwCl (pq_P t σ (I, J, ri, rj, rq)) H → va_D A (pq_P t σ (I, J, ri, rj, rq)) → va_S A s.heap H locs → lv_has ls 10 [(0, .ref this), (1, .int a0), (2, .int a1), (3, .int a2)] → W p l e ({ frames := 1, cells := 0, slots := 0, locals := 40 } : Room) s m (List.toArray ([.ref this, .int a0, .int a1, .int a2] : List Value)) below meth c H locs 0 0 Q (F0 m 0 ls []) := by
    intro H locs ls hP hD hS hl
    have hVT : VT 10 σ tg M := vt_10 hSH hL_M hK_M
    have hFr : FR 10 tg σ M (I, J, ri, rj, rq) (I, J, ri, rj, rq) := fr_rf
    obtain ⟨F, hF0⟩ : ∃ F, F = g_X2_mark a0 a1 a2 (vI 10 σ M I) (vJ 10 σ M J) (vR 10 σ M ri) (vL 10 σ M rj) (vQ 10 σ M rq) := ⟨_, rfl⟩
    have hF := hF0.trans g_X2_mark_e
    refine lv_iconst (v := 0) hx hb dX2_mark_0 (by decide) ?_
    refine lv_iload_n hx hb dX2_mark_1 rfl (lv_at hl 2 rfl) ?_
    refine lv_iload_n hx hb dX2_mark_2 rfl (lv_at hl 3 rfl) ?_
    refine lv_isub hx hb dX2_mark_3 ?_
    refine lv_topi (fun x_1 ex_1 => ?_)
    replace hF := hF.trans (ap_n ex_1)
    have h_2 : rg x_1 (-20) 31 := rg_of_eq ex_1 (rg_sub h_a1 h_a2 (by decide))
    refine va_mmax hx hb (hml.trans hl.1.symm) hown (hts _ (tw_c tw_1064)) (hts _ (tw_c tw_275)) (hts _ (tw_c tw_276)) (hts _ (tw_c tw_277)) (Nat.le_of_ble_eq_true rfl) (Nat.le_of_ble_eq_true rfl) (Nat.zero_le _) (Nat.zero_le _) dX2_mark_4 ?_
    refine lv_topi (fun x_3 ex_3 => ?_)
    replace hF := hF.trans (ap_n ex_3)
    have h_4 : rg x_3 0 31 := rg_of_eq ex_3 (rg_max2 (rg_k (0 : Int32) 0 rfl) h_2 (by decide))
    refine lv_istore (lv' := [(4, .int x_3), (0, .ref this), (1, .int a0), (2, .int a1), (3, .int a2)]) hx hb dX2_mark_7 hl (by decide) rfl (fun ls hl => ?_)
    refine lv_bipush (v := 31) hx hb dX2_mark_9 (by decide) ?_
    refine lv_iload_n hx hb dX2_mark_11 rfl (lv_at hl 3 rfl) ?_
    refine lv_iload_n hx hb dX2_mark_12 rfl (lv_at hl 4 rfl) ?_
    refine lv_iadd hx hb dX2_mark_13 ?_
    refine lv_topi (fun x_5 ex_5 => ?_)
    replace hF := hF.trans (ap_n ex_5)
    have h_6 : rg x_5 0 51 := rg_of_eq ex_5 (rg_add h_a1 h_a2 (by decide))
    refine va_mmin hx hb (hml.trans hl.1.symm) hown (hts _ (tw_c tw_1063)) (hts _ (tw_c tw_467)) (hts _ (tw_c tw_276)) (hts _ (tw_c tw_468)) (Nat.le_of_ble_eq_true rfl) (Nat.le_of_ble_eq_true rfl) (Nat.zero_le _) (Nat.zero_le _) dX2_mark_14 ?_
    refine lv_topi (fun x_7 ex_7 => ?_)
    replace hF := hF.trans (ap_n ex_7)
    have h_8 : rg x_7 0 31 := rg_of_eq ex_7 (rg_min2 (rg_k (31 : Int32) 31 rfl) h_6 (by decide))
    refine lv_istore (lv' := [(5, .int x_7), (4, .int x_3), (0, .ref this), (1, .int a0), (2, .int a1), (3, .int a2)]) hx hb dX2_mark_17 hl (by decide) rfl (fun ls hl => ?_)
    refine lv_iload hx hb dX2_mark_19 (lv_at hl 1 rfl) ?_
    refine lv_istore (lv' := [(6, .int x_3), (5, .int x_7), (4, .int x_3), (0, .ref this), (1, .int a0), (2, .int a1), (3, .int a2)]) hx hb dX2_mark_21 hl (by decide) rfl (fun ls hl => ?_)
    have L_260 : ∀ (n_259 : Nat) (x_222 : Int32) (ri_223 : Nat → Nat → Int32) (H : Heap) (locs : List Loc) (ls : Array Slot), rg x_222 0 32 → (32 - (x_222).toInt).toNat < n_259 → F = g_X2_mark_L23 a0 a1 (vI 10 σ M I) (vJ 10 σ M J) (vL 10 σ M rj) (vQ 10 σ M rq) x_7 n_259 x_222 (vR 10 σ M ri_223) → FR 10 tg σ M (I, J, ri, rj, rq) (I, J, ri_223, rj, rq) → GX [] tg σ I ri rj I ri_223 rj rq → va_P D vwCl (pq_P t σ (I, J, ri_223, rj, rq)) H → va_D A (pq_P t σ (I, J, ri_223, rj, rq)) → va_S A s.heap H locs → lv_has ls 10 [(0, .ref this), (1, .int a0), (2, .int a1), (5, .int x_7), (6, .int x_222)] → W p l e ({ frames := 1, cells := 0, slots := 0, locals := 40 } : Room) s m (List.toArray ([.ref this, .int a0, .int a1, .int a2] : List Value)) below meth c H locs 0 0 Q (F0 m 23 ls []) := by
      intro n_259
      induction n_259 with
      | zero => intro x_222 ri_223 H locs ls h_263 hm_258 hF hFr hG hP hD hS hl; exact absurd hm_258 (Nat.not_lt_zero _)
      | succ n_259 ih_261 =>
        intro x_222 ri_223 H locs ls h_263 hm_258 hF hFr hG hP hD hS hl
        replace hF := hF.trans g_X2_mark_L23_e
        refine lv_iload hx hb dX2_mark_23 (lv_at hl 4 rfl) ?_
        refine lv_iload hx hb dX2_mark_25 (lv_at hl 3 rfl) ?_
        refine lv_icmp_gt (tgt := 108) hx hb dX2_mark_27 (by decide) (fun c_264 => ?_) (fun c_264 => ?_)
        · replace hF := hF.trans (if_pos c_264)
          have h_267 : rg x_222 1 32 := rg_lt2 c_264 h_8 h_263 (by decide)
          subst hQ
          exact W.vret hx hb hr (fun t1 ht hW => ⟨⟨(σ, I, J, ri_223, rj, rq), rfl, ⟨ri_223, rfl, hG, (hF0.symm.trans hF), hFr⟩, by rw [ht]; exact hP, va_K.moved hW.alike hK, hD⟩, hS.F ht⟩) hS.2.2 dX2_mark_108
        · replace hF := hF.trans (if_neg c_264)
          have h_268 : rg x_222 0 31 := rg_le1 (nlt c_264) h_263 h_8 (by decide)
          refine lv_iload hx hb dX2_mark_30 (lv_at hl 4 rfl) ?_
          refine lv_iload_n hx hb dX2_mark_32 rfl (lv_at hl 2 rfl) ?_
          refine lv_isub hx hb dX2_mark_33 ?_
          refine lv_topi (fun x_269 ex_269 => ?_)
          replace hF := hF.trans (ap_n ex_269)
          have h_270 : rg x_269 (-31) 31 := rg_of_eq ex_269 (rg_sub h_268 h_a1 (by decide))
          refine va_mabs hx hb (hml.trans hl.1.symm) hown (hts _ (tw_c tw_1146)) (hts _ (tw_c tw_484)) (hts _ (tw_c tw_276)) (hts _ (tw_c tw_485)) (Nat.le_of_ble_eq_true rfl) (Nat.le_of_ble_eq_true rfl) (Nat.zero_le _) (Nat.zero_le _) dX2_mark_34 ?_
          refine lv_topi (fun x_271 ex_271 => ?_)
          replace hF := hF.trans (ap_n ex_271)
          have h_272 : rg x_271 0 31 := rg_of_eq ex_271 (rg_abs h_270 (by decide))
          refine lv_istore (lv' := [(7, .int x_271), (0, .ref this), (1, .int a0), (2, .int a1), (5, .int x_7), (6, .int x_222)]) hx hb dX2_mark_37 hl (by decide) rfl (fun ls hl => ?_)
          refine lv_iload hx hb dX2_mark_39 (lv_at hl 0 rfl) ?_
          refine lv_aload_n hx hb dX2_mark_41 rfl (lv_at hl 1 rfl) ?_
          obtain ⟨w_273, hR_w_273, hL_w_273, hK_w_273, hN_w_273, hT_w_273⟩ := sh_a hSH 83 (ci := 2) (kd := 13) (len := 21) rfl (by decide) hL_this hK_this
          have hO_w_273 : w_273 = vrow σ 83 M := vo_k (c := 2) hO_this hR_w_273
          refine pg_f (v := .ref w_273) (C := RX2) (T := TX2) (N := 20) hx hb hts (tw_i inlX2) hown hK hP hL_this hK_this (by decide) rfl 19 (by decide) (hts _ (tw_c tw_100)) (pq_hv rfl hR_w_273) dX2_mark_42 ?_
          refine pn_i (v := 21) hx hb hK hP hL_w_273 hK_w_273 hN_w_273 (by decide) dX2_mark_45 ?_
          have K_299 : ∀  (ri_296 : Nat → Nat → Int32) (H : Heap) (locs : List Loc) (ls : Array Slot), F = g_X2_mark_K102 x_222 (g_X2_mark_L23 a0 a1 (vI 10 σ M I) (vJ 10 σ M J) (vL 10 σ M rj) (vQ 10 σ M rq) x_7 n_259) (vR 10 σ M ri_296) → FR 10 tg σ M (I, J, ri, rj, rq) (I, J, ri_296, rj, rq) → GX [] tg σ I ri rj I ri_296 rj rq → va_P D vwCl (pq_P t σ (I, J, ri_296, rj, rq)) H → va_D A (pq_P t σ (I, J, ri_296, rj, rq)) → va_S A s.heap H locs → lv_has ls 10 [(0, .ref this), (1, .int a0), (2, .int a1), (5, .int x_7), (6, .int x_222)] → W p l e ({ frames := 1, cells := 0, slots := 0, locals := 40 } : Room) s m (List.toArray ([.ref this, .int a0, .int a1, .int a2] : List Value)) below meth c H locs 0 0 Q (F0 m 102 ls []) := by
            intro ri_296 H locs ls hF hFr hG hP hD hS hl
            replace hF := hF.trans g_X2_mark_K102_e
            obtain ⟨x_300, ex_300⟩ : ∃ y : Int32, y = x_222 + Int32.ofInt 1 := ⟨_, rfl⟩
            replace hF := hF.trans (ap_n ex_300)
            have h_301 : rg x_300 1 32 := rg_of_eq ex_300 (rg_add h_268 (rg_k (Int32.ofInt 1) 1 rfl) (by decide))
            refine lv_iinc (v := x_300) (lv' := [(6, .int x_300), (0, .ref this), (1, .int a0), (2, .int a1), (5, .int x_7)]) hx hb dX2_mark_102 hl (k := 4) rfl ex_300.symm (by decide) rfl (fun ls hl => ?_)
            refine lv_goto (tgt := 23) hx hb dX2_mark_105 (by decide) ?_
            exact ih_261 x_300 ri_296 _ _ _ (rg_w h_301 (by decide)) (ms_up 1 hm_258 ex_300 rfl (by decide) h_268 (by decide) (by decide)) hF hFr hG hP hD hS (lv_sub hl [1, 2, 3, 4, 0] rfl)
          refine lv_icmp_ge (tgt := 102) hx hb dX2_mark_46 (by decide) (fun c_302 => ?_) (fun c_302 => ?_)
          · replace hF := hF.trans (if_pos c_302)
            have h_305 : rg x_271 21 31 := rg_le2 c_302 (rg_k (21 : Int32) 21 rfl) h_272 (by decide)
            exact K_299 ri_223 _ _ _ hF hFr hG hP hD hS (lv_sub hl [1, 2, 3, 4, 5] rfl)
          · replace hF := hF.trans (if_neg c_302)
            have h_306 : rg x_271 0 20 := rg_lt1 (nle c_302) h_272 (rg_k (21 : Int32) 21 rfl) (by decide)
            refine lv_iconst (v := 0) hx hb dX2_mark_49 (by decide) ?_
            refine lv_iload_n hx hb dX2_mark_50 rfl (lv_at hl 2 rfl) ?_
            refine lv_aload_n hx hb dX2_mark_51 rfl (lv_at hl 1 rfl) ?_
            refine pg_f (v := .ref w_273) (C := RX2) (T := TX2) (N := 20) hx hb hts (tw_i inlX2) hown hK hP hL_this hK_this (by decide) rfl 19 (by decide) (hts _ (tw_c tw_100)) (pq_hv rfl hR_w_273) dX2_mark_52 ?_
            refine lv_iload hx hb dX2_mark_55 (lv_at hl 0 rfl) ?_
            refine pl_i hx hb hK hP hL_w_273 hK_w_273 hN_w_273 (rg_in h_306 (by decide)) dX2_mark_57 ?_
            refine lv_topi (fun x_307 ex_307 => ?_)
            replace hF := hF.trans (ap_n (vR_r hO_w_273 (by decide) ex_307))
            have h_308 : rg x_307 0 20 := rg_of_eq ex_307 (GX.rR hG hT_w_273 rfl)
            refine lv_isub hx hb dX2_mark_58 ?_
            refine lv_topi (fun x_309 ex_309 => ?_)
            replace hF := hF.trans (ap_n ex_309)
            have h_310 : rg x_309 (-20) 31 := rg_of_eq ex_309 (rg_sub h_a0 h_308 (by decide))
            refine va_mmax hx hb (hml.trans hl.1.symm) hown (hts _ (tw_c tw_1064)) (hts _ (tw_c tw_275)) (hts _ (tw_c tw_276)) (hts _ (tw_c tw_277)) (Nat.le_of_ble_eq_true rfl) (Nat.le_of_ble_eq_true rfl) (Nat.zero_le _) (Nat.zero_le _) dX2_mark_59 ?_
            refine lv_topi (fun x_311 ex_311 => ?_)
            replace hF := hF.trans (ap_n ex_311)
            have h_312 : rg x_311 0 31 := rg_of_eq ex_311 (rg_max2 (rg_k (0 : Int32) 0 rfl) h_310 (by decide))
            refine lv_istore (lv' := [(8, .int x_311), (7, .int x_271), (0, .ref this), (1, .int a0), (2, .int a1), (5, .int x_7), (6, .int x_222)]) hx hb dX2_mark_62 hl (by decide) rfl (fun ls hl => ?_)
            refine lv_bipush (v := 31) hx hb dX2_mark_64 (by decide) ?_
            refine lv_iload_n hx hb dX2_mark_66 rfl (lv_at hl 3 rfl) ?_
            refine lv_aload_n hx hb dX2_mark_67 rfl (lv_at hl 2 rfl) ?_
            refine pg_f (v := .ref w_273) (C := RX2) (T := TX2) (N := 20) hx hb hts (tw_i inlX2) hown hK hP hL_this hK_this (by decide) rfl 19 (by decide) (hts _ (tw_c tw_100)) (pq_hv rfl hR_w_273) dX2_mark_68 ?_
            refine lv_iload hx hb dX2_mark_71 (lv_at hl 1 rfl) ?_
            refine pl_i hx hb hK hP hL_w_273 hK_w_273 hN_w_273 (rg_in h_306 (by decide)) dX2_mark_73 ?_
            refine lv_tov x_307 ex_307.symm ?_
            refine lv_iadd hx hb dX2_mark_74 ?_
            refine lv_topi (fun x_313 ex_313 => ?_)
            replace hF := hF.trans (ap_n ex_313)
            have h_314 : rg x_313 0 51 := rg_of_eq ex_313 (rg_add h_a0 h_308 (by decide))
            refine va_mmin hx hb (hml.trans hl.1.symm) hown (hts _ (tw_c tw_1063)) (hts _ (tw_c tw_467)) (hts _ (tw_c tw_276)) (hts _ (tw_c tw_468)) (Nat.le_of_ble_eq_true rfl) (Nat.le_of_ble_eq_true rfl) (Nat.zero_le _) (Nat.zero_le _) dX2_mark_75 ?_
            refine lv_topi (fun x_315 ex_315 => ?_)
            replace hF := hF.trans (ap_n ex_315)
            have h_316 : rg x_315 0 31 := rg_of_eq ex_315 (rg_min2 (rg_k (31 : Int32) 31 rfl) h_314 (by decide))
            refine lv_istore (lv' := [(9, .int x_315), (8, .int x_311), (7, .int x_271), (0, .ref this), (1, .int a0), (2, .int a1), (5, .int x_7), (6, .int x_222)]) hx hb dX2_mark_78 hl (by decide) rfl (fun ls hl => ?_)
            refine lv_aload_n hx hb dX2_mark_80 rfl (lv_at hl 3 rfl) ?_
            obtain ⟨w_317, hR_w_317, hL_w_317, hK_w_317, hN_w_317, hT_w_317⟩ := sh_a hSH 82 (ci := 2) (kd := 13) (len := 32) rfl (by decide) hL_this hK_this
            have hO_w_317 : w_317 = vrow σ 82 M := vo_k (c := 2) hO_this hR_w_317
            refine pg_f (v := .ref w_317) (C := RX2) (T := TX2) (N := 20) hx hb hts (tw_i inlX2) hown hK hP hL_this hK_this (by decide) rfl 18 (by decide) (hts _ (tw_c tw_99)) (pq_hv rfl hR_w_317) dX2_mark_81 ?_
            refine lv_iload hx hb dX2_mark_84 (lv_at hl 7 rfl) ?_
            refine lv_dup2_11 hx hb dX2_mark_86 rfl rfl ?_
            refine pl_i hx hb hK hP hL_w_317 hK_w_317 hN_w_317 (rg_in h_268 (by decide)) dX2_mark_87 ?_
            refine lv_topi (fun x_318 ex_318 => ?_)
            replace hF := hF.trans (ap_n (vR_r hO_w_317 (by decide) ex_318))
            refine lv_iconst (v := (-1)) hx hb dX2_mark_88 (by decide) ?_
            refine lv_iload hx hb dX2_mark_89 (lv_at hl 1 rfl) ?_
            refine lv_ishl hx hb dX2_mark_91 ?_
            refine lv_topi (fun x_319 ex_319 => ?_)
            replace hF := hF.trans (ap_n ex_319)
            refine lv_iconst (v := (-1)) hx hb dX2_mark_92 (by decide) ?_
            refine lv_bipush (v := 31) hx hb dX2_mark_93 (by decide) ?_
            refine lv_iload hx hb dX2_mark_95 (lv_at hl 0 rfl) ?_
            refine lv_isub hx hb dX2_mark_97 ?_
            refine lv_topi (fun x_320 ex_320 => ?_)
            replace hF := hF.trans (ap_n ex_320)
            have h_321 : rg x_320 0 31 := rg_of_eq ex_320 (rg_sub (rg_k (31 : Int32) 31 rfl) h_316 (by decide))
            refine lv_iushr hx hb dX2_mark_98 rfl ?_
            refine lv_topi (fun x_322 ex_322 => ?_)
            replace hF := hF.trans (ap_n ex_322)
            refine lv_iand hx hb dX2_mark_99 ?_
            refine lv_topi (fun x_323 ex_323 => ?_)
            replace hF := hF.trans (ap_n ex_323)
            refine lv_ior hx hb dX2_mark_100 ?_
            refine lv_topi (fun x_324 ex_324 => ?_)
            replace hF := hF.trans (ap_n ex_324)
            refine pt_i hx hb hK hP hD hS hL_w_317 hK_w_317 hN_w_317 (rg_in h_268 (by decide)) dX2_mark_101 (fun r_325 H locs er_325 hP hD hS => ?_)
            replace hFr := fr_R hFr hO_w_317 (by decide) er_325
            replace hF := hF.trans (ap_n (vR_st hVT hO_w_317 (by decide) er_325))
            have hG := GX.wR hG hSH hT_w_317 rfl er_325 (rg_w (rg_full _) (by decide)) (by decide)
            exact K_299 r_325 _ _ _ hF hFr hG hP hD hS (lv_sub hl [3, 4, 5, 6, 7] rfl)
    exact L_260 _ x_3 ri _ _ _ (rg_w h_4 (by decide)) (Nat.lt_succ_self _) hF hFr hG hP hD hS (lv_sub hl [3, 4, 5, 1, 0] rfl)
  exact go _ _ _ hP hD hS hl

set_option maxRecDepth 100000 in
def g_X2_countArea_L65 (I : Nat → Int32) (J : Nat → Int64) (rj : Nat → Nat → Int64) (rq : Nat → Nat → Option Nat) (ri_3293 : Nat → Nat → Int32) : Nat → (Int32) → (Int32) → Int32 × vM
  | 0, x_3779, x_3780 => ((0 : Int32), I, J, ri_3293, rj, rq)
  | n_3797 + 1, x_3779, x_3780 => (if (32 : Int32) ≤ x_3780 then (x_3779, I, J, ri_3293, rj, rq) else (ap1 (ri_3293 82 (x_3780).toNatClampNeg) fun (x_3807 : Int32) => (ap1 (g_J6_bitCount_0f7a4 x_3807) fun (x_3808 : Int32) => (ap1 (x_3779 + x_3808) fun (x_3815 : Int32) => (ap1 (x_3780 + Int32.ofInt 1) fun (x_3816 : Int32) => ((g_X2_countArea_L65 I J rj rq ri_3293 n_3797) x_3815 x_3816))))))
set_option maxRecDepth 100000 in
theorem g_X2_countArea_L65_e {I : Nat → Int32} {J : Nat → Int64} {rj : Nat → Nat → Int64} {rq : Nat → Nat → Option Nat} {ri_3293 : Nat → Nat → Int32} {n_3797 : Nat} {x_3779 : Int32} {x_3780 : Int32} : g_X2_countArea_L65 I J rj rq ri_3293 (n_3797 + 1) x_3779 x_3780 = (if (32 : Int32) ≤ x_3780 then (x_3779, I, J, ri_3293, rj, rq) else (ap1 (ri_3293 82 (x_3780).toNatClampNeg) fun (x_3807 : Int32) => (ap1 (g_J6_bitCount_0f7a4 x_3807) fun (x_3808 : Int32) => (ap1 (x_3779 + x_3808) fun (x_3815 : Int32) => (ap1 (x_3780 + Int32.ofInt 1) fun (x_3816 : Int32) => ((g_X2_countArea_L65 I J rj rq ri_3293 n_3797) x_3815 x_3816)))))) := rfl
set_option maxRecDepth 100000 in
def g_X2_countArea_K53 (x_3292 : Int32) (k_g_X2_countArea_L16 : (Int32) → (Nat → Nat → Int32) → Int32 × vM) (ri_3845 : Nat → Nat → Int32) : Int32 × vM := (ap1 (x_3292 + Int32.ofInt 1) fun (x_3849 : Int32) => (k_g_X2_countArea_L16 x_3849 ri_3845))
set_option maxRecDepth 100000 in
theorem g_X2_countArea_K53_e {x_3292 : Int32} {k_g_X2_countArea_L16 : (Int32) → (Nat → Nat → Int32) → Int32 × vM} {ri_3845 : Nat → Nat → Int32} : g_X2_countArea_K53 x_3292 k_g_X2_countArea_L16 ri_3845 = (ap1 (x_3292 + Int32.ofInt 1) fun (x_3849 : Int32) => (k_g_X2_countArea_L16 x_3849 ri_3845)) := rfl
set_option maxRecDepth 100000 in
def g_X2_countArea_L16 (a0 : Int64) (a1 : Int32) (I : Nat → Int32) (J : Nat → Int64) (rj : Nat → Nat → Int64) (rq : Nat → Nat → Option Nat) : Nat → (Int32) → (Nat → Nat → Int32) → Int32 × vM
  | 0, x_3292, ri_3293 => ((0 : Int32), I, J, ri_3293, rj, rq)
  | n_3566 + 1, x_3292, ri_3293 => (ap1 (I 65) fun (y_3572 : Int32) => (if (y_3572) ≤ x_3292 then (g_X2_countArea_L65 I J rj rq ri_3293 ((32 - ((0 : Int32)).toInt).toNat + 1) (0 : Int32) (0 : Int32)) else (ap1 (g_X11_hasBit a0 x_3292) fun (x_3820 : Int32) => (if x_3820 = (0 : Int32) then (g_X2_countArea_K53 x_3292 (g_X2_countArea_L16 a0 a1 I J rj rq n_3566) ri_3293) else (ap1 (ri_3293 71 (x_3292).toNatClampNeg) fun (x_3857 : Int32) => (ap1 (ri_3293 72 (x_3292).toNatClampNeg) fun (x_3860 : Int32) => (bnV (g_X2_mark x_3857 x_3860 a1 I J ri_3293 rj rq) fun (_ : Nat → Int32) (_ : Nat → Int64) (ri_3864 : Nat → Nat → Int32) (_ : Nat → Nat → Int64) (_ : Nat → Nat → Option Nat) => (g_X2_countArea_K53 x_3292 (g_X2_countArea_L16 a0 a1 I J rj rq n_3566) ri_3864))))))))
set_option maxRecDepth 100000 in
theorem g_X2_countArea_L16_e {a0 : Int64} {a1 : Int32} {I : Nat → Int32} {J : Nat → Int64} {rj : Nat → Nat → Int64} {rq : Nat → Nat → Option Nat} {n_3566 : Nat} {x_3292 : Int32} {ri_3293 : Nat → Nat → Int32} : g_X2_countArea_L16 a0 a1 I J rj rq (n_3566 + 1) x_3292 ri_3293 = (ap1 (I 65) fun (y_3572 : Int32) => (if (y_3572) ≤ x_3292 then (g_X2_countArea_L65 I J rj rq ri_3293 ((32 - ((0 : Int32)).toInt).toNat + 1) (0 : Int32) (0 : Int32)) else (ap1 (g_X11_hasBit a0 x_3292) fun (x_3820 : Int32) => (if x_3820 = (0 : Int32) then (g_X2_countArea_K53 x_3292 (g_X2_countArea_L16 a0 a1 I J rj rq n_3566) ri_3293) else (ap1 (ri_3293 71 (x_3292).toNatClampNeg) fun (x_3857 : Int32) => (ap1 (ri_3293 72 (x_3292).toNatClampNeg) fun (x_3860 : Int32) => (bnV (g_X2_mark x_3857 x_3860 a1 I J ri_3293 rj rq) fun (_ : Nat → Int32) (_ : Nat → Int64) (ri_3864 : Nat → Nat → Int32) (_ : Nat → Nat → Int64) (_ : Nat → Nat → Option Nat) => (g_X2_countArea_K53 x_3292 (g_X2_countArea_L16 a0 a1 I J rj rq n_3566) ri_3864)))))))) := rfl
set_option maxRecDepth 100000 in
def g_X2_countArea (a0 : Int64) (a1 : Int32) (I : Nat → Int32) (J : Nat → Int64) (ri : Nat → Nat → Int32) (rj : Nat → Nat → Int64) (rq : Nat → Nat → Option Nat) : Int32 × vM := (ap1 (va_up ri 82 (fil (0 : Int32) 32 (ri 82))) fun (ri_4 : Nat → Nat → Int32) => (bnV (g_X2_measure a1 I J ri_4 rj rq) fun (_ : Nat → Int32) (_ : Nat → Int64) (ri_13 : Nat → Nat → Int32) (_ : Nat → Nat → Int64) (_ : Nat → Nat → Option Nat) => (g_X2_countArea_L16 a0 a1 I J rj rq ((40 - ((0 : Int32)).toInt).toNat + 1) (0 : Int32) ri_13)))
set_option maxRecDepth 100000 in
theorem g_X2_countArea_e {a0 : Int64} {a1 : Int32} {I : Nat → Int32} {J : Nat → Int64} {ri : Nat → Nat → Int32} {rj : Nat → Nat → Int64} {rq : Nat → Nat → Option Nat} : g_X2_countArea a0 a1 I J ri rj rq = (ap1 (va_up ri 82 (fil (0 : Int32) 32 (ri 82))) fun (ri_4 : Nat → Nat → Int32) => (bnV (g_X2_measure a1 I J ri_4 rj rq) fun (_ : Nat → Int32) (_ : Nat → Int64) (ri_13 : Nat → Nat → Int32) (_ : Nat → Nat → Int64) (_ : Nat → Nat → Option Nat) => (g_X2_countArea_L16 a0 a1 I J rj rq ((40 - ((0 : Int32)).toInt).toNat + 1) (0 : Int32) ri_13))) := rfl
set_option maxHeartbeats 4000000 in
set_option maxRecDepth 100000 in
theorem s_X2_countArea (l : Launch) (D : va_G) (t : pq_T) (σ : pq_S) (I : Nat → Nat → Int32) (J : Nat → Nat → Int64) (ri : Nat → Nat → Int32) (rj : Nat → Nat → Int64) (rq : Nat → Nat → Option Nat) (sz : Nat) (tg : Nat → Nat) (hSH : SH σ tg) (hG0 : GS tg σ I ri rq) (this : Nat) (a0 : Int64) (a1 : Int32) (hL_this : this ∈ σ.1) (hK_this : σ.2.1 this = 2) (h_a1 : rg a1 0 20) (M : Nat) (hL_M : M ∈ σ.1) (hK_M : σ.2.1 M = 10) (hO_this : this = vo σ 2 M) : MetI l yX2_countArea (wa yX2_countArea cX2_countArea 6 (some .int)) ({ frames := 2, cells := 0, slots := 0, locals := 69 }) [.ref this, .long a0, .int a1] D t σ (I, J, ri, rj, rq) sz 0 0 (fun (r : Int32) (u : pq_S × pq_M) => ∃ ri' : Nat → Nat → Int32, u = (σ, I, J, ri', rj, rq) ∧ GX [] tg σ I ri rj I ri' rj rq ∧ g_X2_countArea a0 a1 (vI 10 σ M I) (vJ 10 σ M J) (vR 10 σ M ri) (vL 10 σ M rj) (vQ 10 σ M rq) = (r, (vI 10 σ M I), (vJ 10 σ M J), (vR 10 σ M ri'), (vL 10 σ M rj), (vQ 10 σ M rq)) ∧ FR 10 tg σ M (I, J, ri, rj, rq) (I, J, ri', rj, rq)) := by
  refine Met.ofW (cc := cX2_countArea) (maxL := 6) (ret := (some .int)) (by decide) rfl ?_
  intro p e s m args below meth c s₁ B hml hv
  obtain ⟨rfl, hsz, hP, hK, hD0, hN⟩ := hv
  have hx := B.exec
  have hb := B.bytes
  have hr := B.returns
  have hts := atoms_spec (ws := (wa yX2_countArea cX2_countArea 6 (some .int))) B.pre
  have hown : s.vm.findClass RX2 = some m.cls := findClass_of_methodNamed B.named
  have hlocks := B.notSynchronized
  subst hsz
  have hD : va_D (pq_B t σ (I, J, ri, rj, rq) s.heap.size) (pq_P t σ (I, J, ri, rj, rq)) := hD0.self
  generalize hAe : pq_B t σ (I, J, ri, rj, rq) s.heap.size = A at hD ⊢
  have hA : ∀ q : Nat, s.heap.size ≤ q → A q := fun q h => by rw [← hAe]; exact Or.inr h
  have hS : va_S A s.heap s.heap [] := va_S.rf
  have hG : GX [] tg σ I ri rj I ri rj rq := ⟨hG0, fun _ _ _ => rfl, fun _ _ _ _ _ => rfl, fun _ _ _ _ _ => rfl⟩
  have hl := lv_entry ([.ref this, .long a0, .int a1]) (n := 6) (Nat.le_of_ble_eq_true rfl)
  rw [lg_entry_eq]
  generalize (lg_sl ([.ref this, .long a0, .int a1]) ++ List.replicate (6 - (lg_sl ([.ref this, .long a0, .int a1])).length) Slot.unset).toArray = ls at hl ⊢
  have hl : lv_has ls 6 [(0, .ref this), (1, .long a0), (3, .int a1)] := hl
  refine q_gen (fun Q hQ => ?_)
  have go : ∀ (H : Heap) (locs : List Loc) (ls : Array Slot), va_P D vwCl (pq_P t σ (I, J, ri, rj, rq)) H → va_D A (pq_P t σ (I, J, ri, rj, rq)) → va_S A s.heap H locs → lv_has ls 6 [(0, .ref this), (1, .long a0), (3, .int a1)] → W p l e ({ frames := 2, cells := 0, slots := 0, locals := 69 } : Room) s m (List.toArray ([.ref this, .long a0, .int a1] : List Value)) below meth c H locs 0 0 Q (F0 m 0 ls []) := by
    intro H locs ls hP hD hS hl
    have hVT : VT 10 σ tg M := vt_10 hSH hL_M hK_M
    have hFr : FR 10 tg σ M (I, J, ri, rj, rq) (I, J, ri, rj, rq) := fr_rf
    obtain ⟨F, hF0⟩ : ∃ F, F = g_X2_countArea a0 a1 (vI 10 σ M I) (vJ 10 σ M J) (vR 10 σ M ri) (vL 10 σ M rj) (vQ 10 σ M rq) := ⟨_, rfl⟩
    have hF := hF0.trans g_X2_countArea_e
    refine lv_aload_n hx hb dX2_countArea_0 rfl (lv_at hl 0 rfl) ?_
    obtain ⟨w_1, hR_w_1, hL_w_1, hK_w_1, hN_w_1, hT_w_1⟩ := sh_a hSH 82 (ci := 2) (kd := 13) (len := 32) rfl (by decide) hL_this hK_this
    have hO_w_1 : w_1 = vrow σ 82 M := vo_k (c := 2) hO_this hR_w_1
    refine pg_f (v := .ref w_1) (C := RX2) (T := TX2) (N := 20) hx hb hts (tw_i inlX2) hown hK hP hL_this hK_this (by decide) rfl 18 (by decide) (hts _ (tw_c tw_99)) (pq_hv rfl hR_w_1) dX2_countArea_1 ?_
    refine lv_iconst (v := 0) hx hb dX2_countArea_4 (by decide) ?_
    refine pk_v (va_runSN (As := [.ref w_1, .int 0]) (rest := []) ⟨hx, hb, hml, hown, hts⟩ (s_X11_fill_82 l D t σ I J ri rj rq H.size tg hSH hG.1 w_1 (0 : Int32) hL_w_1 hK_w_1 hN_w_1 hT_w_1) ⟨va_cnB (host := "RingsUnder") 2 hts (tw_W tw_76) rfl rfl rfl (nl_2 hN) (hts _ (tw_c tw_2)) cd_yX11_fill_2 ⟨Nat.le_of_ble_eq_true rfl, Nat.le_of_ble_eq_true rfl⟩, hts (.static yX11_fill) (tw_c tq_static_yX11_fill), trivial⟩ ⟨pq_blind, pq_pre hK hN hP hD⟩ rfl rfl hl.1 rfl (lv_room (Nat.le_of_ble_eq_true rfl)) dX2_countArea_5 ⟨Nat.le_of_ble_eq_true rfl, Nat.le_of_ble_eq_true rfl⟩) hD hS hA (fun σ1 μ1 H locs hw_3 hP hD hS => ?_)
    obtain ⟨ri_4, hu_5, hg_6, hp_8⟩ := hw_3
    obtain ⟨hu_5a, hu_5b⟩ := Prod.mk.inj hu_5
    rw [hu_5a, hu_5b] at hP hD
    replace hFr := fr_R hFr hO_w_1 (by decide) hp_8
    replace hF := hF.trans (ap_n (vR_fl hVT hO_w_1 (by decide) hp_8))
    have hG := GX.tr hG hg_6 (by decide)
    refine lv_aload_n hx hb dX2_countArea_8 rfl (lv_at hl 0 rfl) ?_
    refine lv_iload_n hx hb dX2_countArea_9 rfl (lv_at hl 2 rfl) ?_
    refine pk_v (va_runV (As := [.int a1]) (rest := []) ⟨hx, hb, hml, hown, hts⟩ (s_X2_measure l D t σ I J ri_4 rj rq H.size tg hSH hG.1 this a1 hL_this hK_this (rg_w h_a1 (by decide)) M hL_M hK_M hO_this) (cwV 1 hts (tw_V tw_1138 tw_1139 tw_1140 tw_41 tw_1141) rfl rfl rfl cv_yX2_measure_1 ⟨Nat.le_of_ble_eq_true rfl, Nat.le_of_ble_eq_true rfl⟩) ⟨pq_blind, pq_recv hK hP hL_this hK_this (by decide) rfl, pq_pre hK hN hP hD⟩ rfl rfl hl.1 rfl (lv_room (Nat.le_of_ble_eq_true rfl)) dX2_countArea_10 ⟨Nat.le_of_ble_eq_true rfl, Nat.le_of_ble_eq_true rfl⟩) hD hS hA (fun σ1 μ1 H locs hw_12 hP hD hS => ?_)
    obtain ⟨ri_13, hu_14, hg_15, hfn_17, hfr_18⟩ := hw_12
    obtain ⟨hu_14a, hu_14b⟩ := Prod.mk.inj hu_14
    rw [hu_14a, hu_14b] at hP hD
    replace hF := hF.trans (bv_n hfn_17)
    replace hFr := fr_tr hFr hfr_18
    have hG := GX.tr hG hg_15 (by decide)
    refine lv_iconst (v := 0) hx hb dX2_countArea_13 (by decide) ?_
    refine lv_istore (lv' := [(4, .int 0), (0, .ref this), (1, .long a0), (3, .int a1)]) hx hb dX2_countArea_14 hl (by decide) rfl (fun ls hl => ?_)
    have L_3567 : ∀ (n_3566 : Nat) (x_3292 : Int32) (ri_3293 : Nat → Nat → Int32) (H : Heap) (locs : List Loc) (ls : Array Slot), rg x_3292 0 40 → (40 - (x_3292).toInt).toNat < n_3566 → F = g_X2_countArea_L16 a0 a1 (vI 10 σ M I) (vJ 10 σ M J) (vL 10 σ M rj) (vQ 10 σ M rq) n_3566 x_3292 (vR 10 σ M ri_3293) → FR 10 tg σ M (I, J, ri, rj, rq) (I, J, ri_3293, rj, rq) → GX [] tg σ I ri rj I ri_3293 rj rq → va_P D vwCl (pq_P t σ (I, J, ri_3293, rj, rq)) H → va_D A (pq_P t σ (I, J, ri_3293, rj, rq)) → va_S A s.heap H locs → lv_has ls 6 [(0, .ref this), (1, .long a0), (3, .int a1), (4, .int x_3292)] → W p l e ({ frames := 2, cells := 0, slots := 0, locals := 69 } : Room) s m (List.toArray ([.ref this, .long a0, .int a1] : List Value)) below meth c H locs 0 0 Q (F0 m 16 ls []) := by
      intro n_3566
      induction n_3566 with
      | zero => intro x_3292 ri_3293 H locs ls h_3570 hm_3565 hF hFr hG hP hD hS hl; exact absurd hm_3565 (Nat.not_lt_zero _)
      | succ n_3566 ih_3568 =>
        intro x_3292 ri_3293 H locs ls h_3570 hm_3565 hF hFr hG hP hD hS hl
        replace hF := hF.trans g_X2_countArea_L16_e
        refine lv_iload hx hb dX2_countArea_16 (lv_at hl 3 rfl) ?_
        refine lv_aload_n hx hb dX2_countArea_18 rfl (lv_at hl 0 rfl) ?_
        refine pg_f (v := .int (I 65 this)) (C := RX2) (T := TX2) (N := 20) hx hb hts (tw_i inlX2) hown hK hP hL_this hK_this (by decide) rfl 1 (by decide) (hts _ (tw_c tw_222)) rfl dX2_countArea_19 ?_
        have h_3571 : rg (I 65 this) 0 40 := GX.rI hG 65 rfl
        replace hF := hF.trans (ap_n (vI_e (f := 65) hO_this (by decide)))
        refine lv_icmp_ge (tgt := 59) hx hb dX2_countArea_22 (by decide) (fun c_3573 => ?_) (fun c_3573 => ?_)
        · replace hF := hF.trans (if_pos c_3573)
          refine lv_iconst (v := 0) hx hb dX2_countArea_59 (by decide) ?_
          refine lv_istore (lv' := [(4, .int 0), (0, .ref this), (1, .long a0), (3, .int a1)]) hx hb dX2_countArea_60 hl (by decide) rfl (fun ls hl => ?_)
          refine lv_iconst (v := 0) hx hb dX2_countArea_62 (by decide) ?_
          refine lv_istore (lv' := [(5, .int 0), (4, .int 0), (0, .ref this), (1, .long a0), (3, .int a1)]) hx hb dX2_countArea_63 hl (by decide) rfl (fun ls hl => ?_)
          have L_3798 : ∀ (n_3797 : Nat) (x_3779 : Int32) (x_3780 : Int32) (H : Heap) (locs : List Loc) (ls : Array Slot), rg x_3780 0 32 → (32 - (x_3780).toInt).toNat < n_3797 → F = g_X2_countArea_L65 (vI 10 σ M I) (vJ 10 σ M J) (vL 10 σ M rj) (vQ 10 σ M rq) (vR 10 σ M ri_3293) n_3797 x_3779 x_3780 → FR 10 tg σ M (I, J, ri, rj, rq) (I, J, ri_3293, rj, rq) → GX [] tg σ I ri rj I ri_3293 rj rq → va_P D vwCl (pq_P t σ (I, J, ri_3293, rj, rq)) H → va_D A (pq_P t σ (I, J, ri_3293, rj, rq)) → va_S A s.heap H locs → lv_has ls 6 [(0, .ref this), (4, .int x_3779), (5, .int x_3780)] → W p l e ({ frames := 2, cells := 0, slots := 0, locals := 69 } : Room) s m (List.toArray ([.ref this, .long a0, .int a1] : List Value)) below meth c H locs 0 0 Q (F0 m 65 ls []) := by
            intro n_3797
            induction n_3797 with
            | zero => intro x_3779 x_3780 H locs ls h_3801 hm_3796 hF hFr hG hP hD hS hl; exact absurd hm_3796 (Nat.not_lt_zero _)
            | succ n_3797 ih_3799 =>
              intro x_3779 x_3780 H locs ls h_3801 hm_3796 hF hFr hG hP hD hS hl
              replace hF := hF.trans g_X2_countArea_L65_e
              refine lv_iload hx hb dX2_countArea_65 (lv_at hl 2 rfl) ?_
              refine lv_bipush (v := 32) hx hb dX2_countArea_67 (by decide) ?_
              refine lv_icmp_ge (tgt := 93) hx hb dX2_countArea_69 (by decide) (fun c_3802 => ?_) (fun c_3802 => ?_)
              · replace hF := hF.trans (if_pos c_3802)
                have h_3805 : rg x_3780 32 32 := rg_le2 c_3802 (rg_k (32 : Int32) 32 rfl) h_3801 (by decide)
                refine lv_iload hx hb dX2_countArea_93 (lv_at hl 1 rfl) ?_
                subst hQ
                exact W.iret (v := x_3779) hx hb hr (fun t1 ht hW => ⟨⟨x_3779, (σ, I, J, ri_3293, rj, rq), rfl, ⟨ri_3293, rfl, hG, (hF0.symm.trans hF), hFr⟩, by rw [ht]; exact hP, va_K.moved hW.alike hK, hD⟩, hS.F ht⟩) hS.2.2 dX2_countArea_95
              · replace hF := hF.trans (if_neg c_3802)
                have h_3806 : rg x_3780 0 31 := rg_lt1 (nle c_3802) h_3801 (rg_k (32 : Int32) 32 rfl) (by decide)
                refine lv_iload hx hb dX2_countArea_72 (lv_at hl 1 rfl) ?_
                refine lv_aload_n hx hb dX2_countArea_74 rfl (lv_at hl 0 rfl) ?_
                refine pg_f (v := .ref w_1) (C := RX2) (T := TX2) (N := 20) hx hb hts (tw_i inlX2) hown hK hP hL_this hK_this (by decide) rfl 18 (by decide) (hts _ (tw_c tw_99)) (pq_hv rfl hR_w_1) dX2_countArea_75 ?_
                refine lv_iload hx hb dX2_countArea_78 (lv_at hl 2 rfl) ?_
                refine pl_i hx hb hK hP hL_w_1 hK_w_1 hN_w_1 (rg_in h_3806 (by decide)) dX2_countArea_80 ?_
                refine lv_topi (fun x_3807 ex_3807 => ?_)
                replace hF := hF.trans (ap_n (vR_r hO_w_1 (by decide) ex_3807))
                refine pk_i (va_runS (As := [.int x_3807]) (rest := [.int x_3779]) ⟨hx, hb, hml, hown, hts⟩ (s_J6_bitCount_0f7a4 l D t σ I J ri_3293 rj rq H.size tg hSH hG.1 x_3807) (va_cwS 1 hts (tw_S tw_1147 tw_1148 tw_492 tw_1149) rfl rfl rfl cd_yJ6_bitCount_0f7a4_1 ⟨Nat.le_of_ble_eq_true rfl, Nat.le_of_ble_eq_true rfl⟩) ⟨pq_blind, pq_pre hK hN hP hD⟩ rfl rfl hl.1 rfl (lv_room (Nat.le_of_ble_eq_true rfl)) dX2_countArea_81 ⟨Nat.le_of_ble_eq_true rfl, Nat.le_of_ble_eq_true rfl⟩) hD hS hA (fun x_3808 σ1 μ1 H locs hw_3809 hP hD hS => ?_)
                obtain ⟨hu_3810, hfn_3813⟩ := hw_3809
                obtain ⟨hu_3810a, hu_3810b⟩ := Prod.mk.inj hu_3810
                rw [hu_3810a, hu_3810b] at hP hD
                replace hF := hF.trans (ap_n hfn_3813.symm)
                refine lv_iadd hx hb dX2_countArea_84 ?_
                refine lv_topi (fun x_3815 ex_3815 => ?_)
                replace hF := hF.trans (ap_n ex_3815)
                refine lv_istore (lv' := [(4, .int x_3815), (0, .ref this), (5, .int x_3780)]) hx hb dX2_countArea_85 hl (by decide) rfl (fun ls hl => ?_)
                obtain ⟨x_3816, ex_3816⟩ : ∃ y : Int32, y = x_3780 + Int32.ofInt 1 := ⟨_, rfl⟩
                replace hF := hF.trans (ap_n ex_3816)
                have h_3817 : rg x_3816 1 32 := rg_of_eq ex_3816 (rg_add h_3806 (rg_k (Int32.ofInt 1) 1 rfl) (by decide))
                refine lv_iinc (v := x_3816) (lv' := [(5, .int x_3816), (4, .int x_3815), (0, .ref this)]) hx hb dX2_countArea_87 hl (k := 2) rfl ex_3816.symm (by decide) rfl (fun ls hl => ?_)
                refine lv_goto (tgt := 65) hx hb dX2_countArea_90 (by decide) ?_
                exact ih_3799 x_3815 x_3816 _ _ _ (rg_w h_3817 (by decide)) (ms_up 1 hm_3796 ex_3816 rfl (by decide) h_3806 (by decide) (by decide)) hF hFr hG hP hD hS (lv_sub hl [2, 1, 0] rfl)
          exact L_3798 _ (0 : Int32) (0 : Int32) _ _ _ (rg_w (rg_k (0 : Int32) 0 rfl) (by decide)) (Nat.lt_succ_self _) hF hFr hG hP hD hS (lv_sub hl [2, 1, 0] rfl)
        · replace hF := hF.trans (if_neg c_3573)
          have h_3818 : rg x_3292 0 39 := rg_lt1 (nle c_3573) h_3570 h_3571 (by decide)
          have h_3819 : rg (I 65 this) 1 40 := rg_lt2 (nle c_3573) h_3570 h_3571 (by decide)
          refine lv_lload_n hx hb dX2_countArea_25 rfl (lv_at hl 1 rfl) ?_
          refine lv_iload hx hb dX2_countArea_26 (lv_at hl 3 rfl) ?_
          refine pk_i (va_runSN (As := [.long a0, .int x_3292]) (rest := []) ⟨hx, hb, hml, hown, hts⟩ (s_X11_hasBit l D t σ I J ri_3293 rj rq H.size tg hSH hG.1 a0 x_3292) ⟨va_cnB (host := "RingsUnder") 2 hts (tw_W tw_560) rfl rfl rfl (nl_11 hN) (hts _ (tw_c tw_2)) cd_yX11_hasBit_2 ⟨Nat.le_of_ble_eq_true rfl, Nat.le_of_ble_eq_true rfl⟩, hts (.static yX11_hasBit) (tw_c tq_static_yX11_hasBit), trivial⟩ ⟨pq_blind, pq_pre hK hN hP hD⟩ rfl rfl hl.1 rfl (lv_room (Nat.le_of_ble_eq_true rfl)) dX2_countArea_28 ⟨Nat.le_of_ble_eq_true rfl, Nat.le_of_ble_eq_true rfl⟩) hD hS hA (fun x_3820 σ1 μ1 H locs hw_3821 hP hD hS => ?_)
          obtain ⟨hu_3822, hfn_3825, hr_3824⟩ := hw_3821
          obtain ⟨hu_3822a, hu_3822b⟩ := Prod.mk.inj hu_3822
          rw [hu_3822a, hu_3822b] at hP hD
          replace hF := hF.trans (ap_n hfn_3825.symm)
          have h_3827 : rg x_3820 0 1 := by rcases hr_3824 with ⟨q, -⟩ | ⟨q, -⟩ <;> rw [q] <;> exact ⟨by decide, by decide⟩
          have K_3848 : ∀  (ri_3845 : Nat → Nat → Int32) (H : Heap) (locs : List Loc) (ls : Array Slot), F = g_X2_countArea_K53 x_3292 (g_X2_countArea_L16 a0 a1 (vI 10 σ M I) (vJ 10 σ M J) (vL 10 σ M rj) (vQ 10 σ M rq) n_3566) (vR 10 σ M ri_3845) → FR 10 tg σ M (I, J, ri, rj, rq) (I, J, ri_3845, rj, rq) → GX [] tg σ I ri rj I ri_3845 rj rq → va_P D vwCl (pq_P t σ (I, J, ri_3845, rj, rq)) H → va_D A (pq_P t σ (I, J, ri_3845, rj, rq)) → va_S A s.heap H locs → lv_has ls 6 [(0, .ref this), (1, .long a0), (3, .int a1), (4, .int x_3292)] → W p l e ({ frames := 2, cells := 0, slots := 0, locals := 69 } : Room) s m (List.toArray ([.ref this, .long a0, .int a1] : List Value)) below meth c H locs 0 0 Q (F0 m 53 ls []) := by
            intro ri_3845 H locs ls hF hFr hG hP hD hS hl
            replace hF := hF.trans g_X2_countArea_K53_e
            obtain ⟨x_3849, ex_3849⟩ : ∃ y : Int32, y = x_3292 + Int32.ofInt 1 := ⟨_, rfl⟩
            replace hF := hF.trans (ap_n ex_3849)
            have h_3850 : rg x_3849 1 40 := rg_of_eq ex_3849 (rg_add h_3818 (rg_k (Int32.ofInt 1) 1 rfl) (by decide))
            refine lv_iinc (v := x_3849) (lv' := [(4, .int x_3849), (0, .ref this), (1, .long a0), (3, .int a1)]) hx hb dX2_countArea_53 hl (k := 3) rfl ex_3849.symm (by decide) rfl (fun ls hl => ?_)
            refine lv_goto (tgt := 16) hx hb dX2_countArea_56 (by decide) ?_
            exact ih_3568 x_3849 ri_3845 _ _ _ (rg_w h_3850 (by decide)) (ms_up 1 hm_3565 ex_3849 rfl (by decide) h_3818 (by decide) (by decide)) hF hFr hG hP hD hS (lv_sub hl [1, 2, 3, 0] rfl)
          refine lv_if_eq (tgt := 53) hx hb dX2_countArea_31 (by decide) (fun c_3851 => ?_) (fun c_3851 => ?_)
          · replace hF := hF.trans (if_pos c_3851)
            have h_3854 : rg x_3820 0 0 := rg_and h_3827 (rg_of_eq c_3851 (rg_k (0 : Int32) 0 rfl)) (by decide)
            exact K_3848 ri_3293 _ _ _ hF hFr hG hP hD hS (lv_sub hl [0, 1, 2, 3] rfl)
          · replace hF := hF.trans (if_neg c_3851)
            have h_3855 : rg x_3820 1 1 := rg_ne c_3851 h_3827 0 rfl (by decide)
            refine lv_aload_n hx hb dX2_countArea_34 rfl (lv_at hl 0 rfl) ?_
            refine lv_aload_n hx hb dX2_countArea_35 rfl (lv_at hl 0 rfl) ?_
            obtain ⟨w_3856, hR_w_3856, hL_w_3856, hK_w_3856, hN_w_3856, hT_w_3856⟩ := sh_a hSH 71 (ci := 2) (kd := 13) (len := 40) rfl (by decide) hL_this hK_this
            have hO_w_3856 : w_3856 = vrow σ 71 M := vo_k (c := 2) hO_this hR_w_3856
            refine pg_f (v := .ref w_3856) (C := RX2) (T := TX2) (N := 20) hx hb hts (tw_i inlX2) hown hK hP hL_this hK_this (by decide) rfl 7 (by decide) (hts _ (tw_c tw_85)) (pq_hv rfl hR_w_3856) dX2_countArea_36 ?_
            refine lv_iload hx hb dX2_countArea_39 (lv_at hl 3 rfl) ?_
            refine pl_i hx hb hK hP hL_w_3856 hK_w_3856 hN_w_3856 (rg_in h_3818 (by decide)) dX2_countArea_41 ?_
            refine lv_topi (fun x_3857 ex_3857 => ?_)
            replace hF := hF.trans (ap_n (vR_r hO_w_3856 (by decide) ex_3857))
            have h_3858 : rg x_3857 0 31 := rg_of_eq ex_3857 (GX.rR hG hT_w_3856 rfl)
            refine lv_aload_n hx hb dX2_countArea_42 rfl (lv_at hl 0 rfl) ?_
            obtain ⟨w_3859, hR_w_3859, hL_w_3859, hK_w_3859, hN_w_3859, hT_w_3859⟩ := sh_a hSH 72 (ci := 2) (kd := 13) (len := 40) rfl (by decide) hL_this hK_this
            have hO_w_3859 : w_3859 = vrow σ 72 M := vo_k (c := 2) hO_this hR_w_3859
            refine pg_f (v := .ref w_3859) (C := RX2) (T := TX2) (N := 20) hx hb hts (tw_i inlX2) hown hK hP hL_this hK_this (by decide) rfl 8 (by decide) (hts _ (tw_c tw_86)) (pq_hv rfl hR_w_3859) dX2_countArea_43 ?_
            refine lv_iload hx hb dX2_countArea_46 (lv_at hl 3 rfl) ?_
            refine pl_i hx hb hK hP hL_w_3859 hK_w_3859 hN_w_3859 (rg_in h_3818 (by decide)) dX2_countArea_48 ?_
            refine lv_topi (fun x_3860 ex_3860 => ?_)
            replace hF := hF.trans (ap_n (vR_r hO_w_3859 (by decide) ex_3860))
            have h_3861 : rg x_3860 0 31 := rg_of_eq ex_3860 (GX.rR hG hT_w_3859 rfl)
            refine lv_iload_n hx hb dX2_countArea_49 rfl (lv_at hl 2 rfl) ?_
            refine pk_v (va_runV (As := [.int x_3857, .int x_3860, .int a1]) (rest := []) ⟨hx, hb, hml, hown, hts⟩ (s_X2_mark l D t σ I J ri_3293 rj rq H.size tg hSH hG.1 this x_3857 x_3860 a1 hL_this hK_this (rg_w h_3858 (by decide)) (rg_w h_3861 (by decide)) (rg_w h_a1 (by decide)) M hL_M hK_M hO_this) (cwV 3 hts (tw_V tw_1142 tw_1143 tw_1144 tw_41 tw_1145) rfl rfl rfl cv_yX2_mark_3 ⟨Nat.le_of_ble_eq_true rfl, Nat.le_of_ble_eq_true rfl⟩) ⟨pq_blind, pq_recv hK hP hL_this hK_this (by decide) rfl, pq_pre hK hN hP hD⟩ rfl rfl hl.1 rfl (lv_room (Nat.le_of_ble_eq_true rfl)) dX2_countArea_50 ⟨Nat.le_of_ble_eq_true rfl, Nat.le_of_ble_eq_true rfl⟩) hD hS hA (fun σ1 μ1 H locs hw_3863 hP hD hS => ?_)
            obtain ⟨ri_3864, hu_3865, hg_3866, hfn_3868, hfr_3869⟩ := hw_3863
            obtain ⟨hu_3865a, hu_3865b⟩ := Prod.mk.inj hu_3865
            rw [hu_3865a, hu_3865b] at hP hD
            replace hF := hF.trans (bv_n hfn_3868)
            replace hFr := fr_tr hFr hfr_3869
            have hG := GX.tr hG hg_3866 (by decide)
            exact K_3848 ri_3864 _ _ _ hF hFr hG hP hD hS (lv_sub hl [0, 1, 2, 3] rfl)
    exact L_3567 _ (0 : Int32) ri_13 _ _ _ (rg_w (rg_k (0 : Int32) 0 rfl) (by decide)) (Nat.lt_succ_self _) hF hFr hG hP hD hS (lv_sub hl [1, 2, 3, 0] rfl)
  exact go _ _ _ hP hD hS hl
