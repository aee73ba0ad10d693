theorem dX2_tide_0 : decode cX2_tide 0 = .ok (.aload_n 0, 1) := by decide +kernel
theorem dX2_tide_1 : decode cX2_tide 1 = .ok (.lconst 0, 1) := by decide +kernel
theorem dX2_tide_2 : decode cX2_tide 2 = .ok (.putfield 79, 3) := by decide +kernel
theorem dX2_tide_5 : decode cX2_tide 5 = .ok (.lconst 0, 1) := by decide +kernel
theorem dX2_tide_6 : decode cX2_tide 6 = .ok (.lstore 4, 2) := by decide +kernel
theorem dX2_tide_8 : decode cX2_tide 8 = .ok (.iconst 0, 1) := by decide +kernel
theorem dX2_tide_9 : decode cX2_tide 9 = .ok (.istore 6, 2) := by decide +kernel
theorem dX2_tide_11 : decode cX2_tide 11 = .ok (.iload 6, 2) := by decide +kernel
theorem dX2_tide_13 : decode cX2_tide 13 = .ok (.aload_n 0, 1) := by decide +kernel
theorem dX2_tide_14 : decode cX2_tide 14 = .ok (.getfield 73, 3) := by decide +kernel
theorem dX2_tide_17 : decode cX2_tide 17 = .ok (.if_icmp .ge 73, 3) := by decide +kernel
theorem dX2_tide_90 : decode cX2_tide 90 = .ok (.iload_n 1, 1) := by decide +kernel
theorem dX2_tide_91 : decode cX2_tide 91 = .ok (.ifCond .lt 18, 3) := by decide +kernel
theorem dX2_tide_109 : decode cX2_tide 109 = .ok (.return_, 1) := by decide +kernel
theorem dX2_tide_94 : decode cX2_tide 94 = .ok (.iload_n 1, 1) := by decide +kernel
theorem dX2_tide_95 : decode cX2_tide 95 = .ok (.sipush 600, 3) := by decide +kernel
theorem dX2_tide_98 : decode cX2_tide 98 = .ok (.if_icmp .ge 11, 3) := by decide +kernel
theorem dX2_tide_101 : decode cX2_tide 101 = .ok (.aload_n 0, 1) := by decide +kernel
theorem dX2_tide_102 : decode cX2_tide 102 = .ok (.getfield 9, 3) := by decide +kernel
theorem dX2_tide_105 : decode cX2_tide 105 = .ok (.iload_n 1, 1) := by decide +kernel
theorem dX2_tide_106 : decode cX2_tide 106 = .ok (.lload 4, 2) := by decide +kernel
theorem dX2_tide_108 : decode cX2_tide 108 = .ok (.lastore, 1) := by decide +kernel
theorem dX2_tide_20 : decode cX2_tide 20 = .ok (.aload_n 0, 1) := by decide +kernel
theorem dX2_tide_21 : decode cX2_tide 21 = .ok (.iload 6, 2) := by decide +kernel
theorem tw_1074 : Cond.methodLink RX2 114 yX2_topOf ∈ wsL_law := List.mem_of_getElem? (i := 1074) (by decide +kernel)
theorem tw_1075 : Cond.instanceMethod yX2_topOf ∈ wsL_law := List.mem_of_getElem? (i := 1075) (by decide +kernel)
theorem tw_1076 : Cond.selects RX2 yX2_topOf yX2_topOf ∈ wsL_law := List.mem_of_getElem? (i := 1076) (by decide +kernel)
theorem tw_1077 : Cond.code yX2_topOf cX2_topOf 2 (some .int) ∈ wsL_law := List.mem_of_getElem? (i := 1077) (by decide +kernel)
theorem dX2_tide_23 : decode cX2_tide 23 = .ok (.invokevirtual 114, 3) := by decide +kernel
theorem dX2_tide_26 : decode cX2_tide 26 = .ok (.istore 7, 2) := by decide +kernel
theorem dX2_tide_28 : decode cX2_tide 28 = .ok (.iload 7, 2) := by decide +kernel
theorem dX2_tide_30 : decode cX2_tide 30 = .ok (.iload_n 3, 1) := by decide +kernel
theorem dX2_tide_43 : decode cX2_tide 43 = .ok (.iload 7, 2) := by decide +kernel
theorem dX2_tide_45 : decode cX2_tide 45 = .ok (.iload_n 2, 1) := by decide +kernel
theorem dX2_tide_84 : decode cX2_tide 84 = .ok (.iinc 6 1, 3) := by decide +kernel
theorem dX2_tide_87 : decode cX2_tide 87 = .ok (.goto (-76), 3) := by decide +kernel
theorem dX2_tide_46 : decode cX2_tide 46 = .ok (.if_icmp .le 27, 3) := by decide +kernel
theorem dX2_tide_73 : decode cX2_tide 73 = .ok (.aload_n 0, 1) := by decide +kernel
theorem dX2_tide_74 : decode cX2_tide 74 = .ok (.getfield 40, 3) := by decide +kernel
theorem dX2_tide_77 : decode cX2_tide 77 = .ok (.iload 6, 2) := by decide +kernel
theorem dX2_tide_79 : decode cX2_tide 79 = .ok (.dup2, 1) := by decide +kernel
theorem dX2_tide_80 : decode cX2_tide 80 = .ok (.iaload, 1) := by decide +kernel
theorem dX2_tide_81 : decode cX2_tide 81 = .ok (.iconst 1, 1) := by decide +kernel
theorem dX2_tide_82 : decode cX2_tide 82 = .ok (.iadd, 1) := by decide +kernel
theorem dX2_tide_83 : decode cX2_tide 83 = .ok (.iastore, 1) := by decide +kernel
theorem dX2_tide_49 : decode cX2_tide 49 = .ok (.aload_n 0, 1) := by decide +kernel
theorem dX2_tide_50 : decode cX2_tide 50 = .ok (.dup, 1) := by decide +kernel
theorem dX2_tide_51 : decode cX2_tide 51 = .ok (.getfield 79, 3) := by decide +kernel
theorem dX2_tide_54 : decode cX2_tide 54 = .ok (.lconst 1, 1) := by decide +kernel
theorem dX2_tide_55 : decode cX2_tide 55 = .ok (.iload 6, 2) := by decide +kernel
theorem dX2_tide_57 : decode cX2_tide 57 = .ok (.lshl, 1) := by decide +kernel
theorem dX2_tide_58 : decode cX2_tide 58 = .ok (.lor, 1) := by decide +kernel
theorem dX2_tide_59 : decode cX2_tide 59 = .ok (.putfield 79, 3) := by decide +kernel
theorem dX2_tide_62 : decode cX2_tide 62 = .ok (.aload_n 0, 1) := by decide +kernel
theorem dX2_tide_63 : decode cX2_tide 63 = .ok (.getfield 40, 3) := by decide +kernel
theorem dX2_tide_66 : decode cX2_tide 66 = .ok (.iload 6, 2) := by decide +kernel
theorem dX2_tide_68 : decode cX2_tide 68 = .ok (.iconst 0, 1) := by decide +kernel
theorem dX2_tide_69 : decode cX2_tide 69 = .ok (.iastore, 1) := by decide +kernel
theorem dX2_tide_70 : decode cX2_tide 70 = .ok (.goto 14, 3) := by decide +kernel
theorem dX2_tide_31 : decode cX2_tide 31 = .ok (.if_icmp .le 12, 3) := by decide +kernel
theorem dX2_tide_34 : decode cX2_tide 34 = .ok (.lload 4, 2) := by decide +kernel
theorem dX2_tide_36 : decode cX2_tide 36 = .ok (.lconst 1, 1) := by decide +kernel
theorem dX2_tide_37 : decode cX2_tide 37 = .ok (.iload 6, 2) := by decide +kernel
theorem dX2_tide_39 : decode cX2_tide 39 = .ok (.lshl, 1) := by decide +kernel
theorem dX2_tide_40 : decode cX2_tide 40 = .ok (.lor, 1) := by decide +kernel
theorem dX2_tide_41 : decode cX2_tide 41 = .ok (.lstore 4, 2) := by decide +kernel
theorem dX2_giveUpBeds_0 : decode cX2_giveUpBeds 0 = .ok (.iconst 0, 1) := by decide +kernel
theorem dX2_giveUpBeds_1 : decode cX2_giveUpBeds 1 = .ok (.istore_n 1, 1) := by decide +kernel
theorem dX2_giveUpBeds_2 : decode cX2_giveUpBeds 2 = .ok (.iload_n 1, 1) := by decide +kernel
theorem dX2_giveUpBeds_3 : decode cX2_giveUpBeds 3 = .ok (.aload_n 0, 1) := by decide +kernel
theorem dX2_giveUpBeds_4 : decode cX2_giveUpBeds 4 = .ok (.getfield 73, 3) := by decide +kernel
theorem dX2_giveUpBeds_7 : decode cX2_giveUpBeds 7 = .ok (.if_icmp .ge 24, 3) := by decide +kernel
theorem dX2_giveUpBeds_31 : decode cX2_giveUpBeds 31 = .ok (.return_, 1) := by decide +kernel
theorem dX2_giveUpBeds_10 : decode cX2_giveUpBeds 10 = .ok (.aload_n 0, 1) := by decide +kernel
theorem dX2_giveUpBeds_11 : decode cX2_giveUpBeds 11 = .ok (.iload_n 1, 1) := by decide +kernel
theorem tw_1082 : Cond.methodLink RX2 118 yX2_isDry ∈ wsL_law := List.mem_of_getElem? (i := 1082) (by decide +kernel)
theorem tw_555 : Cond.instanceMethod yX2_isDry ∈ wsL_law := List.mem_of_getElem? (i := 555) (by decide +kernel)
theorem tw_556 : Cond.selects RX2 yX2_isDry yX2_isDry ∈ wsL_law := List.mem_of_getElem? (i := 556) (by decide +kernel)
theorem tw_557 : Cond.code yX2_isDry cX2_isDry 2 (some .boolean) ∈ wsL_law := List.mem_of_getElem? (i := 557) (by decide +kernel)
theorem dX2_giveUpBeds_12 : decode cX2_giveUpBeds 12 = .ok (.invokevirtual 118, 3) := by decide +kernel
theorem dX2_giveUpBeds_25 : decode cX2_giveUpBeds 25 = .ok (.iinc 1 1, 3) := by decide +kernel
theorem dX2_giveUpBeds_28 : decode cX2_giveUpBeds 28 = .ok (.goto (-26), 3) := by decide +kernel
theorem dX2_giveUpBeds_15 : decode cX2_giveUpBeds 15 = .ok (.ifCond .ne 10, 3) := by decide +kernel
theorem dX2_giveUpBeds_18 : decode cX2_giveUpBeds 18 = .ok (.aload_n 0, 1) := by decide +kernel
theorem dX2_giveUpBeds_19 : decode cX2_giveUpBeds 19 = .ok (.getfield 37, 3) := by decide +kernel
theorem dX2_giveUpBeds_22 : decode cX2_giveUpBeds 22 = .ok (.iload_n 1, 1) := by decide +kernel
theorem dX2_giveUpBeds_23 : decode cX2_giveUpBeds 23 = .ok (.iconst 0, 1) := by decide +kernel
theorem dX2_giveUpBeds_24 : decode cX2_giveUpBeds 24 = .ok (.iastore, 1) := by decide +kernel
theorem dX2_countWalls_0 : decode cX2_countWalls 0 = .ok (.iconst 0, 1) := by decide +kernel
theorem dX2_countWalls_1 : decode cX2_countWalls 1 = .ok (.istore_n 1, 1) := by decide +kernel
theorem dX2_countWalls_2 : decode cX2_countWalls 2 = .ok (.iconst 0, 1) := by decide +kernel
theorem dX2_countWalls_3 : decode cX2_countWalls 3 = .ok (.istore_n 2, 1) := by decide +kernel
theorem dX2_countWalls_4 : decode cX2_countWalls 4 = .ok (.iload_n 2, 1) := by decide +kernel
theorem dX2_countWalls_5 : decode cX2_countWalls 5 = .ok (.aload_n 0, 1) := by decide +kernel
theorem dX2_countWalls_6 : decode cX2_countWalls 6 = .ok (.getfield 73, 3) := by decide +kernel
theorem dX2_countWalls_9 : decode cX2_countWalls 9 = .ok (.if_icmp .ge 21, 3) := by decide +kernel
theorem dX2_countWalls_30 : decode cX2_countWalls 30 = .ok (.iload_n 1, 1) := by decide +kernel
theorem dX2_countWalls_31 : decode cX2_countWalls 31 = .ok (.ireturn, 1) := by decide +kernel
theorem dX2_countWalls_12 : decode cX2_countWalls 12 = .ok (.aload_n 0, 1) := by decide +kernel
theorem dX2_countWalls_13 : decode cX2_countWalls 13 = .ok (.getfield 34, 3) := by decide +kernel
theorem dX2_countWalls_16 : decode cX2_countWalls 16 = .ok (.iload_n 2, 1) := by decide +kernel
theorem dX2_countWalls_17 : decode cX2_countWalls 17 = .ok (.iaload, 1) := by decide +kernel
theorem dX2_countWalls_24 : decode cX2_countWalls 24 = .ok (.iinc 2 1, 3) := by decide +kernel
theorem dX2_countWalls_27 : decode cX2_countWalls 27 = .ok (.goto (-23), 3) := by decide +kernel
theorem dX2_countWalls_18 : decode cX2_countWalls 18 = .ok (.ifCond .le 6, 3) := by decide +kernel
theorem dX2_countWalls_21 : decode cX2_countWalls 21 = .ok (.iinc 1 1, 3) := by decide +kernel
theorem dX2_measure_0 : decode cX2_measure 0 = .ok (.iload_n 1, 1) := by decide +kernel
theorem dX2_measure_1 : decode cX2_measure 1 = .ok (.istore_n 2, 1) := by decide +kernel
theorem dX2_measure_2 : decode cX2_measure 2 = .ok (.iconst 0, 1) := by decide +kernel
theorem dX2_measure_3 : decode cX2_measure 3 = .ok (.istore_n 3, 1) := by decide +kernel
theorem dX2_measure_4 : decode cX2_measure 4 = .ok (.iload_n 3, 1) := by decide +kernel
theorem dX2_measure_5 : decode cX2_measure 5 = .ok (.iload_n 1, 1) := by decide +kernel
theorem dX2_measure_6 : decode cX2_measure 6 = .ok (.if_icmp .gt 48, 3) := by decide +kernel
theorem dX2_measure_54 : decode cX2_measure 54 = .ok (.return_, 1) := by decide +kernel
theorem dX2_measure_9 : decode cX2_measure 9 = .ok (.iload_n 3, 1) := by decide +kernel
theorem dX2_measure_10 : decode cX2_measure 10 = .ok (.aload_n 0, 1) := by decide +kernel
theorem tw_100 : Cond.fieldLink RX2 62 "RingsUnder$Land" "widths" "[I" ∈ wsL_law := List.mem_of_getElem? (i := 100) (by decide +kernel)
theorem dX2_measure_11 : decode cX2_measure 11 = .ok (.getfield 62, 3) := by decide +kernel
theorem dX2_measure_14 : decode cX2_measure 14 = .ok (.arraylength, 1) := by decide +kernel
theorem dX2_measure_15 : decode cX2_measure 15 = .ok (.if_icmp .ge 39, 3) := by decide +kernel
theorem dX2_measure_18 : decode cX2_measure 18 = .ok (.iload_n 2, 1) := by decide +kernel
theorem dX2_measure_41 : decode cX2_measure 41 = .ok (.aload_n 0, 1) := by decide +kernel
theorem dX2_measure_42 : decode cX2_measure 42 = .ok (.getfield 62, 3) := by decide +kernel
theorem dX2_measure_45 : decode cX2_measure 45 = .ok (.iload_n 3, 1) := by decide +kernel
theorem dX2_measure_46 : decode cX2_measure 46 = .ok (.iload_n 2, 1) := by decide +kernel
theorem dX2_measure_47 : decode cX2_measure 47 = .ok (.iastore, 1) := by decide +kernel
theorem dX2_measure_48 : decode cX2_measure 48 = .ok (.iinc 3 1, 3) := by decide +kernel
theorem dX2_measure_51 : decode cX2_measure 51 = .ok (.goto (-47), 3) := by decide +kernel
theorem dX2_measure_19 : decode cX2_measure 19 = .ok (.ifCond .le 22, 3) := by decide +kernel
theorem dX2_measure_22 : decode cX2_measure 22 = .ok (.iload_n 2, 1) := by decide +kernel
theorem dX2_measure_23 : decode cX2_measure 23 = .ok (.iload_n 2, 1) := by decide +kernel
theorem dX2_measure_24 : decode cX2_measure 24 = .ok (.imul, 1) := by decide +kernel
theorem dX2_measure_25 : decode cX2_measure 25 = .ok (.iload_n 3, 1) := by decide +kernel
theorem dX2_measure_26 : decode cX2_measure 26 = .ok (.iload_n 3, 1) := by decide +kernel
theorem dX2_measure_27 : decode cX2_measure 27 = .ok (.imul, 1) := by decide +kernel
theorem dX2_measure_28 : decode cX2_measure 28 = .ok (.iadd, 1) := by decide +kernel
theorem dX2_measure_29 : decode cX2_measure 29 = .ok (.iload_n 1, 1) := by decide +kernel
theorem dX2_measure_30 : decode cX2_measure 30 = .ok (.iload_n 1, 1) := by decide +kernel
theorem dX2_measure_31 : decode cX2_measure 31 = .ok (.imul, 1) := by decide +kernel
theorem dX2_measure_32 : decode cX2_measure 32 = .ok (.if_icmp .le 9, 3) := by decide +kernel
theorem dX2_measure_35 : decode cX2_measure 35 = .ok (.iinc 2 (-1), 3) := by decide +kernel
theorem dX2_measure_38 : decode cX2_measure 38 = .ok (.goto (-20), 3) := by decide +kernel
theorem dJ6_bitCount_0f7a4_0 : decode cJ6_bitCount_0f7a4 0 = .ok (.iload_n 0, 1) := by decide +kernel
theorem dJ6_bitCount_0f7a4_1 : decode cJ6_bitCount_0f7a4 1 = .ok (.iload_n 0, 1) := by decide +kernel
theorem dJ6_bitCount_0f7a4_2 : decode cJ6_bitCount_0f7a4 2 = .ok (.iconst 1, 1) := by decide +kernel
theorem dJ6_bitCount_0f7a4_3 : decode cJ6_bitCount_0f7a4 3 = .ok (.iushr, 1) := by decide +kernel
theorem tw_1150 : Cond.constant RJ6 265 (1431655765) ∈ wsL_law := List.mem_of_getElem? (i := 1150) (by decide +kernel)
theorem dJ6_bitCount_0f7a4_4 : decode cJ6_bitCount_0f7a4 4 = .ok (.ldc_w 265, 3) := by decide +kernel
theorem dJ6_bitCount_0f7a4_7 : decode cJ6_bitCount_0f7a4 7 = .ok (.iand, 1) := by decide +kernel
theorem dJ6_bitCount_0f7a4_8 : decode cJ6_bitCount_0f7a4 8 = .ok (.isub, 1) := by decide +kernel
theorem dJ6_bitCount_0f7a4_9 : decode cJ6_bitCount_0f7a4 9 = .ok (.istore_n 0, 1) := by decide +kernel
theorem dJ6_bitCount_0f7a4_10 : decode cJ6_bitCount_0f7a4 10 = .ok (.iload_n 0, 1) := by decide +kernel
theorem tw_1151 : Cond.constant RJ6 266 (858993459) ∈ wsL_law := List.mem_of_getElem? (i := 1151) (by decide +kernel)
theorem dJ6_bitCount_0f7a4_11 : decode cJ6_bitCount_0f7a4 11 = .ok (.ldc_w 266, 3) := by decide +kernel
theorem dJ6_bitCount_0f7a4_14 : decode cJ6_bitCount_0f7a4 14 = .ok (.iand, 1) := by decide +kernel
theorem dJ6_bitCount_0f7a4_15 : decode cJ6_bitCount_0f7a4 15 = .ok (.iload_n 0, 1) := by decide +kernel
theorem dJ6_bitCount_0f7a4_16 : decode cJ6_bitCount_0f7a4 16 = .ok (.iconst 2, 1) := by decide +kernel
theorem dJ6_bitCount_0f7a4_17 : decode cJ6_bitCount_0f7a4 17 = .ok (.iushr, 1) := by decide +kernel
theorem dJ6_bitCount_0f7a4_18 : decode cJ6_bitCount_0f7a4 18 = .ok (.ldc_w 266, 3) := by decide +kernel
theorem dJ6_bitCount_0f7a4_21 : decode cJ6_bitCount_0f7a4 21 = .ok (.iand, 1) := by decide +kernel
theorem dJ6_bitCount_0f7a4_22 : decode cJ6_bitCount_0f7a4 22 = .ok (.iadd, 1) := by decide +kernel
theorem dJ6_bitCount_0f7a4_23 : decode cJ6_bitCount_0f7a4 23 = .ok (.istore_n 0, 1) := by decide +kernel
theorem dJ6_bitCount_0f7a4_24 : decode cJ6_bitCount_0f7a4 24 = .ok (.iload_n 0, 1) := by decide +kernel
theorem dJ6_bitCount_0f7a4_25 : decode cJ6_bitCount_0f7a4 25 = .ok (.iload_n 0, 1) := by decide +kernel
theorem dJ6_bitCount_0f7a4_26 : decode cJ6_bitCount_0f7a4 26 = .ok (.iconst 4, 1) := by decide +kernel
theorem dJ6_bitCount_0f7a4_27 : decode cJ6_bitCount_0f7a4 27 = .ok (.iushr, 1) := by decide +kernel
theorem dJ6_bitCount_0f7a4_28 : decode cJ6_bitCount_0f7a4 28 = .ok (.iadd, 1) := by decide +kernel
theorem tw_1152 : Cond.constant RJ6 267 (252645135) ∈ wsL_law := List.mem_of_getElem? (i := 1152) (by decide +kernel)
theorem dJ6_bitCount_0f7a4_29 : decode cJ6_bitCount_0f7a4 29 = .ok (.ldc_w 267, 3) := by decide +kernel
theorem dJ6_bitCount_0f7a4_32 : decode cJ6_bitCount_0f7a4 32 = .ok (.iand, 1) := by decide +kernel
theorem dJ6_bitCount_0f7a4_33 : decode cJ6_bitCount_0f7a4 33 = .ok (.istore_n 0, 1) := by decide +kernel
theorem dJ6_bitCount_0f7a4_34 : decode cJ6_bitCount_0f7a4 34 = .ok (.iload_n 0, 1) := by decide +kernel
theorem dJ6_bitCount_0f7a4_35 : decode cJ6_bitCount_0f7a4 35 = .ok (.iload_n 0, 1) := by decide +kernel
theorem dJ6_bitCount_0f7a4_36 : decode cJ6_bitCount_0f7a4 36 = .ok (.bipush 8, 2) := by decide +kernel
theorem dJ6_bitCount_0f7a4_38 : decode cJ6_bitCount_0f7a4 38 = .ok (.iushr, 1) := by decide +kernel
theorem dJ6_bitCount_0f7a4_39 : decode cJ6_bitCount_0f7a4 39 = .ok (.iadd, 1) := by decide +kernel
theorem dJ6_bitCount_0f7a4_40 : decode cJ6_bitCount_0f7a4 40 = .ok (.istore_n 0, 1) := by decide +kernel
theorem dJ6_bitCount_0f7a4_41 : decode cJ6_bitCount_0f7a4 41 = .ok (.iload_n 0, 1) := by decide +kernel
theorem dJ6_bitCount_0f7a4_42 : decode cJ6_bitCount_0f7a4 42 = .ok (.iload_n 0, 1) := by decide +kernel
theorem dJ6_bitCount_0f7a4_43 : decode cJ6_bitCount_0f7a4 43 = .ok (.bipush 16, 2) := by decide +kernel
theorem dJ6_bitCount_0f7a4_45 : decode cJ6_bitCount_0f7a4 45 = .ok (.iushr, 1) := by decide +kernel
theorem dJ6_bitCount_0f7a4_46 : decode cJ6_bitCount_0f7a4 46 = .ok (.iadd, 1) := by decide +kernel
theorem dJ6_bitCount_0f7a4_47 : decode cJ6_bitCount_0f7a4 47 = .ok (.istore_n 0, 1) := by decide +kernel
theorem dJ6_bitCount_0f7a4_48 : decode cJ6_bitCount_0f7a4 48 = .ok (.iload_n 0, 1) := by decide +kernel
theorem dJ6_bitCount_0f7a4_49 : decode cJ6_bitCount_0f7a4 49 = .ok (.bipush 63, 2) := by decide +kernel
theorem dJ6_bitCount_0f7a4_51 : decode cJ6_bitCount_0f7a4 51 = .ok (.iand, 1) := by decide +kernel
theorem dJ6_bitCount_0f7a4_52 : decode cJ6_bitCount_0f7a4 52 = .ok (.ireturn, 1) := by decide +kernel
theorem dX2_mark_0 : decode cX2_mark 0 = .ok (.iconst 0, 1) := by decide +kernel
theorem dX2_mark_1 : decode cX2_mark 1 = .ok (.iload_n 2, 1) := by decide +kernel
theorem dX2_mark_2 : decode cX2_mark 2 = .ok (.iload_n 3, 1) := by decide +kernel
theorem dX2_mark_3 : decode cX2_mark 3 = .ok (.isub, 1) := by decide +kernel
theorem dX2_mark_4 : decode cX2_mark 4 = .ok (.invokestatic 111, 3) := by decide +kernel
theorem dX2_mark_7 : decode cX2_mark 7 = .ok (.istore 4, 2) := by decide +kernel
theorem dX2_mark_9 : decode cX2_mark 9 = .ok (.bipush 31, 2) := by decide +kernel
theorem dX2_mark_11 : decode cX2_mark 11 = .ok (.iload_n 2, 1) := by decide +kernel
theorem dX2_mark_12 : decode cX2_mark 12 = .ok (.iload_n 3, 1) := by decide +kernel
theorem dX2_mark_13 : decode cX2_mark 13 = .ok (.iadd, 1) := by decide +kernel
theorem dX2_mark_14 : decode cX2_mark 14 = .ok (.invokestatic 105, 3) := by decide +kernel
theorem dX2_mark_17 : decode cX2_mark 17 = .ok (.istore 5, 2) := by decide +kernel
theorem dX2_mark_19 : decode cX2_mark 19 = .ok (.iload 4, 2) := by decide +kernel
theorem dX2_mark_21 : decode cX2_mark 21 = .ok (.istore 6, 2) := by decide +kernel
theorem dX2_mark_23 : decode cX2_mark 23 = .ok (.iload 6, 2) := by decide +kernel
theorem dX2_mark_25 : decode cX2_mark 25 = .ok (.iload 5, 2) := by decide +kernel
theorem dX2_mark_27 : decode cX2_mark 27 = .ok (.if_icmp .gt 81, 3) := by decide +kernel
theorem dX2_mark_108 : decode cX2_mark 108 = .ok (.return_, 1) := by decide +kernel
theorem dX2_mark_30 : decode cX2_mark 30 = .ok (.iload 6, 2) := by decide +kernel
theorem dX2_mark_32 : decode cX2_mark 32 = .ok (.iload_n 2, 1) := by decide +kernel
theorem dX2_mark_33 : decode cX2_mark 33 = .ok (.isub, 1) := by decide +kernel
theorem tw_1146 : Cond.methodLink RX2 138 Lib.Math.abs.name ∈ wsL_law := List.mem_of_getElem? (i := 1146) (by decide +kernel)
theorem tw_484 : Cond.static Lib.Math.abs.name ∈ wsL_law := List.mem_of_getElem? (i := 484) (by decide +kernel)
theorem tw_485 : Cond.code Lib.Math.abs.name Lib.Math.abs.code 1 (some .int) ∈ wsL_law := List.mem_of_getElem? (i := 485) (by decide +kernel)
theorem dX2_mark_34 : decode cX2_mark 34 = .ok (.invokestatic 138, 3) := by decide +kernel
theorem dX2_mark_37 : decode cX2_mark 37 = .ok (.istore 7, 2) := by decide +kernel
theorem dX2_mark_39 : decode cX2_mark 39 = .ok (.iload 7, 2) := by decide +kernel
theorem dX2_mark_41 : decode cX2_mark 41 = .ok (.aload_n 0, 1) := by decide +kernel
theorem dX2_mark_42 : decode cX2_mark 42 = .ok (.getfield 62, 3) := by decide +kernel
theorem dX2_mark_45 : decode cX2_mark 45 = .ok (.arraylength, 1) := by decide +kernel
theorem dX2_mark_102 : decode cX2_mark 102 = .ok (.iinc 6 1, 3) := by decide +kernel
theorem dX2_mark_105 : decode cX2_mark 105 = .ok (.goto (-82), 3) := by decide +kernel
theorem dX2_mark_46 : decode cX2_mark 46 = .ok (.if_icmp .ge 56, 3) := by decide +kernel
theorem dX2_mark_49 : decode cX2_mark 49 = .ok (.iconst 0, 1) := by decide +kernel
theorem dX2_mark_50 : decode cX2_mark 50 = .ok (.iload_n 1, 1) := by decide +kernel
theorem dX2_mark_51 : decode cX2_mark 51 = .ok (.aload_n 0, 1) := by decide +kernel
theorem dX2_mark_52 : decode cX2_mark 52 = .ok (.getfield 62, 3) := by decide +kernel
theorem dX2_mark_55 : decode cX2_mark 55 = .ok (.iload 7, 2) := by decide +kernel
theorem dX2_mark_57 : decode cX2_mark 57 = .ok (.iaload, 1) := by decide +kernel
theorem dX2_mark_58 : decode cX2_mark 58 = .ok (.isub, 1) := by decide +kernel
theorem dX2_mark_59 : decode cX2_mark 59 = .ok (.invokestatic 111, 3) := by decide +kernel
theorem dX2_mark_62 : decode cX2_mark 62 = .ok (.istore 8, 2) := by decide +kernel
theorem dX2_mark_64 : decode cX2_mark 64 = .ok (.bipush 31, 2) := by decide +kernel
theorem dX2_mark_66 : decode cX2_mark 66 = .ok (.iload_n 1, 1) := by decide +kernel
theorem dX2_mark_67 : decode cX2_mark 67 = .ok (.aload_n 0, 1) := by decide +kernel
theorem dX2_mark_68 : decode cX2_mark 68 = .ok (.getfield 62, 3) := by decide +kernel
theorem dX2_mark_71 : decode cX2_mark 71 = .ok (.iload 7, 2) := by decide +kernel
theorem dX2_mark_73 : decode cX2_mark 73 = .ok (.iaload, 1) := by decide +kernel
theorem dX2_mark_74 : decode cX2_mark 74 = .ok (.iadd, 1) := by decide +kernel
theorem dX2_mark_75 : decode cX2_mark 75 = .ok (.invokestatic 105, 3) := by decide +kernel
theorem dX2_mark_78 : decode cX2_mark 78 = .ok (.istore 9, 2) := by decide +kernel
theorem dX2_mark_80 : decode cX2_mark 80 = .ok (.aload_n 0, 1) := by decide +kernel
theorem tw_99 : Cond.fieldLink RX2 59 "RingsUnder$Land" "rows" "[I" ∈ wsL_law := List.mem_of_getElem? (i := 99) (by decide +kernel)
theorem dX2_mark_81 : decode cX2_mark 81 = .ok (.getfield 59, 3) := by decide +kernel
theorem dX2_mark_84 : decode cX2_mark 84 = .ok (.iload 6, 2) := by decide +kernel
theorem dX2_mark_86 : decode cX2_mark 86 = .ok (.dup2, 1) := by decide +kernel
theorem dX2_mark_87 : decode cX2_mark 87 = .ok (.iaload, 1) := by decide +kernel
theorem dX2_mark_88 : decode cX2_mark 88 = .ok (.iconst (-1), 1) := by decide +kernel
theorem dX2_mark_89 : decode cX2_mark 89 = .ok (.iload 8, 2) := by decide +kernel
theorem dX2_mark_91 : decode cX2_mark 91 = .ok (.ishl, 1) := by decide +kernel
theorem dX2_mark_92 : decode cX2_mark 92 = .ok (.iconst (-1), 1) := by decide +kernel
theorem dX2_mark_93 : decode cX2_mark 93 = .ok (.bipush 31, 2) := by decide +kernel
theorem dX2_mark_95 : decode cX2_mark 95 = .ok (.iload 9, 2) := by decide +kernel
theorem dX2_mark_97 : decode cX2_mark 97 = .ok (.isub, 1) := by decide +kernel
theorem dX2_mark_98 : decode cX2_mark 98 = .ok (.iushr, 1) := by decide +kernel
theorem dX2_mark_99 : decode cX2_mark 99 = .ok (.iand, 1) := by decide +kernel
theorem dX2_mark_100 : decode cX2_mark 100 = .ok (.ior, 1) := by decide +kernel
theorem dX2_mark_101 : decode cX2_mark 101 = .ok (.iastore, 1) := by decide +kernel
theorem dX2_countArea_0 : decode cX2_countArea 0 = .ok (.aload_n 0, 1) := by decide +kernel
theorem dX2_countArea_1 : decode cX2_countArea 1 = .ok (.getfield 59, 3) := by decide +kernel
theorem dX2_countArea_4 : decode cX2_countArea 4 = .ok (.iconst 0, 1) := by decide +kernel
theorem dX2_countArea_5 : decode cX2_countArea 5 = .ok (.invokestatic 65, 3) := by decide +kernel
theorem dX2_countArea_8 : decode cX2_countArea 8 = .ok (.aload_n 0, 1) := by decide +kernel
theorem dX2_countArea_9 : decode cX2_countArea 9 = .ok (.iload_n 3, 1) := by decide +kernel
theorem tw_1138 : Cond.methodLink RX2 125 yX2_measure ∈ wsL_law := List.mem_of_getElem? (i := 1138) (by decide +kernel)
theorem tw_1139 : Cond.instanceMethod yX2_measure ∈ wsL_law := List.mem_of_getElem? (i := 1139) (by decide +kernel)
theorem tw_1140 : Cond.selects RX2 yX2_measure yX2_measure ∈ wsL_law := List.mem_of_getElem? (i := 1140) (by decide +kernel)
theorem tw_1141 : Cond.code yX2_measure cX2_measure 4 none ∈ wsL_law := List.mem_of_getElem? (i := 1141) (by decide +kernel)
theorem dX2_countArea_10 : decode cX2_countArea 10 = .ok (.invokevirtual 125, 3) := by decide +kernel
theorem dX2_countArea_13 : decode cX2_countArea 13 = .ok (.iconst 0, 1) := by decide +kernel
theorem dX2_countArea_14 : decode cX2_countArea 14 = .ok (.istore 4, 2) := by decide +kernel
theorem dX2_countArea_16 : decode cX2_countArea 16 = .ok (.iload 4, 2) := by decide +kernel
theorem dX2_countArea_18 : decode cX2_countArea 18 = .ok (.aload_n 0, 1) := by decide +kernel
theorem dX2_countArea_19 : decode cX2_countArea 19 = .ok (.getfield 73, 3) := by decide +kernel
theorem dX2_countArea_22 : decode cX2_countArea 22 = .ok (.if_icmp .ge 37, 3) := by decide +kernel
theorem dX2_countArea_59 : decode cX2_countArea 59 = .ok (.iconst 0, 1) := by decide +kernel
theorem dX2_countArea_60 : decode cX2_countArea 60 = .ok (.istore 4, 2) := by decide +kernel
theorem dX2_countArea_62 : decode cX2_countArea 62 = .ok (.iconst 0, 1) := by decide +kernel
theorem dX2_countArea_63 : decode cX2_countArea 63 = .ok (.istore 5, 2) := by decide +kernel
theorem dX2_countArea_65 : decode cX2_countArea 65 = .ok (.iload 5, 2) := by decide +kernel
theorem dX2_countArea_67 : decode cX2_countArea 67 = .ok (.bipush 32, 2) := by decide +kernel
theorem dX2_countArea_69 : decode cX2_countArea 69 = .ok (.if_icmp .ge 24, 3) := by decide +kernel
theorem dX2_countArea_93 : decode cX2_countArea 93 = .ok (.iload 4, 2) := by decide +kernel
theorem dX2_countArea_95 : decode cX2_countArea 95 = .ok (.ireturn, 1) := by decide +kernel
theorem dX2_countArea_72 : decode cX2_countArea 72 = .ok (.iload 4, 2) := by decide +kernel
theorem dX2_countArea_74 : decode cX2_countArea 74 = .ok (.aload_n 0, 1) := by decide +kernel
theorem dX2_countArea_75 : decode cX2_countArea 75 = .ok (.getfield 59, 3) := by decide +kernel
theorem dX2_countArea_78 : decode cX2_countArea 78 = .ok (.iload 5, 2) := by decide +kernel
theorem dX2_countArea_80 : decode cX2_countArea 80 = .ok (.iaload, 1) := by decide +kernel
theorem tw_1147 : Cond.methodLink RX2 133 yJ6_bitCount_0f7a4 ∈ wsL_law := List.mem_of_getElem? (i := 1147) (by decide +kernel)
theorem tw_1148 : Cond.static yJ6_bitCount_0f7a4 ∈ wsL_law := List.mem_of_getElem? (i := 1148) (by decide +kernel)
theorem tw_492 : Cond.initialized RJ6 ∈ wsL_law := List.mem_of_getElem? (i := 492) (by decide +kernel)
theorem tw_1149 : Cond.code yJ6_bitCount_0f7a4 cJ6_bitCount_0f7a4 1 (some .int) ∈ wsL_law := List.mem_of_getElem? (i := 1149) (by decide +kernel)
theorem dX2_countArea_81 : decode cX2_countArea 81 = .ok (.invokestatic 133, 3) := by decide +kernel
theorem dX2_countArea_84 : decode cX2_countArea 84 = .ok (.iadd, 1) := by decide +kernel
theorem dX2_countArea_85 : decode cX2_countArea 85 = .ok (.istore 4, 2) := by decide +kernel
theorem dX2_countArea_87 : decode cX2_countArea 87 = .ok (.iinc 5 1, 3) := by decide +kernel
theorem dX2_countArea_90 : decode cX2_countArea 90 = .ok (.goto (-25), 3) := by decide +kernel
theorem dX2_countArea_25 : decode cX2_countArea 25 = .ok (.lload_n 1, 1) := by decide +kernel
theorem dX2_countArea_26 : decode cX2_countArea 26 = .ok (.iload 4, 2) := by decide +kernel
theorem dX2_countArea_28 : decode cX2_countArea 28 = .ok (.invokestatic 101, 3) := by decide +kernel
theorem dX2_countArea_53 : decode cX2_countArea 53 = .ok (.iinc 4 1, 3) := by decide +kernel
theorem dX2_countArea_56 : decode cX2_countArea 56 = .ok (.goto (-40), 3) := by decide +kernel
theorem dX2_countArea_31 : decode cX2_countArea 31 = .ok (.ifCond .eq 22, 3) := by decide +kernel
theorem dX2_countArea_34 : decode cX2_countArea 34 = .ok (.aload_n 0, 1) := by decide +kernel
theorem dX2_countArea_35 : decode cX2_countArea 35 = .ok (.aload_n 0, 1) := by decide +kernel
theorem dX2_countArea_36 : decode cX2_countArea 36 = .ok (.getfield 22, 3) := by decide +kernel
theorem dX2_countArea_39 : decode cX2_countArea 39 = .ok (.iload 4, 2) := by decide +kernel
theorem dX2_countArea_41 : decode cX2_countArea 41 = .ok (.iaload, 1) := by decide +kernel
theorem dX2_countArea_42 : decode cX2_countArea 42 = .ok (.aload_n 0, 1) := by decide +kernel
theorem dX2_countArea_43 : decode cX2_countArea 43 = .ok (.getfield 25, 3) := by decide +kernel
theorem dX2_countArea_46 : decode cX2_countArea 46 = .ok (.iload 4, 2) := by decide +kernel
theorem dX2_countArea_48 : decode cX2_countArea 48 = .ok (.iaload, 1) := by decide +kernel
theorem dX2_countArea_49 : decode cX2_countArea 49 = .ok (.iload_n 3, 1) := by decide +kernel
theorem tw_1142 : Cond.methodLink RX2 129 yX2_mark ∈ wsL_law := List.mem_of_getElem? (i := 1142) (by decide +kernel)
theorem tw_1143 : Cond.instanceMethod yX2_mark ∈ wsL_law := List.mem_of_getElem? (i := 1143) (by decide +kernel)
theorem tw_1144 : Cond.selects RX2 yX2_mark yX2_mark ∈ wsL_law := List.mem_of_getElem? (i := 1144) (by decide +kernel)
theorem tw_1145 : Cond.code yX2_mark cX2_mark 10 none ∈ wsL_law := List.mem_of_getElem? (i := 1145) (by decide +kernel)
theorem dX2_countArea_50 : decode cX2_countArea 50 = .ok (.invokevirtual 129, 3) := by decide +kernel
theorem dX3_copyFrom_0 : decode cX3_copyFrom 0 = .ok (.aload_n 0, 1) := by decide +kernel
theorem dX3_copyFrom_1 : decode cX3_copyFrom 1 = .ok (.aload_n 1, 1) := by decide +kernel
theorem tw_1388 : Cond.fieldLink RX3 33 "RingsUnder$Law" "textCount" "I" ∈ wsL_law := List.mem_of_getElem? (i := 1388) (by decide +kernel)
theorem dX3_copyFrom_2 : decode cX3_copyFrom 2 = .ok (.getfield 33, 3) := by decide +kernel
theorem dX3_copyFrom_5 : decode cX3_copyFrom 5 = .ok (.putfield 33, 3) := by decide +kernel
theorem dX3_copyFrom_8 : decode cX3_copyFrom 8 = .ok (.iconst 0, 1) := by decide +kernel
theorem dX3_copyFrom_9 : decode cX3_copyFrom 9 = .ok (.istore_n 2, 1) := by decide +kernel
theorem dX3_copyFrom_10 : decode cX3_copyFrom 10 = .ok (.iload_n 2, 1) := by decide +kernel
theorem dX3_copyFrom_11 : decode cX3_copyFrom 11 = .ok (.bipush 10, 2) := by decide +kernel
theorem dX3_copyFrom_13 : decode cX3_copyFrom 13 = .ok (.if_icmp .ge 21, 3) := by decide +kernel
theorem dX3_copyFrom_34 : decode cX3_copyFrom 34 = .ok (.aload_n 0, 1) := by decide +kernel
theorem dX3_copyFrom_35 : decode cX3_copyFrom 35 = .ok (.aload_n 1, 1) := by decide +kernel
theorem tw_473 : Cond.fieldLink RX3 37 "RingsUnder$Law" "forces" "I" ∈ wsL_law := List.mem_of_getElem? (i := 473) (by decide +kernel)
theorem dX3_copyFrom_36 : decode cX3_copyFrom 36 = .ok (.getfield 37, 3) := by decide +kernel
theorem dX3_copyFrom_39 : decode cX3_copyFrom 39 = .ok (.putfield 37, 3) := by decide +kernel
theorem dX3_copyFrom_42 : decode cX3_copyFrom 42 = .ok (.aload_n 1, 1) := by decide +kernel
theorem tw_129 : Cond.fieldLink RX3 17 "RingsUnder$Law" "forceText" "[I" ∈ wsL_law := List.mem_of_getElem? (i := 129) (by decide +kernel)
theorem dX3_copyFrom_43 : decode cX3_copyFrom 43 = .ok (.getfield 17, 3) := by decide +kernel
theorem dX3_copyFrom_46 : decode cX3_copyFrom 46 = .ok (.aload_n 0, 1) := by decide +kernel
theorem dX3_copyFrom_47 : decode cX3_copyFrom 47 = .ok (.getfield 17, 3) := by decide +kernel
theorem dX3_copyFrom_50 : decode cX3_copyFrom 50 = .ok (.invokestatic 40, 3) := by decide +kernel
theorem dX3_copyFrom_53 : decode cX3_copyFrom 53 = .ok (.aload_n 1, 1) := by decide +kernel
theorem tw_130 : Cond.fieldLink RX3 21 "RingsUnder$Law" "forceFrom" "[I" ∈ wsL_law := List.mem_of_getElem? (i := 130) (by decide +kernel)
theorem dX3_copyFrom_54 : decode cX3_copyFrom 54 = .ok (.getfield 21, 3) := by decide +kernel
theorem dX3_copyFrom_57 : decode cX3_copyFrom 57 = .ok (.aload_n 0, 1) := by decide +kernel
theorem dX3_copyFrom_58 : decode cX3_copyFrom 58 = .ok (.getfield 21, 3) := by decide +kernel
theorem dX3_copyFrom_61 : decode cX3_copyFrom 61 = .ok (.invokestatic 40, 3) := by decide +kernel
theorem dX3_copyFrom_64 : decode cX3_copyFrom 64 = .ok (.aload_n 1, 1) := by decide +kernel
theorem tw_131 : Cond.fieldLink RX3 24 "RingsUnder$Law" "forceTo" "[I" ∈ wsL_law := List.mem_of_getElem? (i := 131) (by decide +kernel)
theorem dX3_copyFrom_65 : decode cX3_copyFrom 65 = .ok (.getfield 24, 3) := by decide +kernel
theorem dX3_copyFrom_68 : decode cX3_copyFrom 68 = .ok (.aload_n 0, 1) := by decide +kernel
theorem dX3_copyFrom_69 : decode cX3_copyFrom 69 = .ok (.getfield 24, 3) := by decide +kernel
theorem dX3_copyFrom_72 : decode cX3_copyFrom 72 = .ok (.invokestatic 40, 3) := by decide +kernel
theorem dX3_copyFrom_75 : decode cX3_copyFrom 75 = .ok (.return_, 1) := by decide +kernel
theorem dX3_copyFrom_16 : decode cX3_copyFrom 16 = .ok (.aload_n 0, 1) := by decide +kernel
theorem tw_128 : Cond.fieldLink RX3 11 "RingsUnder$Law" "texts" "[LRingsUnder$Text;" ∈ wsL_law := List.mem_of_getElem? (i := 128) (by decide +kernel)
theorem dX3_copyFrom_17 : decode cX3_copyFrom 17 = .ok (.getfield 11, 3) := by decide +kernel
theorem dX3_copyFrom_20 : decode cX3_copyFrom 20 = .ok (.iload_n 2, 1) := by decide +kernel
theorem dX3_copyFrom_21 : decode cX3_copyFrom 21 = .ok (.aload_n 1, 1) := by decide +kernel
theorem dX3_copyFrom_22 : decode cX3_copyFrom 22 = .ok (.getfield 11, 3) := by decide +kernel
theorem dX3_copyFrom_25 : decode cX3_copyFrom 25 = .ok (.iload_n 2, 1) := by decide +kernel
theorem dX3_copyFrom_26 : decode cX3_copyFrom 26 = .ok (.aaload, 1) := by decide +kernel
theorem dX3_copyFrom_27 : decode cX3_copyFrom 27 = .ok (.aastore, 1) := by decide +kernel
theorem dX3_copyFrom_28 : decode cX3_copyFrom 28 = .ok (.iinc 2 1, 3) := by decide +kernel
theorem dX3_copyFrom_31 : decode cX3_copyFrom 31 = .ok (.goto (-21), 3) := by decide +kernel
theorem dX3_addForce_0 : decode cX3_addForce 0 = .ok (.aload_n 0, 1) := by decide +kernel
theorem dX3_addForce_1 : decode cX3_addForce 1 = .ok (.getfield 37, 3) := by decide +kernel
theorem dX3_addForce_4 : decode cX3_addForce 4 = .ok (.bipush 30, 2) := by decide +kernel
theorem dX3_addForce_6 : decode cX3_addForce 6 = .ok (.if_icmp .lt 5, 3) := by decide +kernel
theorem dX3_addForce_11 : decode cX3_addForce 11 = .ok (.aload_n 0, 1) := by decide +kernel
theorem dX3_addForce_12 : decode cX3_addForce 12 = .ok (.getfield 17, 3) := by decide +kernel
theorem dX3_addForce_15 : decode cX3_addForce 15 = .ok (.aload_n 0, 1) := by decide +kernel
theorem dX3_addForce_16 : decode cX3_addForce 16 = .ok (.getfield 37, 3) := by decide +kernel
theorem dX3_addForce_19 : decode cX3_addForce 19 = .ok (.iload_n 1, 1) := by decide +kernel
theorem dX3_addForce_20 : decode cX3_addForce 20 = .ok (.iastore, 1) := by decide +kernel
theorem dX3_addForce_21 : decode cX3_addForce 21 = .ok (.aload_n 0, 1) := by decide +kernel
theorem dX3_addForce_22 : decode cX3_addForce 22 = .ok (.getfield 21, 3) := by decide +kernel
theorem dX3_addForce_25 : decode cX3_addForce 25 = .ok (.aload_n 0, 1) := by decide +kernel
theorem dX3_addForce_26 : decode cX3_addForce 26 = .ok (.getfield 37, 3) := by decide +kernel
theorem dX3_addForce_29 : decode cX3_addForce 29 = .ok (.iload_n 2, 1) := by decide +kernel
theorem dX3_addForce_30 : decode cX3_addForce 30 = .ok (.iastore, 1) := by decide +kernel
theorem dX3_addForce_31 : decode cX3_addForce 31 = .ok (.aload_n 0, 1) := by decide +kernel
theorem dX3_addForce_32 : decode cX3_addForce 32 = .ok (.getfield 24, 3) := by decide +kernel
theorem dX3_addForce_35 : decode cX3_addForce 35 = .ok (.aload_n 0, 1) := by decide +kernel
theorem dX3_addForce_36 : decode cX3_addForce 36 = .ok (.getfield 37, 3) := by decide +kernel
theorem dX3_addForce_39 : decode cX3_addForce 39 = .ok (.iload_n 3, 1) := by decide +kernel
theorem dX3_addForce_40 : decode cX3_addForce 40 = .ok (.iastore, 1) := by decide +kernel
theorem dX3_addForce_41 : decode cX3_addForce 41 = .ok (.aload_n 0, 1) := by decide +kernel
theorem dX3_addForce_42 : decode cX3_addForce 42 = .ok (.dup, 1) := by decide +kernel
theorem dX3_addForce_43 : decode cX3_addForce 43 = .ok (.getfield 37, 3) := by decide +kernel
theorem dX3_addForce_46 : decode cX3_addForce 46 = .ok (.iconst 1, 1) := by decide +kernel
theorem dX3_addForce_47 : decode cX3_addForce 47 = .ok (.iadd, 1) := by decide +kernel
theorem dX3_addForce_48 : decode cX3_addForce 48 = .ok (.putfield 37, 3) := by decide +kernel
theorem dX3_addForce_51 : decode cX3_addForce 51 = .ok (.aload_n 0, 1) := by decide +kernel
theorem dX3_addForce_52 : decode cX3_addForce 52 = .ok (.getfield 37, 3) := by decide +kernel
theorem dX3_addForce_55 : decode cX3_addForce 55 = .ok (.iconst 1, 1) := by decide +kernel
theorem dX3_addForce_56 : decode cX3_addForce 56 = .ok (.isub, 1) := by decide +kernel
theorem dX3_addForce_57 : decode cX3_addForce 57 = .ok (.ireturn, 1) := by decide +kernel
theorem dX3_addForce_9 : decode cX3_addForce 9 = .ok (.iconst (-1), 1) := by decide +kernel
theorem dX3_addForce_10 : decode cX3_addForce 10 = .ok (.ireturn, 1) := by decide +kernel
theorem dX8_firstOf_0 : decode cX8_firstOf 0 = .ok (.iconst 0, 1) := by decide +kernel
theorem dX8_firstOf_1 : decode cX8_firstOf 1 = .ok (.istore_n 2, 1) := by decide +kernel
theorem dX8_firstOf_2 : decode cX8_firstOf 2 = .ok (.iload_n 2, 1) := by decide +kernel
theorem dX8_firstOf_3 : decode cX8_firstOf 3 = .ok (.aload_n 0, 1) := by decide +kernel
theorem tw_478 : Cond.fieldLink RX8 21 "RingsUnder$Text" "clauses" "I" ∈ wsL_law := List.mem_of_getElem? (i := 478) (by decide +kernel)
theorem dX8_firstOf_4 : decode cX8_firstOf 4 = .ok (.getfield 21, 3) := by decide +kernel
theorem dX8_firstOf_7 : decode cX8_firstOf 7 = .ok (.if_icmp .ge 21, 3) := by decide +kernel
theorem dX8_firstOf_28 : decode cX8_firstOf 28 = .ok (.iconst (-1), 1) := by decide +kernel
theorem dX8_firstOf_29 : decode cX8_firstOf 29 = .ok (.ireturn, 1) := by decide +kernel
theorem dX8_firstOf_10 : decode cX8_firstOf 10 = .ok (.aload_n 0, 1) := by decide +kernel
theorem tw_169 : Cond.fieldLink RX8 9 "RingsUnder$Text" "sorts" "[I" ∈ wsL_law := List.mem_of_getElem? (i := 169) (by decide +kernel)
theorem dX8_firstOf_11 : decode cX8_firstOf 11 = .ok (.getfield 9, 3) := by decide +kernel
theorem dX8_firstOf_14 : decode cX8_firstOf 14 = .ok (.iload_n 2, 1) := by decide +kernel
theorem dX8_firstOf_15 : decode cX8_firstOf 15 = .ok (.iaload, 1) := by decide +kernel
theorem dX8_firstOf_16 : decode cX8_firstOf 16 = .ok (.iload_n 1, 1) := by decide +kernel
theorem dX8_firstOf_17 : decode cX8_firstOf 17 = .ok (.if_icmp .ne 5, 3) := by decide +kernel
theorem dX8_firstOf_22 : decode cX8_firstOf 22 = .ok (.iinc 2 1, 3) := by decide +kernel
theorem dX8_firstOf_25 : decode cX8_firstOf 25 = .ok (.goto (-23), 3) := by decide +kernel
theorem dX8_firstOf_20 : decode cX8_firstOf 20 = .ok (.iload_n 2, 1) := by decide +kernel
theorem dX8_firstOf_21 : decode cX8_firstOf 21 = .ok (.ireturn, 1) := by decide +kernel
set_option maxHeartbeats 4000000 in
set_option maxRecDepth 100000 in
theorem s_X2_tide (l : Launch) (D : va_G) (t : pq_T) (σ : pq_S) (I : Nat → Nat → Int32) (J : Nat → Nat → Int64) (ri : Nat → Nat → Int32) (rj : Nat → Nat → Int64) (rq : Nat → Nat → Option Nat) (sz : Nat) (tg : Nat → Nat) (hSH : SH σ tg) (hG0 : GS tg σ I ri rq) (this : Nat) (a0 : Int32) (a1 : Int32) (a2 : Int32) (hL_this : this ∈ σ.1) (hK_this : σ.2.1 this = 2) : MetV l yX2_tide (wa yX2_tide cX2_tide 8 none) ({ frames := 1, cells := 0, slots := 0, locals := 21 }) [.ref this, .int a0, .int a1, .int a2] D t σ (I, J, ri, rj, rq) sz 0 0 (fun (u : pq_S × pq_M) => ∃ J' : Nat → Nat → Int64, ∃ ri' : Nat → Nat → Int32, ∃ rj' : Nat → Nat → Int64, u = (σ, I, J', ri', rj', rq) ∧ GX [] tg σ I I ri' rq) := by
  refine Met.ofW (cc := cX2_tide) (maxL := 8) (ret := none) (by decide) rfl ?_
  intro p e s m args below meth c s₁ B hml hv
  obtain ⟨rfl, hsz, hP, hK, hD0, hN⟩ := hv
  have hx := B.exec
  have hb := B.bytes
  have hr := B.returns
  have hts := atoms_spec (ws := (wa yX2_tide cX2_tide 8 none)) B.pre
  have hown : s.vm.findClass RX2 = some m.cls := findClass_of_methodNamed B.named
  have hlocks := B.notSynchronized
  subst hsz
  have hD : va_D (pq_B t σ (I, J, ri, rj, rq) s.heap.size) (pq_P t σ (I, J, ri, rj, rq)) := hD0.self
  generalize hAe : pq_B t σ (I, J, ri, rj, rq) s.heap.size = A at hD ⊢
  have hA : ∀ q : Nat, s.heap.size ≤ q → A q := fun q h => by rw [← hAe]; exact Or.inr h
  have hS : va_S A s.heap s.heap [] := va_S.rf
  have hG : GX [] tg σ I I ri rq := ⟨hG0, fun _ _ _ => rfl⟩
  have hl := lv_entry ([.ref this, .int a0, .int a1, .int a2]) (n := 8) (Nat.le_of_ble_eq_true rfl)
  rw [lg_entry_eq]
  generalize (lg_sl ([.ref this, .int a0, .int a1, .int a2]) ++ List.replicate (8 - (lg_sl ([.ref this, .int a0, .int a1, .int a2])).length) Slot.unset).toArray = ls at hl ⊢
  have hl : lv_has ls 8 [(0, .ref this), (1, .int a0), (2, .int a1), (3, .int a2)] := hl
  refine q_gen (fun Q hQ => ?_)
  have go : ∀ (H : Heap) (locs : List Loc) (ls : Array Slot), va_P D vwCl (pq_P t σ (I, J, ri, rj, rq)) H → va_D A (pq_P t σ (I, J, ri, rj, rq)) → va_S A s.heap H locs → lv_has ls 8 [(0, .ref this), (1, .int a0), (2, .int a1), (3, .int a2)] → W p l e ({ frames := 1, cells := 0, slots := 0, locals := 21 } : Room) s m (List.toArray ([.ref this, .int a0, .int a1, .int a2] : List Value)) below meth c H locs 0 0 Q (F0 m 0 ls []) := by
    intro H locs ls hP hD hS hl
    refine lv_aload_n hx hb dX2_tide_0 rfl (lv_at hl 0 rfl) ?_
    refine lv_lconst (v := 0) hx hb dX2_tide_1 (by decide) ?_
    refine pp_l (v := 0) (C := RX2) (T := TX2) (N := 20) hx hb hts (tw_i inlX2) tyX2 tyX2_ok nmX2 hown hK hP hD hS hL_this hK_this (by decide) rfl 3 67 (by decide) (hts _ (tw_c tw_558)) rfl (by decide +kernel) (Nat.le_of_ble_eq_true rfl) (ps_67 _ _ _ _ _) dX2_tide_2 (fun J_1 H locs eJ_1 hP hD hS => ?_)
    refine lv_lconst (v := 0) hx hb dX2_tide_5 (by decide) ?_
    refine lv_lstore (lv' := [(4, .long 0), (0, .ref this), (1, .int a0), (2, .int a1), (3, .int a2)]) hx hb dX2_tide_6 hl (by decide) rfl (fun ls hl => ?_)
    refine lv_iconst (v := 0) hx hb dX2_tide_8 (by decide) ?_
    refine lv_istore (lv' := [(6, .int 0), (4, .long 0), (0, .ref this), (1, .int a0), (2, .int a1), (3, .int a2)]) hx hb dX2_tide_9 hl (by decide) rfl (fun ls hl => ?_)
    have L_571 : ∀ (n_570 : Nat) (x_525 : Int64) (x_526 : Int32) (J_527 : Nat → Nat → Int64) (ri_528 : Nat → Nat → Int32) (H : Heap) (locs : List Loc) (ls : Array Slot), rg x_526 0 40 → (40 - (x_526).toInt).toNat < n_570 → GX [] tg σ I I ri_528 rq → va_P D vwCl (pq_P t σ (I, J_527, ri_528, rj, rq)) H → va_D A (pq_P t σ (I, J_527, ri_528, rj, rq)) → va_S A s.heap H locs → lv_has ls 8 [(0, .ref this), (1, .int a0), (2, .int a1), (3, .int a2), (4, .long x_525), (6, .int x_526)] → W p l e ({ frames := 1, cells := 0, slots := 0, locals := 21 } : Room) s m (List.toArray ([.ref this, .int a0, .int a1, .int a2] : List Value)) below meth c H locs 0 0 Q (F0 m 11 ls []) := by
      intro n_570
      induction n_570 with
      | zero => intro x_525 x_526 J_527 ri_528 H locs ls h_574 hm_569 hG hP hD hS hl; exact absurd hm_569 (Nat.not_lt_zero _)
      | succ n_570 ih_572 =>
        intro x_525 x_526 J_527 ri_528 H locs ls h_574 hm_569 hG hP hD hS hl
        refine lv_iload hx hb dX2_tide_11 (lv_at hl 5 rfl) ?_
        refine lv_aload_n hx hb dX2_tide_13 rfl (lv_at hl 0 rfl) ?_
        refine pg_f (v := .int (I 65 this)) (C := RX2) (T := TX2) (N := 20) hx hb hts (tw_i inlX2) hown hK hP hL_this hK_this (by decide) rfl 1 (by decide) (hts _ (tw_c tw_222)) rfl dX2_tide_14 ?_
        have h_575 : rg (I 65 this) 0 40 := GX.rI hG 65 rfl
        refine lv_icmp_ge (tgt := 90) hx hb dX2_tide_17 (by decide) (fun c_576 => ?_) (fun c_576 => ?_)
        · refine lv_iload_n hx hb dX2_tide_90 rfl (lv_at hl 1 rfl) ?_
          refine lv_if_lt (tgt := 109) hx hb dX2_tide_91 (by decide) (fun c_577 => ?_) (fun c_577 => ?_)
          · have h_578 : rg a0 (-2147483648) (-1) := rg_lt1 c_577 (rg_full _) (rg_k (0 : Int32) 0 rfl) (by decide)
            subst hQ
            exact W.vret hx hb hr (fun t1 ht hW => ⟨⟨(σ, I, J_527, ri_528, rj, rq), rfl, ⟨J_527, ri_528, rj, rfl, hG⟩, by rw [ht]; exact hP, va_K.moved hW.alike hK, hD⟩, hS.F ht⟩) hS.2.2 dX2_tide_109
          · have h_579 : rg a0 0 2147483647 := rg_le2 (nlt c_577) (rg_k (0 : Int32) 0 rfl) (rg_full _) (by decide)
            refine lv_iload_n hx hb dX2_tide_94 rfl (lv_at hl 1 rfl) ?_
            refine lv_sipush (v := 600) hx hb dX2_tide_95 (by decide) ?_
            refine lv_icmp_ge (tgt := 109) hx hb dX2_tide_98 (by decide) (fun c_580 => ?_) (fun c_580 => ?_)
            · have h_581 : rg a0 600 2147483647 := rg_le2 c_580 (rg_k (600 : Int32) 600 rfl) h_579 (by decide)
              subst hQ
              exact W.vret hx hb hr (fun t1 ht hW => ⟨⟨(σ, I, J_527, ri_528, rj, rq), rfl, ⟨J_527, ri_528, rj, rfl, hG⟩, by rw [ht]; exact hP, va_K.moved hW.alike hK, hD⟩, hS.F ht⟩) hS.2.2 dX2_tide_109
            · have h_582 : rg a0 0 599 := rg_lt1 (nle c_580) h_579 (rg_k (600 : Int32) 600 rfl) (by decide)
              refine lv_aload_n hx hb dX2_tide_101 rfl (lv_at hl 0 rfl) ?_
              obtain ⟨w_583, hR_w_583, hL_w_583, hK_w_583, hN_w_583, hT_w_583⟩ := sh_a hSH 68 (ci := 2) (kd := 14) (len := 600) rfl (by decide) hL_this hK_this
              refine pg_f (v := .ref w_583) (C := RX2) (T := TX2) (N := 20) hx hb hts (tw_i inlX2) hown hK hP hL_this hK_this (by decide) rfl 4 (by decide) (hts _ (tw_c tw_82)) (pq_hv rfl hR_w_583) dX2_tide_102 ?_
              refine lv_iload_n hx hb dX2_tide_105 rfl (lv_at hl 1 rfl) ?_
              refine lv_lload hx hb dX2_tide_106 (lv_at hl 4 rfl) ?_
              refine pt_l hx hb hK hP hD hS hL_w_583 hK_w_583 hN_w_583 (rg_in h_582 (by decide)) dX2_tide_108 (fun r_584 H locs er_584 hP hD hS => ?_)
              subst hQ
              exact W.vret hx hb hr (fun t1 ht hW => ⟨⟨(σ, I, J_527, ri_528, r_584, rq), rfl, ⟨J_527, ri_528, r_584, rfl, hG⟩, by rw [ht]; exact hP, va_K.moved hW.alike hK, hD⟩, hS.F ht⟩) hS.2.2 dX2_tide_109
        · have h_585 : rg x_526 0 39 := rg_lt1 (nle c_576) h_574 h_575 (by decide)
          have h_586 : rg (I 65 this) 1 40 := rg_lt2 (nle c_576) h_574 h_575 (by decide)
          refine lv_aload_n hx hb dX2_tide_20 rfl (lv_at hl 0 rfl) ?_
          refine lv_iload hx hb dX2_tide_21 (lv_at hl 5 rfl) ?_
          refine pk_i (va_runV (As := [.int x_526]) (rest := []) ⟨hx, hb, hml, hown, hts⟩ (s_X2_topOf l D t σ I J_527 ri_528 rj rq H.size tg hSH hG.1 this x_526 hL_this hK_this (rg_w h_585 (by decide))) (cwV 1 hts (tw_V tw_1074 tw_1075 tw_1076 tw_41 tw_1077) rfl rfl rfl (by decide +kernel) ⟨Nat.le_of_ble_eq_true rfl, Nat.le_of_ble_eq_true rfl⟩) ⟨pq_blind, pq_recv hK hP hL_this hK_this (by decide) rfl, pq_pre hK hN hP hD⟩ rfl rfl hl.1 rfl (lv_room (Nat.le_of_ble_eq_true rfl)) dX2_tide_23 ⟨Nat.le_of_ble_eq_true rfl, Nat.le_of_ble_eq_true rfl⟩) hD hS hA (fun x_587 σ1 μ1 H locs hw_588 hP hD hS => ?_)
          have hu_589 := hw_588
          obtain ⟨hu_589a, hu_589b⟩ := Prod.mk.inj hu_589
          rw [hu_589a, hu_589b] at hP hD
          refine lv_istore (lv' := [(7, .int x_587), (0, .ref this), (1, .int a0), (2, .int a1), (3, .int a2), (4, .long x_525), (6, .int x_526)]) hx hb dX2_tide_26 hl (by decide) rfl (fun ls hl => ?_)
          refine lv_iload hx hb dX2_tide_28 (lv_at hl 0 rfl) ?_
          refine lv_iload_n hx hb dX2_tide_30 rfl (lv_at hl 4 rfl) ?_
          have K_614 : ∀  (x_597 : Int64) (H : Heap) (locs : List Loc) (ls : Array Slot), GX [] tg σ I I ri_528 rq → va_P D vwCl (pq_P t σ (I, J_527, ri_528, rj, rq)) H → va_D A (pq_P t σ (I, J_527, ri_528, rj, rq)) → va_S A s.heap H locs → lv_has ls 8 [(0, .ref this), (1, .int a0), (2, .int a1), (3, .int a2), (4, .long x_597), (6, .int x_526), (7, .int x_587)] → W p l e ({ frames := 1, cells := 0, slots := 0, locals := 21 } : Room) s m (List.toArray ([.ref this, .int a0, .int a1, .int a2] : List Value)) below meth c H locs 0 0 Q (F0 m 43 ls []) := by
            intro x_597 H locs ls hG hP hD hS hl
            refine lv_iload hx hb dX2_tide_43 (lv_at hl 6 rfl) ?_
            refine lv_iload_n hx hb dX2_tide_45 rfl (lv_at hl 2 rfl) ?_
            have K_631 : ∀  (J_627 : Nat → Nat → Int64) (ri_628 : Nat → Nat → Int32) (H : Heap) (locs : List Loc) (ls : Array Slot), GX [] tg σ I I ri_628 rq → va_P D vwCl (pq_P t σ (I, J_627, ri_628, rj, rq)) H → va_D A (pq_P t σ (I, J_627, ri_628, rj, rq)) → va_S A s.heap H locs → lv_has ls 8 [(0, .ref this), (1, .int a0), (2, .int a1), (3, .int a2), (4, .long x_597), (6, .int x_526)] → W p l e ({ frames := 1, cells := 0, slots := 0, locals := 21 } : Room) s m (List.toArray ([.ref this, .int a0, .int a1, .int a2] : List Value)) below meth c H locs 0 0 Q (F0 m 84 ls []) := by
              intro J_627 ri_628 H locs ls hG hP hD hS hl
              obtain ⟨x_632, ex_632⟩ : ∃ y : Int32, y = x_526 + Int32.ofInt 1 := ⟨_, rfl⟩
              have h_633 : rg x_632 1 40 := rg_of_eq ex_632 (rg_add h_585 (rg_k (Int32.ofInt 1) 1 rfl) (by decide))
              refine lv_iinc (v := x_632) (lv' := [(6, .int x_632), (0, .ref this), (1, .int a0), (2, .int a1), (3, .int a2), (4, .long x_597)]) hx hb dX2_tide_84 hl (k := 5) rfl ex_632.symm (by decide) rfl (fun ls hl => ?_)
              refine lv_goto (tgt := 11) hx hb dX2_tide_87 (by decide) ?_
              exact ih_572 x_597 x_632 J_627 ri_628 _ _ _ (rg_w h_633 (by decide)) (ms_up 1 hm_569 ex_632 rfl (by decide) h_585 (by decide) (by decide)) hG hP hD hS (lv_sub hl [1, 2, 3, 4, 5, 0] rfl)
            refine lv_icmp_le (tgt := 73) hx hb dX2_tide_46 (by decide) (fun c_634 => ?_) (fun c_634 => ?_)
            · refine lv_aload_n hx hb dX2_tide_73 rfl (lv_at hl 0 rfl) ?_
              obtain ⟨w_635, hR_w_635, hL_w_635, hK_w_635, hN_w_635, hT_w_635⟩ := sh_a hSH 77 (ci := 2) (kd := 13) (len := 40) rfl (by decide) hL_this hK_this
              refine pg_f (v := .ref w_635) (C := RX2) (T := TX2) (N := 20) hx hb hts (tw_i inlX2) hown hK hP hL_this hK_this (by decide) rfl 13 (by decide) (hts _ (tw_c tw_91)) (pq_hv rfl hR_w_635) dX2_tide_74 ?_
              refine lv_iload hx hb dX2_tide_77 (lv_at hl 5 rfl) ?_
              refine lv_dup2_11 hx hb dX2_tide_79 rfl rfl ?_
              refine pl_i hx hb hK hP hL_w_635 hK_w_635 hN_w_635 (rg_in h_585 (by decide)) dX2_tide_80 ?_
              refine lv_topi (fun x_636 ex_636 => ?_)
              refine lv_iconst (v := 1) hx hb dX2_tide_81 (by decide) ?_
              refine lv_iadd hx hb dX2_tide_82 ?_
              refine lv_topi (fun x_637 ex_637 => ?_)
              refine pt_i hx hb hK hP hD hS hL_w_635 hK_w_635 hN_w_635 (rg_in h_585 (by decide)) dX2_tide_83 (fun r_638 H locs er_638 hP hD hS => ?_)
              have hG := GX.wR hG hSH hT_w_635 rfl er_638 (rg_w (rg_full _) (by decide)) (by decide)
              exact K_631 J_527 r_638 _ _ _ hG hP hD hS (lv_sub hl [0, 1, 2, 3, 4, 5] rfl)
            · have h_639 : rg a1 (-2147483648) 2147483646 := rg_lt1 (nle c_634) (rg_full _) (rg_full _) (by decide)
              have h_640 : rg x_587 (-2147483647) 2147483647 := rg_lt2 (nle c_634) (rg_full _) (rg_full _) (by decide)
              refine lv_aload_n hx hb dX2_tide_49 rfl (lv_at hl 0 rfl) ?_
              refine lv_dup hx hb dX2_tide_50 rfl ?_
              refine pg_f (v := .long (J_527 67 this)) (C := RX2) (T := TX2) (N := 20) hx hb hts (tw_i inlX2) hown hK hP hL_this hK_this (by decide) rfl 3 (by decide) (hts _ (tw_c tw_558)) rfl dX2_tide_51 ?_
              refine lv_lconst (v := 1) hx hb dX2_tide_54 (by decide) ?_
              refine lv_iload hx hb dX2_tide_55 (lv_at hl 5 rfl) ?_
              refine lv_lshl hx hb dX2_tide_57 rfl ?_
              refine lv_topl (fun x_641 ex_641 => ?_)
              refine lv_lor hx hb dX2_tide_58 ?_
              refine lv_topl (fun x_642 ex_642 => ?_)
              refine pp_l (v := x_642) (C := RX2) (T := TX2) (N := 20) hx hb hts (tw_i inlX2) tyX2 tyX2_ok nmX2 hown hK hP hD hS hL_this hK_this (by decide) rfl 3 67 (by decide) (hts _ (tw_c tw_558)) rfl (by decide +kernel) (Nat.le_of_ble_eq_true rfl) (ps_67 _ _ _ _ _) dX2_tide_59 (fun J_643 H locs eJ_643 hP hD hS => ?_)
              refine lv_aload_n hx hb dX2_tide_62 rfl (lv_at hl 0 rfl) ?_
              obtain ⟨w_644, hR_w_644, hL_w_644, hK_w_644, hN_w_644, hT_w_644⟩ := sh_a hSH 77 (ci := 2) (kd := 13) (len := 40) rfl (by decide) hL_this hK_this
              refine pg_f (v := .ref w_644) (C := RX2) (T := TX2) (N := 20) hx hb hts (tw_i inlX2) hown hK hP hL_this hK_this (by decide) rfl 13 (by decide) (hts _ (tw_c tw_91)) (pq_hv rfl hR_w_644) dX2_tide_63 ?_
              refine lv_iload hx hb dX2_tide_66 (lv_at hl 5 rfl) ?_
              refine lv_iconst (v := 0) hx hb dX2_tide_68 (by decide) ?_
              refine pt_i hx hb hK hP hD hS hL_w_644 hK_w_644 hN_w_644 (rg_in h_585 (by decide)) dX2_tide_69 (fun r_645 H locs er_645 hP hD hS => ?_)
              have hG := GX.wR hG hSH hT_w_644 rfl er_645 (rg_w (rg_k (0 : Int32) 0 rfl) (by decide)) (by decide)
              refine lv_goto (tgt := 84) hx hb dX2_tide_70 (by decide) ?_
              exact K_631 J_643 r_645 _ _ _ hG hP hD hS (lv_sub hl [0, 1, 2, 3, 4, 5] rfl)
          refine lv_icmp_le (tgt := 43) hx hb dX2_tide_31 (by decide) (fun c_646 => ?_) (fun c_646 => ?_)
          · exact K_614 x_525 _ _ _ hG hP hD hS (lv_sub hl [1, 2, 3, 4, 5, 6, 0] rfl)
          · have h_647 : rg a2 (-2147483648) 2147483646 := rg_lt1 (nle c_646) (rg_full _) (rg_full _) (by decide)
            have h_648 : rg x_587 (-2147483647) 2147483647 := rg_lt2 (nle c_646) (rg_full _) (rg_full _) (by decide)
            refine lv_lload hx hb dX2_tide_34 (lv_at hl 5 rfl) ?_
            refine lv_lconst (v := 1) hx hb dX2_tide_36 (by decide) ?_
            refine lv_iload hx hb dX2_tide_37 (lv_at hl 6 rfl) ?_
            refine lv_lshl hx hb dX2_tide_39 rfl ?_
            refine lv_topl (fun x_649 ex_649 => ?_)
            refine lv_lor hx hb dX2_tide_40 ?_
            refine lv_topl (fun x_650 ex_650 => ?_)
            refine lv_lstore (lv' := [(4, .long x_650), (7, .int x_587), (0, .ref this), (1, .int a0), (2, .int a1), (3, .int a2), (6, .int x_526)]) hx hb dX2_tide_41 hl (by decide) rfl (fun ls hl => ?_)
            exact K_614 x_650 _ _ _ hG hP hD hS (lv_sub hl [2, 3, 4, 5, 0, 6, 1] rfl)
    exact L_571 _ (0 : Int64) (0 : Int32) J_1 ri _ _ _ (rg_w (rg_k (0 : Int32) 0 rfl) (by decide)) (Nat.lt_succ_self _) hG hP hD hS (lv_sub hl [2, 3, 4, 5, 1, 0] rfl)
  exact go _ _ _ hP hD hS hl

set_option maxHeartbeats 4000000 in
set_option maxRecDepth 100000 in
theorem s_X2_giveUpBeds (l : Launch) (D : va_G) (t : pq_T) (σ : pq_S) (I : Nat → Nat → Int32) (J : Nat → Nat → Int64) (ri : Nat → Nat → Int32) (rj : Nat → Nat → Int64) (rq : Nat → Nat → Option Nat) (sz : Nat) (tg : Nat → Nat) (hSH : SH σ tg) (hG0 : GS tg σ I ri rq) (this : Nat) (hL_this : this ∈ σ.1) (hK_this : σ.2.1 this = 2) : MetV l yX2_giveUpBeds (wa yX2_giveUpBeds cX2_giveUpBeds 2 none) ({ frames := 2, cells := 0, slots := 0, locals := 43 }) [.ref this] D t σ (I, J, ri, rj, rq) sz 0 0 (fun (u : pq_S × pq_M) => ∃ ri' : Nat → Nat → Int32, u = (σ, I, J, ri', rj, rq) ∧ GX [] tg σ I I ri' rq) := by
  refine Met.ofW (cc := cX2_giveUpBeds) (maxL := 2) (ret := none) (by decide) rfl ?_
  intro p e s m args below meth c s₁ B hml hv
  obtain ⟨rfl, hsz, hP, hK, hD0, hN⟩ := hv
  have hx := B.exec
  have hb := B.bytes
  have hr := B.returns
  have hts := atoms_spec (ws := (wa yX2_giveUpBeds cX2_giveUpBeds 2 none)) B.pre
  have hown : s.vm.findClass RX2 = some m.cls := findClass_of_methodNamed B.named
  have hlocks := B.notSynchronized
  subst hsz
  have hD : va_D (pq_B t σ (I, J, ri, rj, rq) s.heap.size) (pq_P t σ (I, J, ri, rj, rq)) := hD0.self
  generalize hAe : pq_B t σ (I, J, ri, rj, rq) s.heap.size = A at hD ⊢
  have hA : ∀ q : Nat, s.heap.size ≤ q → A q := fun q h => by rw [← hAe]; exact Or.inr h
  have hS : va_S A s.heap s.heap [] := va_S.rf
  have hG : GX [] tg σ I I ri rq := ⟨hG0, fun _ _ _ => rfl⟩
  have hl := lv_entry ([.ref this]) (n := 2) (Nat.le_of_ble_eq_true rfl)
  rw [lg_entry_eq]
  generalize (lg_sl ([.ref this]) ++ List.replicate (2 - (lg_sl ([.ref this])).length) Slot.unset).toArray = ls at hl ⊢
  have hl : lv_has ls 2 [(0, .ref this)] := hl
  refine q_gen (fun Q hQ => ?_)
  have go : ∀ (H : Heap) (locs : List Loc) (ls : Array Slot), va_P D vwCl (pq_P t σ (I, J, ri, rj, rq)) H → va_D A (pq_P t σ (I, J, ri, rj, rq)) → va_S A s.heap H locs → lv_has ls 2 [(0, .ref this)] → W p l e ({ frames := 2, cells := 0, slots := 0, locals := 43 } : Room) s m (List.toArray ([.ref this] : List Value)) below meth c H locs 0 0 Q (F0 m 0 ls []) := by
    intro H locs ls hP hD hS hl
    refine lv_iconst (v := 0) hx hb dX2_giveUpBeds_0 (by decide) ?_
    refine lv_istore_n (lv' := [(1, .int 0), (0, .ref this)]) hx hb dX2_giveUpBeds_1 rfl hl (by decide) rfl (fun ls hl => ?_)
    have L_273 : ∀ (n_272 : Nat) (x_250 : Int32) (ri_251 : Nat → Nat → Int32) (H : Heap) (locs : List Loc) (ls : Array Slot), rg x_250 0 40 → (40 - (x_250).toInt).toNat < n_272 → GX [] tg σ I I ri_251 rq → va_P D vwCl (pq_P t σ (I, J, ri_251, rj, rq)) H → va_D A (pq_P t σ (I, J, ri_251, rj, rq)) → va_S A s.heap H locs → lv_has ls 2 [(0, .ref this), (1, .int x_250)] → W p l e ({ frames := 2, cells := 0, slots := 0, locals := 43 } : Room) s m (List.toArray ([.ref this] : List Value)) below meth c H locs 0 0 Q (F0 m 2 ls []) := by
      intro n_272
      induction n_272 with
      | zero => intro x_250 ri_251 H locs ls h_276 hm_271 hG hP hD hS hl; exact absurd hm_271 (Nat.not_lt_zero _)
      | succ n_272 ih_274 =>
        intro x_250 ri_251 H locs ls h_276 hm_271 hG hP hD hS hl
        refine lv_iload_n hx hb dX2_giveUpBeds_2 rfl (lv_at hl 1 rfl) ?_
        refine lv_aload_n hx hb dX2_giveUpBeds_3 rfl (lv_at hl 0 rfl) ?_
        refine pg_f (v := .int (I 65 this)) (C := RX2) (T := TX2) (N := 20) hx hb hts (tw_i inlX2) hown hK hP hL_this hK_this (by decide) rfl 1 (by decide) (hts _ (tw_c tw_222)) rfl dX2_giveUpBeds_4 ?_
        have h_277 : rg (I 65 this) 0 40 := GX.rI hG 65 rfl
        refine lv_icmp_ge (tgt := 31) hx hb dX2_giveUpBeds_7 (by decide) (fun c_278 => ?_) (fun c_278 => ?_)
        · subst hQ
          exact W.vret hx hb hr (fun t1 ht hW => ⟨⟨(σ, I, J, ri_251, rj, rq), rfl, ⟨ri_251, rfl, hG⟩, by rw [ht]; exact hP, va_K.moved hW.alike hK, hD⟩, hS.F ht⟩) hS.2.2 dX2_giveUpBeds_31
        · have h_279 : rg x_250 0 39 := rg_lt1 (nle c_278) h_276 h_277 (by decide)
          have h_280 : rg (I 65 this) 1 40 := rg_lt2 (nle c_278) h_276 h_277 (by decide)
          refine lv_aload_n hx hb dX2_giveUpBeds_10 rfl (lv_at hl 0 rfl) ?_
          refine lv_iload_n hx hb dX2_giveUpBeds_11 rfl (lv_at hl 1 rfl) ?_
          refine pk_i (va_runV (As := [.int x_250]) (rest := []) ⟨hx, hb, hml, hown, hts⟩ (s_X2_isDry l D t σ I J ri_251 rj rq H.size tg hSH hG.1 this x_250 hL_this hK_this) (cwV 1 hts (tw_V tw_1082 tw_555 tw_556 tw_41 tw_557) rfl rfl rfl (by decide +kernel) ⟨Nat.le_of_ble_eq_true rfl, Nat.le_of_ble_eq_true rfl⟩) ⟨pq_blind, pq_recv hK hP hL_this hK_this (by decide) rfl, pq_pre hK hN hP hD⟩ rfl rfl hl.1 rfl (lv_room (Nat.le_of_ble_eq_true rfl)) dX2_giveUpBeds_12 ⟨Nat.le_of_ble_eq_true rfl, Nat.le_of_ble_eq_true rfl⟩) hD hS hA (fun x_281 σ1 μ1 H locs hw_282 hP hD hS => ?_)
          obtain ⟨hu_283, hr_285⟩ := hw_282
          obtain ⟨hu_283a, hu_283b⟩ := Prod.mk.inj hu_283
          rw [hu_283a, hu_283b] at hP hD
          have h_286 : rg x_281 0 1 := by rcases hr_285 with ⟨q, -⟩ | ⟨q, -⟩ <;> rw [q] <;> exact ⟨by decide, by decide⟩
          have K_295 : ∀  (ri_292 : Nat → Nat → Int32) (H : Heap) (locs : List Loc) (ls : Array Slot), GX [] tg σ I I ri_292 rq → va_P D vwCl (pq_P t σ (I, J, ri_292, rj, rq)) H → va_D A (pq_P t σ (I, J, ri_292, rj, rq)) → va_S A s.heap H locs → lv_has ls 2 [(0, .ref this), (1, .int x_250)] → W p l e ({ frames := 2, cells := 0, slots := 0, locals := 43 } : Room) s m (List.toArray ([.ref this] : List Value)) below meth c H locs 0 0 Q (F0 m 25 ls []) := by
            intro ri_292 H locs ls hG hP hD hS hl
            obtain ⟨x_296, ex_296⟩ : ∃ y : Int32, y = x_250 + Int32.ofInt 1 := ⟨_, rfl⟩
            have h_297 : rg x_296 1 40 := rg_of_eq ex_296 (rg_add h_279 (rg_k (Int32.ofInt 1) 1 rfl) (by decide))
            refine lv_iinc (v := x_296) (lv' := [(1, .int x_296), (0, .ref this)]) hx hb dX2_giveUpBeds_25 hl (k := 1) rfl ex_296.symm (by decide) rfl (fun ls hl => ?_)
            refine lv_goto (tgt := 2) hx hb dX2_giveUpBeds_28 (by decide) ?_
            exact ih_274 x_296 ri_292 _ _ _ (rg_w h_297 (by decide)) (ms_up 1 hm_271 ex_296 rfl (by decide) h_279 (by decide) (by decide)) hG hP hD hS (lv_sub hl [1, 0] rfl)
          refine lv_if_ne (tgt := 25) hx hb dX2_giveUpBeds_15 (by decide) (fun c_298 => ?_) (fun c_298 => ?_)
          · have h_299 : rg x_281 1 1 := rg_ne c_298 h_286 0 rfl (by decide)
            exact K_295 ri_251 _ _ _ hG hP hD hS (lv_sub hl [0, 1] rfl)
          · have h_300 : rg x_281 0 0 := rg_and h_286 (rg_of_eq c_298 (rg_k (0 : Int32) 0 rfl)) (by decide)
            refine lv_aload_n hx hb dX2_giveUpBeds_18 rfl (lv_at hl 0 rfl) ?_
            obtain ⟨w_301, hR_w_301, hL_w_301, hK_w_301, hN_w_301, hT_w_301⟩ := sh_a hSH 76 (ci := 2) (kd := 13) (len := 40) rfl (by decide) hL_this hK_this
            refine pg_f (v := .ref w_301) (C := RX2) (T := TX2) (N := 20) hx hb hts (tw_i inlX2) hown hK hP hL_this hK_this (by decide) rfl 12 (by decide) (hts _ (tw_c tw_90)) (pq_hv rfl hR_w_301) dX2_giveUpBeds_19 ?_
            refine lv_iload_n hx hb dX2_giveUpBeds_22 rfl (lv_at hl 1 rfl) ?_
            refine lv_iconst (v := 0) hx hb dX2_giveUpBeds_23 (by decide) ?_
            refine pt_i hx hb hK hP hD hS hL_w_301 hK_w_301 hN_w_301 (rg_in h_279 (by decide)) dX2_giveUpBeds_24 (fun r_302 H locs er_302 hP hD hS => ?_)
            have hG := GX.wR hG hSH hT_w_301 rfl er_302 (rg_w (rg_k (0 : Int32) 0 rfl) (by decide)) (by decide)
            exact K_295 r_302 _ _ _ hG hP hD hS (lv_sub hl [0, 1] rfl)
    exact L_273 _ (0 : Int32) ri _ _ _ (rg_w (rg_k (0 : Int32) 0 rfl) (by decide)) (Nat.lt_succ_self _) hG hP hD hS (lv_sub hl [1, 0] rfl)
  exact go _ _ _ hP hD hS hl

set_option maxHeartbeats 4000000 in
set_option maxRecDepth 100000 in
theorem s_X2_countWalls (l : Launch) (D : va_G) (t : pq_T) (σ : pq_S) (I : Nat → Nat → Int32) (J : Nat → Nat → Int64) (ri : Nat → Nat → Int32) (rj : Nat → Nat → Int64) (rq : Nat → Nat → Option Nat) (sz : Nat) (tg : Nat → Nat) (hSH : SH σ tg) (hG0 : GS tg σ I ri rq) (this : Nat) (hL_this : this ∈ σ.1) (hK_this : σ.2.1 this = 2) : MetI l yX2_countWalls (wa yX2_countWalls cX2_countWalls 3 (some .int)) ({ frames := 0, cells := 0, slots := 0, locals := 0 }) [.ref this] D t σ (I, J, ri, rj, rq) sz 0 0 (fun (r : Int32) (u : pq_S × pq_M) => u = (σ, I, J, ri, rj, rq)) := by
  refine Met.ofW (cc := cX2_countWalls) (maxL := 3) (ret := (some .int)) (by decide) rfl ?_
  intro p e s m args below meth c s₁ B hml hv
  obtain ⟨rfl, hsz, hP, hK, hD0, hN⟩ := hv
  have hx := B.exec
  have hb := B.bytes
  have hr := B.returns
  have hts := atoms_spec (ws := (wa yX2_countWalls cX2_countWalls 3 (some .int))) B.pre
  have hown : s.vm.findClass RX2 = some m.cls := findClass_of_methodNamed B.named
  have hlocks := B.notSynchronized
  subst hsz
  have hD : va_D (pq_B t σ (I, J, ri, rj, rq) s.heap.size) (pq_P t σ (I, J, ri, rj, rq)) := hD0.self
  generalize hAe : pq_B t σ (I, J, ri, rj, rq) s.heap.size = A at hD ⊢
  have hA : ∀ q : Nat, s.heap.size ≤ q → A q := fun q h => by rw [← hAe]; exact Or.inr h
  have hS : va_S A s.heap s.heap [] := va_S.rf
  have hG : GX [] tg σ I I ri rq := ⟨hG0, fun _ _ _ => rfl⟩
  have hl := lv_entry ([.ref this]) (n := 3) (Nat.le_of_ble_eq_true rfl)
  rw [lg_entry_eq]
  generalize (lg_sl ([.ref this]) ++ List.replicate (3 - (lg_sl ([.ref this])).length) Slot.unset).toArray = ls at hl ⊢
  have hl : lv_has ls 3 [(0, .ref this)] := hl
  refine q_gen (fun Q hQ => ?_)
  have go : ∀ (H : Heap) (locs : List Loc) (ls : Array Slot), va_P D vwCl (pq_P t σ (I, J, ri, rj, rq)) H → va_D A (pq_P t σ (I, J, ri, rj, rq)) → va_S A s.heap H locs → lv_has ls 3 [(0, .ref this)] → W p l e ({ frames := 0, cells := 0, slots := 0, locals := 0 } : Room) s m (List.toArray ([.ref this] : List Value)) below meth c H locs 0 0 Q (F0 m 0 ls []) := by
    intro H locs ls hP hD hS hl
    refine lv_iconst (v := 0) hx hb dX2_countWalls_0 (by decide) ?_
    refine lv_istore_n (lv' := [(1, .int 0), (0, .ref this)]) hx hb dX2_countWalls_1 rfl hl (by decide) rfl (fun ls hl => ?_)
    refine lv_iconst (v := 0) hx hb dX2_countWalls_2 (by decide) ?_
    refine lv_istore_n (lv' := [(2, .int 0), (1, .int 0), (0, .ref this)]) hx hb dX2_countWalls_3 rfl hl (by decide) rfl (fun ls hl => ?_)
    have L_463 : ∀ (n_462 : Nat) (x_445 : Int32) (x_446 : Int32) (H : Heap) (locs : List Loc) (ls : Array Slot), rg x_446 0 40 → (40 - (x_446).toInt).toNat < n_462 → GX [] tg σ I I ri rq → va_P D vwCl (pq_P t σ (I, J, ri, rj, rq)) H → va_D A (pq_P t σ (I, J, ri, rj, rq)) → va_S A s.heap H locs → lv_has ls 3 [(0, .ref this), (1, .int x_445), (2, .int x_446)] → W p l e ({ frames := 0, cells := 0, slots := 0, locals := 0 } : Room) s m (List.toArray ([.ref this] : List Value)) below meth c H locs 0 0 Q (F0 m 4 ls []) := by
      intro n_462
      induction n_462 with
      | zero => intro x_445 x_446 H locs ls h_466 hm_461 hG hP hD hS hl; exact absurd hm_461 (Nat.not_lt_zero _)
      | succ n_462 ih_464 =>
        intro x_445 x_446 H locs ls h_466 hm_461 hG hP hD hS hl
        refine lv_iload_n hx hb dX2_countWalls_4 rfl (lv_at hl 2 rfl) ?_
        refine lv_aload_n hx hb dX2_countWalls_5 rfl (lv_at hl 0 rfl) ?_
        refine pg_f (v := .int (I 65 this)) (C := RX2) (T := TX2) (N := 20) hx hb hts (tw_i inlX2) hown hK hP hL_this hK_this (by decide) rfl 1 (by decide) (hts _ (tw_c tw_222)) rfl dX2_countWalls_6 ?_
        have h_467 : rg (I 65 this) 0 40 := GX.rI hG 65 rfl
        refine lv_icmp_ge (tgt := 30) hx hb dX2_countWalls_9 (by decide) (fun c_468 => ?_) (fun c_468 => ?_)
        · refine lv_iload_n hx hb dX2_countWalls_30 rfl (lv_at hl 1 rfl) ?_
          subst hQ
          exact W.iret (v := x_445) hx hb hr (fun t1 ht hW => ⟨⟨x_445, (σ, I, J, ri, rj, rq), rfl, rfl, by rw [ht]; exact hP, va_K.moved hW.alike hK, hD⟩, hS.F ht⟩) hS.2.2 dX2_countWalls_31
        · have h_469 : rg x_446 0 39 := rg_lt1 (nle c_468) h_466 h_467 (by decide)
          have h_470 : rg (I 65 this) 1 40 := rg_lt2 (nle c_468) h_466 h_467 (by decide)
          refine lv_aload_n hx hb dX2_countWalls_12 rfl (lv_at hl 0 rfl) ?_
          obtain ⟨w_471, hR_w_471, hL_w_471, hK_w_471, hN_w_471, hT_w_471⟩ := sh_a hSH 75 (ci := 2) (kd := 13) (len := 40) rfl (by decide) hL_this hK_this
          refine pg_f (v := .ref w_471) (C := RX2) (T := TX2) (N := 20) hx hb hts (tw_i inlX2) hown hK hP hL_this hK_this (by decide) rfl 11 (by decide) (hts _ (tw_c tw_89)) (pq_hv rfl hR_w_471) dX2_countWalls_13 ?_
          refine lv_iload_n hx hb dX2_countWalls_16 rfl (lv_at hl 2 rfl) ?_
          refine pl_i hx hb hK hP hL_w_471 hK_w_471 hN_w_471 (rg_in h_469 (by decide)) dX2_countWalls_17 ?_
          refine lv_topi (fun x_472 ex_472 => ?_)
          have K_480 : ∀  (x_477 : Int32) (H : Heap) (locs : List Loc) (ls : Array Slot), GX [] tg σ I I ri rq → va_P D vwCl (pq_P t σ (I, J, ri, rj, rq)) H → va_D A (pq_P t σ (I, J, ri, rj, rq)) → va_S A s.heap H locs → lv_has ls 3 [(0, .ref this), (1, .int x_477), (2, .int x_446)] → W p l e ({ frames := 0, cells := 0, slots := 0, locals := 0 } : Room) s m (List.toArray ([.ref this] : List Value)) below meth c H locs 0 0 Q (F0 m 24 ls []) := by
            intro x_477 H locs ls hG hP hD hS hl
            obtain ⟨x_481, ex_481⟩ : ∃ y : Int32, y = x_446 + Int32.ofInt 1 := ⟨_, rfl⟩
            have h_482 : rg x_481 1 40 := rg_of_eq ex_481 (rg_add h_469 (rg_k (Int32.ofInt 1) 1 rfl) (by decide))
            refine lv_iinc (v := x_481) (lv' := [(2, .int x_481), (0, .ref this), (1, .int x_477)]) hx hb dX2_countWalls_24 hl (k := 2) rfl ex_481.symm (by decide) rfl (fun ls hl => ?_)
            refine lv_goto (tgt := 4) hx hb dX2_countWalls_27 (by decide) ?_
            exact ih_464 x_477 x_481 _ _ _ (rg_w h_482 (by decide)) (ms_up 1 hm_461 ex_481 rfl (by decide) h_469 (by decide) (by decide)) hG hP hD hS (lv_sub hl [1, 2, 0] rfl)
          refine lv_if_le (tgt := 24) hx hb dX2_countWalls_18 (by decide) (fun c_483 => ?_) (fun c_483 => ?_)
          · have h_484 : rg x_472 (-2147483648) 0 := rg_le1 c_483 (rg_full _) (rg_k (0 : Int32) 0 rfl) (by decide)
            exact K_480 x_445 _ _ _ hG hP hD hS (lv_sub hl [0, 1, 2] rfl)
          · have h_485 : rg x_472 1 2147483647 := rg_lt2 (nle c_483) (rg_k (0 : Int32) 0 rfl) (rg_full _) (by decide)
            obtain ⟨x_486, ex_486⟩ : ∃ y : Int32, y = x_445 + Int32.ofInt 1 := ⟨_, rfl⟩
            refine lv_iinc (v := x_486) (lv' := [(1, .int x_486), (0, .ref this), (2, .int x_446)]) hx hb dX2_countWalls_21 hl (k := 1) rfl ex_486.symm (by decide) rfl (fun ls hl => ?_)
            exact K_480 x_486 _ _ _ hG hP hD hS (lv_sub hl [1, 0, 2] rfl)
    exact L_463 _ (0 : Int32) (0 : Int32) _ _ _ (rg_w (rg_k (0 : Int32) 0 rfl) (by decide)) (Nat.lt_succ_self _) hG hP hD hS (lv_sub hl [2, 1, 0] rfl)
  exact go _ _ _ hP hD hS hl

set_option maxHeartbeats 4000000 in
set_option maxRecDepth 100000 in
theorem s_X11_fill_82 (l : Launch) (D : va_G) (t : pq_T) (σ : pq_S) (I : Nat → Nat → Int32) (J : Nat → Nat → Int64) (ri : Nat → Nat → Int32) (rj : Nat → Nat → Int64) (rq : Nat → Nat → Option Nat) (sz : Nat) (tg : Nat → Nat) (hSH : SH σ tg) (hG0 : GS tg σ I ri rq) (a0 : Nat) (a1 : Int32) (hL_a0 : a0 ∈ σ.1) (hK_a0 : σ.2.1 a0 = 13) (hN_a0 : σ.2.2.2 a0 = 32) (hT_a0 : tg a0 = 82) : MetV l yX11_fill (wa yX11_fill cX11_fill 3 none) ({ frames := 0, cells := 0, slots := 0, locals := 0 }) [.ref a0, .int a1] D t σ (I, J, ri, rj, rq) sz 0 0 (fun (u : pq_S × pq_M) => ∃ ri' : Nat → Nat → Int32, u = (σ, I, J, ri', rj, rq) ∧ GX [] tg σ I I ri' rq) := by
  refine Met.ofW (cc := cX11_fill) (maxL := 3) (ret := none) (by decide) rfl ?_
  intro p e s m args below meth c s₁ B hml hv
  obtain ⟨rfl, hsz, hP, hK, hD0, hN⟩ := hv
  have hx := B.exec
  have hb := B.bytes
  have hr := B.returns
  have hts := atoms_spec (ws := (wa yX11_fill cX11_fill 3 none)) B.pre
  have hown : s.vm.findClass RX11 = some m.cls := findClass_of_methodNamed B.named
  have hlocks := B.notSynchronized
  subst hsz
  have hD : va_D (pq_B t σ (I, J, ri, rj, rq) s.heap.size) (pq_P t σ (I, J, ri, rj, rq)) := hD0.self
  generalize hAe : pq_B t σ (I, J, ri, rj, rq) s.heap.size = A at hD ⊢
  have hA : ∀ q : Nat, s.heap.size ≤ q → A q := fun q h => by rw [← hAe]; exact Or.inr h
  have hS : va_S A s.heap s.heap [] := va_S.rf
  have hG : GX [] tg σ I I ri rq := ⟨hG0, fun _ _ _ => rfl⟩
  have hl := lv_entry ([.ref a0, .int a1]) (n := 3) (Nat.le_of_ble_eq_true rfl)
  rw [lg_entry_eq]
  generalize (lg_sl ([.ref a0, .int a1]) ++ List.replicate (3 - (lg_sl ([.ref a0, .int a1])).length) Slot.unset).toArray = ls at hl ⊢
  have hl : lv_has ls 3 [(0, .ref a0), (1, .int a1)] := hl
  refine q_gen (fun Q hQ => ?_)
  have go : ∀ (H : Heap) (locs : List Loc) (ls : Array Slot), va_P D vwCl (pq_P t σ (I, J, ri, rj, rq)) H → va_D A (pq_P t σ (I, J, ri, rj, rq)) → va_S A s.heap H locs → lv_has ls 3 [(0, .ref a0), (1, .int a1)] → W p l e ({ frames := 0, cells := 0, slots := 0, locals := 0 } : Room) s m (List.toArray ([.ref a0, .int a1] : List Value)) below meth c H locs 0 0 Q (F0 m 0 ls []) := by
    intro H locs ls hP hD hS hl
    refine lv_iconst (v := 0) hx hb dX11_fill_0 (by decide) ?_
    refine lv_istore_n (lv' := [(2, .int 0), (0, .ref a0), (1, .int a1)]) hx hb dX11_fill_1 rfl hl (by decide) rfl (fun ls hl => ?_)
    have L_114 : ∀ (n_113 : Nat) (x_103 : Int32) (ri_104 : Nat → Nat → Int32) (H : Heap) (locs : List Loc) (ls : Array Slot), rg x_103 0 32 → (32 - (x_103).toInt).toNat < n_113 → GX [] tg σ I I ri_104 rq → va_P D vwCl (pq_P t σ (I, J, ri_104, rj, rq)) H → va_D A (pq_P t σ (I, J, ri_104, rj, rq)) → va_S A s.heap H locs → lv_has ls 3 [(0, .ref a0), (1, .int a1), (2, .int x_103)] → W p l e ({ frames := 0, cells := 0, slots := 0, locals := 0 } : Room) s m (List.toArray ([.ref a0, .int a1] : List Value)) below meth c H locs 0 0 Q (F0 m 2 ls []) := by
      intro n_113
      induction n_113 with
      | zero => intro x_103 ri_104 H locs ls h_117 hm_112 hG hP hD hS hl; exact absurd hm_112 (Nat.not_lt_zero _)
      | succ n_113 ih_115 =>
        intro x_103 ri_104 H locs ls h_117 hm_112 hG hP hD hS hl
        refine lv_iload_n hx hb dX11_fill_2 rfl (lv_at hl 2 rfl) ?_
        refine lv_aload_n hx hb dX11_fill_3 rfl (lv_at hl 0 rfl) ?_
        refine pn_i (v := 32) hx hb hK hP hL_a0 hK_a0 hN_a0 (by decide) dX11_fill_4 ?_
        refine lv_icmp_ge (tgt := 18) hx hb dX11_fill_5 (by decide) (fun c_118 => ?_) (fun c_118 => ?_)
        · have h_119 : rg x_103 32 32 := rg_le2 c_118 (rg_k (32 : Int32) 32 rfl) h_117 (by decide)
          subst hQ
          exact W.vret hx hb hr (fun t1 ht hW => ⟨⟨(σ, I, J, ri_104, rj, rq), rfl, ⟨ri_104, rfl, hG⟩, by rw [ht]; exact hP, va_K.moved hW.alike hK, hD⟩, hS.F ht⟩) hS.2.2 dX11_fill_18
        · have h_120 : rg x_103 0 31 := rg_lt1 (nle c_118) h_117 (rg_k (32 : Int32) 32 rfl) (by decide)
          refine lv_aload_n hx hb dX11_fill_8 rfl (lv_at hl 0 rfl) ?_
          refine lv_iload_n hx hb dX11_fill_9 rfl (lv_at hl 2 rfl) ?_
          refine lv_iload_n hx hb dX11_fill_10 rfl (lv_at hl 1 rfl) ?_
          refine pt_i hx hb hK hP hD hS hL_a0 hK_a0 hN_a0 (rg_in h_120 (by decide)) dX11_fill_11 (fun r_121 H locs er_121 hP hD hS => ?_)
          have hG := GX.wR hG hSH hT_a0 rfl er_121 (rg_w (rg_full _) (by decide)) (by decide)
          obtain ⟨x_122, ex_122⟩ : ∃ y : Int32, y = x_103 + Int32.ofInt 1 := ⟨_, rfl⟩
          have h_123 : rg x_122 1 32 := rg_of_eq ex_122 (rg_add h_120 (rg_k (Int32.ofInt 1) 1 rfl) (by decide))
          refine lv_iinc (v := x_122) (lv' := [(2, .int x_122), (0, .ref a0), (1, .int a1)]) hx hb dX11_fill_12 hl (k := 2) rfl ex_122.symm (by decide) rfl (fun ls hl => ?_)
          refine lv_goto (tgt := 2) hx hb dX11_fill_15 (by decide) ?_
          exact ih_115 x_122 r_121 _ _ _ (rg_w h_123 (by decide)) (ms_up 1 hm_112 ex_122 rfl (by decide) h_120 (by decide) (by decide)) hG hP hD hS (lv_sub hl [1, 2, 0] rfl)
    exact L_114 _ (0 : Int32) ri _ _ _ (rg_w (rg_k (0 : Int32) 0 rfl) (by decide)) (Nat.lt_succ_self _) hG hP hD hS (lv_sub hl [1, 2, 0] rfl)
  exact go _ _ _ hP hD hS hl

set_option maxHeartbeats 4000000 in
set_option maxRecDepth 100000 in
theorem s_X2_measure (l : Launch) (D : va_G) (t : pq_T) (σ : pq_S) (I : Nat → Nat → Int32) (J : Nat → Nat → Int64) (ri : Nat → Nat → Int32) (rj : Nat → Nat → Int64) (rq : Nat → Nat → Option Nat) (sz : Nat) (tg : Nat → Nat) (hSH : SH σ tg) (hG0 : GS tg σ I ri rq) (this : Nat) (a0 : Int32) (hL_this : this ∈ σ.1) (hK_this : σ.2.1 this = 2) (h_a0 : rg a0 0 20) : MetV l yX2_measure (wa yX2_measure cX2_measure 4 none) ({ frames := 0, cells := 0, slots := 0, locals := 0 }) [.ref this, .int a0] D t σ (I, J, ri, rj, rq) sz 0 0 (fun (u : pq_S × pq_M) => ∃ ri' : Nat → Nat → Int32, u = (σ, I, J, ri', rj, rq) ∧ GX [] tg σ I I ri' rq) := by
  refine Met.ofW (cc := cX2_measure) (maxL := 4) (ret := none) (by decide) rfl ?_
  intro p e s m args below meth c s₁ B hml hv
  obtain ⟨rfl, hsz, hP, hK, hD0, hN⟩ := hv
  have hx := B.exec
  have hb := B.bytes
  have hr := B.returns
  have hts := atoms_spec (ws := (wa yX2_measure cX2_measure 4 none)) B.pre
  have hown : s.vm.findClass RX2 = some m.cls := findClass_of_methodNamed B.named
  have hlocks := B.notSynchronized
  subst hsz
  have hD : va_D (pq_B t σ (I, J, ri, rj, rq) s.heap.size) (pq_P t σ (I, J, ri, rj, rq)) := hD0.self
  generalize hAe : pq_B t σ (I, J, ri, rj, rq) s.heap.size = A at hD ⊢
  have hA : ∀ q : Nat, s.heap.size ≤ q → A q := fun q h => by rw [← hAe]; exact Or.inr h
  have hS : va_S A s.heap s.heap [] := va_S.rf
  have hG : GX [] tg σ I I ri rq := ⟨hG0, fun _ _ _ => rfl⟩
  have hl := lv_entry ([.ref this, .int a0]) (n := 4) (Nat.le_of_ble_eq_true rfl)
  rw [lg_entry_eq]
  generalize (lg_sl ([.ref this, .int a0]) ++ List.replicate (4 - (lg_sl ([.ref this, .int a0])).length) Slot.unset).toArray = ls at hl ⊢
  have hl : lv_has ls 4 [(0, .ref this), (1, .int a0)] := hl
  refine q_gen (fun Q hQ => ?_)
  have go : ∀ (H : Heap) (locs : List Loc) (ls : Array Slot), va_P D vwCl (pq_P t σ (I, J, ri, rj, rq)) H → va_D A (pq_P t σ (I, J, ri, rj, rq)) → va_S A s.heap H locs → lv_has ls 4 [(0, .ref this), (1, .int a0)] → W p l e ({ frames := 0, cells := 0, slots := 0, locals := 0 } : Room) s m (List.toArray ([.ref this, .int a0] : List Value)) below meth c H locs 0 0 Q (F0 m 0 ls []) := by
    intro H locs ls hP hD hS hl
    refine lv_iload_n hx hb dX2_measure_0 rfl (lv_at hl 1 rfl) ?_
    refine lv_istore_n (lv' := [(2, .int a0), (0, .ref this), (1, .int a0)]) hx hb dX2_measure_1 rfl hl (by decide) rfl (fun ls hl => ?_)
    refine lv_iconst (v := 0) hx hb dX2_measure_2 (by decide) ?_
    refine lv_istore_n (lv' := [(3, .int 0), (2, .int a0), (0, .ref this), (1, .int a0)]) hx hb dX2_measure_3 rfl hl (by decide) rfl (fun ls hl => ?_)
    have L_1352 : ∀ (n_1351 : Nat) (x_1236 : Int32) (x_1237 : Int32) (ri_1238 : Nat → Nat → Int32) (H : Heap) (locs : List Loc) (ls : Array Slot), rg x_1236 0 20 → rg x_1237 0 21 → (21 - (x_1237).toInt).toNat < n_1351 → GX [] tg σ I I ri_1238 rq → va_P D vwCl (pq_P t σ (I, J, ri_1238, rj, rq)) H → va_D A (pq_P t σ (I, J, ri_1238, rj, rq)) → va_S A s.heap H locs → lv_has ls 4 [(0, .ref this), (1, .int a0), (2, .int x_1236), (3, .int x_1237)] → W p l e ({ frames := 0, cells := 0, slots := 0, locals := 0 } : Room) s m (List.toArray ([.ref this, .int a0] : List Value)) below meth c H locs 0 0 Q (F0 m 4 ls []) := by
      intro n_1351
      induction n_1351 with
      | zero => intro x_1236 x_1237 ri_1238 H locs ls h_1356 h_1357 hm_1350 hG hP hD hS hl; exact absurd hm_1350 (Nat.not_lt_zero _)
      | succ n_1351 ih_1353 =>
        intro x_1236 x_1237 ri_1238 H locs ls h_1356 h_1357 hm_1350 hG hP hD hS hl
        refine lv_iload_n hx hb dX2_measure_4 rfl (lv_at hl 3 rfl) ?_
        refine lv_iload_n hx hb dX2_measure_5 rfl (lv_at hl 1 rfl) ?_
        refine lv_icmp_gt (tgt := 54) hx hb dX2_measure_6 (by decide) (fun c_1358 => ?_) (fun c_1358 => ?_)
        · have h_1359 : rg x_1237 1 21 := rg_lt2 c_1358 h_a0 h_1357 (by decide)
          subst hQ
          exact W.vret hx hb hr (fun t1 ht hW => ⟨⟨(σ, I, J, ri_1238, rj, rq), rfl, ⟨ri_1238, rfl, hG⟩, by rw [ht]; exact hP, va_K.moved hW.alike hK, hD⟩, hS.F ht⟩) hS.2.2 dX2_measure_54
        · have h_1360 : rg x_1237 0 20 := rg_le1 (nlt c_1358) h_1357 h_a0 (by decide)
          refine lv_iload_n hx hb dX2_measure_9 rfl (lv_at hl 3 rfl) ?_
          refine lv_aload_n hx hb dX2_measure_10 rfl (lv_at hl 0 rfl) ?_
          obtain ⟨w_1361, hR_w_1361, hL_w_1361, hK_w_1361, hN_w_1361, hT_w_1361⟩ := sh_a hSH 83 (ci := 2) (kd := 13) (len := 21) rfl (by decide) hL_this hK_this
          refine pg_f (v := .ref w_1361) (C := RX2) (T := TX2) (N := 20) hx hb hts (tw_i inlX2) hown hK hP hL_this hK_this (by decide) rfl 19 (by decide) (hts _ (tw_c tw_100)) (pq_hv rfl hR_w_1361) dX2_measure_11 ?_
          refine pn_i (v := 21) hx hb hK hP hL_w_1361 hK_w_1361 hN_w_1361 (by decide) dX2_measure_14 ?_
          refine lv_icmp_ge (tgt := 54) hx hb dX2_measure_15 (by decide) (fun c_1362 => ?_) (fun c_1362 => ?_)
          · exact (rg_empty (rg_le2 c_1362 (rg_k (21 : Int32) 21 rfl) h_1360 (lo := 21) (hi := 20) (by decide)) (by decide)).elim
          · have L_1447 : ∀ (n_1446 : Nat) (x_1424 : Int32) (H : Heap) (locs : List Loc) (ls : Array Slot), rg x_1424 0 20 → ((x_1424).toInt - 0).toNat < n_1446 → GX [] tg σ I I ri_1238 rq → va_P D vwCl (pq_P t σ (I, J, ri_1238, rj, rq)) H → va_D A (pq_P t σ (I, J, ri_1238, rj, rq)) → va_S A s.heap H locs → lv_has ls 4 [(0, .ref this), (1, .int a0), (2, .int x_1424), (3, .int x_1237)] → W p l e ({ frames := 0, cells := 0, slots := 0, locals := 0 } : Room) s m (List.toArray ([.ref this, .int a0] : List Value)) below meth c H locs 0 0 Q (F0 m 18 ls []) := by
              intro n_1446
              induction n_1446 with
              | zero => intro x_1424 H locs ls h_1450 hm_1445 hG hP hD hS hl; exact absurd hm_1445 (Nat.not_lt_zero _)
              | succ n_1446 ih_1448 =>
                intro x_1424 H locs ls h_1450 hm_1445 hG hP hD hS hl
                refine lv_iload_n hx hb dX2_measure_18 rfl (lv_at hl 2 rfl) ?_
                have K_1470 : ∀  (H : Heap) (locs : List Loc) (ls : Array Slot), GX [] tg σ I I ri_1238 rq → va_P D vwCl (pq_P t σ (I, J, ri_1238, rj, rq)) H → va_D A (pq_P t σ (I, J, ri_1238, rj, rq)) → va_S A s.heap H locs → lv_has ls 4 [(0, .ref this), (1, .int a0), (2, .int x_1424), (3, .int x_1237)] → W p l e ({ frames := 0, cells := 0, slots := 0, locals := 0 } : Room) s m (List.toArray ([.ref this, .int a0] : List Value)) below meth c H locs 0 0 Q (F0 m 41 ls []) := by
                  intro H locs ls hG hP hD hS hl
                  refine lv_aload_n hx hb dX2_measure_41 rfl (lv_at hl 0 rfl) ?_
                  refine pg_f (v := .ref w_1361) (C := RX2) (T := TX2) (N := 20) hx hb hts (tw_i inlX2) hown hK hP hL_this hK_this (by decide) rfl 19 (by decide) (hts _ (tw_c tw_100)) (pq_hv rfl hR_w_1361) dX2_measure_42 ?_
                  refine lv_iload_n hx hb dX2_measure_45 rfl (lv_at hl 3 rfl) ?_
                  refine lv_iload_n hx hb dX2_measure_46 rfl (lv_at hl 2 rfl) ?_
                  refine pt_i hx hb hK hP hD hS hL_w_1361 hK_w_1361 hN_w_1361 (rg_in h_1360 (by decide)) dX2_measure_47 (fun r_1471 H locs er_1471 hP hD hS => ?_)
                  have hG := GX.wR hG hSH hT_w_1361 rfl er_1471 (rg_w h_1450 (by decide)) (by decide)
                  obtain ⟨x_1472, ex_1472⟩ : ∃ y : Int32, y = x_1237 + Int32.ofInt 1 := ⟨_, rfl⟩
                  have h_1473 : rg x_1472 1 21 := rg_of_eq ex_1472 (rg_add h_1360 (rg_k (Int32.ofInt 1) 1 rfl) (by decide))
                  refine lv_iinc (v := x_1472) (lv' := [(3, .int x_1472), (0, .ref this), (1, .int a0), (2, .int x_1424)]) hx hb dX2_measure_48 hl (k := 3) rfl ex_1472.symm (by decide) rfl (fun ls hl => ?_)
                  refine lv_goto (tgt := 4) hx hb dX2_measure_51 (by decide) ?_
                  exact ih_1353 x_1424 x_1472 r_1471 _ _ _ (rg_w h_1450 (by decide)) (rg_w h_1473 (by decide)) (ms_up 1 hm_1350 ex_1472 rfl (by decide) h_1360 (by decide) (by decide)) hG hP hD hS (lv_sub hl [1, 2, 3, 0] rfl)
                refine lv_if_le (tgt := 41) hx hb dX2_measure_19 (by decide) (fun c_1474 => ?_) (fun c_1474 => ?_)
                · have h_1475 : rg x_1424 0 0 := rg_le1 c_1474 h_1450 (rg_k (0 : Int32) 0 rfl) (by decide)
                  exact K_1470 _ _ _ hG hP hD hS (lv_sub hl [0, 1, 2, 3] rfl)
                · have h_1476 : rg x_1424 1 20 := rg_lt2 (nle c_1474) (rg_k (0 : Int32) 0 rfl) h_1450 (by decide)
                  refine lv_iload_n hx hb dX2_measure_22 rfl (lv_at hl 2 rfl) ?_
                  refine lv_iload_n hx hb dX2_measure_23 rfl (lv_at hl 2 rfl) ?_
                  refine lv_imul hx hb dX2_measure_24 ?_
                  refine lv_topi (fun x_1477 ex_1477 => ?_)
                  have h_1478 : rg x_1477 1 400 := rg_of_eq ex_1477 (rg_mul h_1476 h_1476 (by decide))
                  refine lv_iload_n hx hb dX2_measure_25 rfl (lv_at hl 3 rfl) ?_
                  refine lv_iload_n hx hb dX2_measure_26 rfl (lv_at hl 3 rfl) ?_
                  refine lv_imul hx hb dX2_measure_27 ?_
                  refine lv_topi (fun x_1479 ex_1479 => ?_)
                  have h_1480 : rg x_1479 0 400 := rg_of_eq ex_1479 (rg_mul h_1360 h_1360 (by decide))
                  refine lv_iadd hx hb dX2_measure_28 ?_
                  refine lv_topi (fun x_1481 ex_1481 => ?_)
                  have h_1482 : rg x_1481 1 800 := rg_of_eq ex_1481 (rg_add h_1478 h_1480 (by decide))
                  refine lv_iload_n hx hb dX2_measure_29 rfl (lv_at hl 1 rfl) ?_
                  refine lv_iload_n hx hb dX2_measure_30 rfl (lv_at hl 1 rfl) ?_
                  refine lv_imul hx hb dX2_measure_31 ?_
                  refine lv_topi (fun x_1483 ex_1483 => ?_)
                  have h_1484 : rg x_1483 0 400 := rg_of_eq ex_1483 (rg_mul h_a0 h_a0 (by decide))
                  refine lv_icmp_le (tgt := 41) hx hb dX2_measure_32 (by decide) (fun c_1485 => ?_) (fun c_1485 => ?_)
                  · have h_1486 : rg x_1481 1 400 := rg_le1 c_1485 h_1482 h_1484 (by decide)
                    have h_1487 : rg x_1483 1 400 := rg_le2 c_1485 h_1482 h_1484 (by decide)
                    exact K_1470 _ _ _ hG hP hD hS (lv_sub hl [0, 1, 2, 3] rfl)
                  · obtain ⟨x_1488, ex_1488⟩ : ∃ y : Int32, y = x_1424 + Int32.ofInt (-1) := ⟨_, rfl⟩
                    have h_1489 : rg x_1488 0 19 := rg_of_eq ex_1488 (rg_add h_1476 (rg_k (Int32.ofInt (-1)) (-1) rfl) (by decide))
                    refine lv_iinc (v := x_1488) (lv' := [(2, .int x_1488), (0, .ref this), (1, .int a0), (3, .int x_1237)]) hx hb dX2_measure_35 hl (k := 2) rfl ex_1488.symm (by decide) rfl (fun ls hl => ?_)
                    refine lv_goto (tgt := 18) hx hb dX2_measure_38 (by decide) ?_
                    exact ih_1448 x_1488 _ _ _ (rg_w h_1489 (by decide)) (ms_dn 1 hm_1445 ex_1488 rfl (by decide) h_1476 (by decide) (by decide)) hG hP hD hS (lv_sub hl [1, 2, 0, 3] rfl)
            exact L_1447 _ x_1236 _ _ _ (rg_w h_1356 (by decide)) (Nat.lt_succ_self _) hG hP hD hS (lv_sub hl [0, 1, 2, 3] rfl)
    exact L_1352 _ a0 (0 : Int32) ri _ _ _ (rg_w h_a0 (by decide)) (rg_w (rg_k (0 : Int32) 0 rfl) (by decide)) (Nat.lt_succ_self _) hG hP hD hS (lv_sub hl [2, 3, 1, 0] rfl)
  exact go _ _ _ hP hD hS hl

set_option maxHeartbeats 4000000 in
set_option maxRecDepth 100000 in
theorem s_J6_bitCount_0f7a4 (l : Launch) (D : va_G) (t : pq_T) (σ : pq_S) (I : Nat → Nat → Int32) (J : Nat → Nat → Int64) (ri : Nat → Nat → Int32) (rj : Nat → Nat → Int64) (rq : Nat → Nat → Option Nat) (sz : Nat) (tg : Nat → Nat) (hSH : SH σ tg) (hG0 : GS tg σ I ri rq) (a0 : Int32) : MetI l yJ6_bitCount_0f7a4 (wa yJ6_bitCount_0f7a4 cJ6_bitCount_0f7a4 1 (some .int)) ({ frames := 0, cells := 0, slots := 0, locals := 0 }) [.int a0] D t σ (I, J, ri, rj, rq) sz 0 0 (fun (r : Int32) (u : pq_S × pq_M) => u = (σ, I, J, ri, rj, rq)) := by
  refine Met.ofW (cc := cJ6_bitCount_0f7a4) (maxL := 1) (ret := (some .int)) (by decide) rfl ?_
  intro p e s m args below meth c s₁ B hml hv
  obtain ⟨rfl, hsz, hP, hK, hD0, hN⟩ := hv
  have hx := B.exec
  have hb := B.bytes
  have hr := B.returns
  have hts := atoms_spec (ws := (wa yJ6_bitCount_0f7a4 cJ6_bitCount_0f7a4 1 (some .int))) B.pre
  have hown : s.vm.findClass RJ6 = some m.cls := findClass_of_methodNamed B.named
  have hlocks := B.notSynchronized
  subst hsz
  have hD : va_D (pq_B t σ (I, J, ri, rj, rq) s.heap.size) (pq_P t σ (I, J, ri, rj, rq)) := hD0.self
  generalize hAe : pq_B t σ (I, J, ri, rj, rq) s.heap.size = A at hD ⊢
  have hA : ∀ q : Nat, s.heap.size ≤ q → A q := fun q h => by rw [← hAe]; exact Or.inr h
  have hS : va_S A s.heap s.heap [] := va_S.rf
  have hG : GX [] tg σ I I ri rq := ⟨hG0, fun _ _ _ => rfl⟩
  have hl := lv_entry ([.int a0]) (n := 1) (Nat.le_of_ble_eq_true rfl)
  rw [lg_entry_eq]
  generalize (lg_sl ([.int a0]) ++ List.replicate (1 - (lg_sl ([.int a0])).length) Slot.unset).toArray = ls at hl ⊢
  have hl : lv_has ls 1 [(0, .int a0)] := hl
  refine q_gen (fun Q hQ => ?_)
  have go : ∀ (H : Heap) (locs : List Loc) (ls : Array Slot), va_P D vwCl (pq_P t σ (I, J, ri, rj, rq)) H → va_D A (pq_P t σ (I, J, ri, rj, rq)) → va_S A s.heap H locs → lv_has ls 1 [(0, .int a0)] → W p l e ({ frames := 0, cells := 0, slots := 0, locals := 0 } : Room) s m (List.toArray ([.int a0] : List Value)) below meth c H locs 0 0 Q (F0 m 0 ls []) := by
    intro H locs ls hP hD hS hl
    refine lv_iload_n hx hb dJ6_bitCount_0f7a4_0 rfl (lv_at hl 0 rfl) ?_
    refine lv_iload_n hx hb dJ6_bitCount_0f7a4_1 rfl (lv_at hl 0 rfl) ?_
    refine lv_iconst (v := 1) hx hb dJ6_bitCount_0f7a4_2 (by decide) ?_
    refine lv_iushr hx hb dJ6_bitCount_0f7a4_3 rfl ?_
    refine lv_topi (fun x_1 ex_1 => ?_)
    refine lv_ldcw hx hb hown (hts _ (tw_c tw_1150)) dJ6_bitCount_0f7a4_4 ?_
    refine lv_iand hx hb dJ6_bitCount_0f7a4_7 ?_
    refine lv_topi (fun x_2 ex_2 => ?_)
    refine lv_isub hx hb dJ6_bitCount_0f7a4_8 ?_
    refine lv_topi (fun x_3 ex_3 => ?_)
    refine lv_istore_n (lv' := [(0, .int x_3)]) hx hb dJ6_bitCount_0f7a4_9 rfl hl (by decide) rfl (fun ls hl => ?_)
    refine lv_iload_n hx hb dJ6_bitCount_0f7a4_10 rfl (lv_at hl 0 rfl) ?_
    refine lv_ldcw hx hb hown (hts _ (tw_c tw_1151)) dJ6_bitCount_0f7a4_11 ?_
    refine lv_iand hx hb dJ6_bitCount_0f7a4_14 ?_
    refine lv_topi (fun x_4 ex_4 => ?_)
    refine lv_iload_n hx hb dJ6_bitCount_0f7a4_15 rfl (lv_at hl 0 rfl) ?_
    refine lv_iconst (v := 2) hx hb dJ6_bitCount_0f7a4_16 (by decide) ?_
    refine lv_iushr hx hb dJ6_bitCount_0f7a4_17 rfl ?_
    refine lv_topi (fun x_5 ex_5 => ?_)
    refine lv_ldcw hx hb hown (hts _ (tw_c tw_1151)) dJ6_bitCount_0f7a4_18 ?_
    refine lv_iand hx hb dJ6_bitCount_0f7a4_21 ?_
    refine lv_topi (fun x_6 ex_6 => ?_)
    refine lv_iadd hx hb dJ6_bitCount_0f7a4_22 ?_
    refine lv_topi (fun x_7 ex_7 => ?_)
    refine lv_istore_n (lv' := [(0, .int x_7)]) hx hb dJ6_bitCount_0f7a4_23 rfl hl (by decide) rfl (fun ls hl => ?_)
    refine lv_iload_n hx hb dJ6_bitCount_0f7a4_24 rfl (lv_at hl 0 rfl) ?_
    refine lv_iload_n hx hb dJ6_bitCount_0f7a4_25 rfl (lv_at hl 0 rfl) ?_
    refine lv_iconst (v := 4) hx hb dJ6_bitCount_0f7a4_26 (by decide) ?_
    refine lv_iushr hx hb dJ6_bitCount_0f7a4_27 rfl ?_
    refine lv_topi (fun x_8 ex_8 => ?_)
    refine lv_iadd hx hb dJ6_bitCount_0f7a4_28 ?_
    refine lv_topi (fun x_9 ex_9 => ?_)
    refine lv_ldcw hx hb hown (hts _ (tw_c tw_1152)) dJ6_bitCount_0f7a4_29 ?_
    refine lv_iand hx hb dJ6_bitCount_0f7a4_32 ?_
    refine lv_topi (fun x_10 ex_10 => ?_)
    refine lv_istore_n (lv' := [(0, .int x_10)]) hx hb dJ6_bitCount_0f7a4_33 rfl hl (by decide) rfl (fun ls hl => ?_)
    refine lv_iload_n hx hb dJ6_bitCount_0f7a4_34 rfl (lv_at hl 0 rfl) ?_
    refine lv_iload_n hx hb dJ6_bitCount_0f7a4_35 rfl (lv_at hl 0 rfl) ?_
    refine lv_bipush (v := 8) hx hb dJ6_bitCount_0f7a4_36 (by decide) ?_
    refine lv_iushr hx hb dJ6_bitCount_0f7a4_38 rfl ?_
    refine lv_topi (fun x_11 ex_11 => ?_)
    refine lv_iadd hx hb dJ6_bitCount_0f7a4_39 ?_
    refine lv_topi (fun x_12 ex_12 => ?_)
    refine lv_istore_n (lv' := [(0, .int x_12)]) hx hb dJ6_bitCount_0f7a4_40 rfl hl (by decide) rfl (fun ls hl => ?_)
    refine lv_iload_n hx hb dJ6_bitCount_0f7a4_41 rfl (lv_at hl 0 rfl) ?_
    refine lv_iload_n hx hb dJ6_bitCount_0f7a4_42 rfl (lv_at hl 0 rfl) ?_
    refine lv_bipush (v := 16) hx hb dJ6_bitCount_0f7a4_43 (by decide) ?_
    refine lv_iushr hx hb dJ6_bitCount_0f7a4_45 rfl ?_
    refine lv_topi (fun x_13 ex_13 => ?_)
    refine lv_iadd hx hb dJ6_bitCount_0f7a4_46 ?_
    refine lv_topi (fun x_14 ex_14 => ?_)
    refine lv_istore_n (lv' := [(0, .int x_14)]) hx hb dJ6_bitCount_0f7a4_47 rfl hl (by decide) rfl (fun ls hl => ?_)
    refine lv_iload_n hx hb dJ6_bitCount_0f7a4_48 rfl (lv_at hl 0 rfl) ?_
    refine lv_bipush (v := 63) hx hb dJ6_bitCount_0f7a4_49 (by decide) ?_
    refine lv_iand hx hb dJ6_bitCount_0f7a4_51 ?_
    refine lv_topi (fun x_15 ex_15 => ?_)
    subst hQ
    exact W.iret (v := x_15) hx hb hr (fun t1 ht hW => ⟨⟨x_15, (σ, I, J, ri, rj, rq), rfl, rfl, by rw [ht]; exact hP, va_K.moved hW.alike hK, hD⟩, hS.F ht⟩) hS.2.2 dJ6_bitCount_0f7a4_52
  exact go _ _ _ hP hD hS hl

set_option maxHeartbeats 4000000 in
set_option maxRecDepth 100000 in
theorem s_X2_mark (l : Launch) (D : va_G) (t : pq_T) (σ : pq_S) (I : Nat → Nat → Int32) (J : Nat → Nat → Int64) (ri : Nat → Nat → Int32) (rj : Nat → Nat → Int64) (rq : Nat → Nat → Option Nat) (sz : Nat) (tg : Nat → Nat) (hSH : SH σ tg) (hG0 : GS tg σ I ri rq) (this : Nat) (a0 : Int32) (a1 : Int32) (a2 : Int32) (hL_this : this ∈ σ.1) (hK_this : σ.2.1 this = 2) (h_a0 : rg a0 0 31) (h_a1 : rg a1 0 31) (h_a2 : rg a2 0 20) : MetV l yX2_mark (wa yX2_mark cX2_mark 10 none) ({ frames := 1, cells := 0, slots := 0, locals := 40 }) [.ref this, .int a0, .int a1, .int a2] D t σ (I, J, ri, rj, rq) sz 0 0 (fun (u : pq_S × pq_M) => ∃ ri' : Nat → Nat → Int32, u = (σ, I, J, ri', rj, rq) ∧ GX [] tg σ I I ri' rq) := by
  refine Met.ofW (cc := cX2_mark) (maxL := 10) (ret := none) (by decide) rfl ?_
  intro p e s m args below meth c s₁ B hml hv
  obtain ⟨rfl, hsz, hP, hK, hD0, hN⟩ := hv
  have hx := B.exec
  have hb := B.bytes
  have hr := B.returns
  have hts := atoms_spec (ws := (wa yX2_mark cX2_mark 10 none)) B.pre
  have hown : s.vm.findClass RX2 = some m.cls := findClass_of_methodNamed B.named
  have hlocks := B.notSynchronized
  subst hsz
  have hD : va_D (pq_B t σ (I, J, ri, rj, rq) s.heap.size) (pq_P t σ (I, J, ri, rj, rq)) := hD0.self
  generalize hAe : pq_B t σ (I, J, ri, rj, rq) s.heap.size = A at hD ⊢
  have hA : ∀ q : Nat, s.heap.size ≤ q → A q := fun q h => by rw [← hAe]; exact Or.inr h
  have hS : va_S A s.heap s.heap [] := va_S.rf
  have hG : GX [] tg σ I I ri rq := ⟨hG0, fun _ _ _ => rfl⟩
  have hl := lv_entry ([.ref this, .int a0, .int a1, .int a2]) (n := 10) (Nat.le_of_ble_eq_true rfl)
  rw [lg_entry_eq]
  generalize (lg_sl ([.ref this, .int a0, .int a1, .int a2]) ++ List.replicate (10 - (lg_sl ([.ref this, .int a0, .int a1, .int a2])).length) Slot.unset).toArray = ls at hl ⊢
  have hl : lv_has ls 10 [(0, .ref this), (1, .int a0), (2, .int a1), (3, .int a2)] := hl
  refine q_gen (fun Q hQ => ?_)
  have go : ∀ (H : Heap) (locs : List Loc) (ls : Array Slot), va_P D vwCl (pq_P t σ (I, J, ri, rj, rq)) H → va_D A (pq_P t σ (I, J, ri, rj, rq)) → va_S A s.heap H locs → lv_has ls 10 [(0, .ref this), (1, .int a0), (2, .int a1), (3, .int a2)] → W p l e ({ frames := 1, cells := 0, slots := 0, locals := 40 } : Room) s m (List.toArray ([.ref this, .int a0, .int a1, .int a2] : List Value)) below meth c H locs 0 0 Q (F0 m 0 ls []) := by
    intro H locs ls hP hD hS hl
    refine lv_iconst (v := 0) hx hb dX2_mark_0 (by decide) ?_
    refine lv_iload_n hx hb dX2_mark_1 rfl (lv_at hl 2 rfl) ?_
    refine lv_iload_n hx hb dX2_mark_2 rfl (lv_at hl 3 rfl) ?_
    refine lv_isub hx hb dX2_mark_3 ?_
    refine lv_topi (fun x_1 ex_1 => ?_)
    have h_2 : rg x_1 (-20) 31 := rg_of_eq ex_1 (rg_sub h_a1 h_a2 (by decide))
    refine va_mmax hx hb (hml.trans hl.1.symm) hown (hts _ (tw_c tw_1064)) (hts _ (tw_c tw_275)) (hts _ (tw_c tw_276)) (hts _ (tw_c tw_277)) (Nat.le_of_ble_eq_true rfl) (Nat.le_of_ble_eq_true rfl) (Nat.zero_le _) (Nat.zero_le _) dX2_mark_4 ?_
    refine lv_topi (fun x_3 ex_3 => ?_)
    have h_4 : rg x_3 0 31 := rg_of_eq ex_3 (rg_max2 (rg_k (0 : Int32) 0 rfl) h_2 (by decide))
    refine lv_istore (lv' := [(4, .int x_3), (0, .ref this), (1, .int a0), (2, .int a1), (3, .int a2)]) hx hb dX2_mark_7 hl (by decide) rfl (fun ls hl => ?_)
    refine lv_bipush (v := 31) hx hb dX2_mark_9 (by decide) ?_
    refine lv_iload_n hx hb dX2_mark_11 rfl (lv_at hl 3 rfl) ?_
    refine lv_iload_n hx hb dX2_mark_12 rfl (lv_at hl 4 rfl) ?_
    refine lv_iadd hx hb dX2_mark_13 ?_
    refine lv_topi (fun x_5 ex_5 => ?_)
    have h_6 : rg x_5 0 51 := rg_of_eq ex_5 (rg_add h_a1 h_a2 (by decide))
    refine va_mmin hx hb (hml.trans hl.1.symm) hown (hts _ (tw_c tw_1063)) (hts _ (tw_c tw_467)) (hts _ (tw_c tw_276)) (hts _ (tw_c tw_468)) (Nat.le_of_ble_eq_true rfl) (Nat.le_of_ble_eq_true rfl) (Nat.zero_le _) (Nat.zero_le _) dX2_mark_14 ?_
    refine lv_topi (fun x_7 ex_7 => ?_)
    have h_8 : rg x_7 0 31 := rg_of_eq ex_7 (rg_min2 (rg_k (31 : Int32) 31 rfl) h_6 (by decide))
    refine lv_istore (lv' := [(5, .int x_7), (4, .int x_3), (0, .ref this), (1, .int a0), (2, .int a1), (3, .int a2)]) hx hb dX2_mark_17 hl (by decide) rfl (fun ls hl => ?_)
    refine lv_iload hx hb dX2_mark_19 (lv_at hl 1 rfl) ?_
    refine lv_istore (lv' := [(6, .int x_3), (5, .int x_7), (4, .int x_3), (0, .ref this), (1, .int a0), (2, .int a1), (3, .int a2)]) hx hb dX2_mark_21 hl (by decide) rfl (fun ls hl => ?_)
    have L_260 : ∀ (n_259 : Nat) (x_222 : Int32) (ri_223 : Nat → Nat → Int32) (H : Heap) (locs : List Loc) (ls : Array Slot), rg x_222 0 32 → (32 - (x_222).toInt).toNat < n_259 → GX [] tg σ I I ri_223 rq → va_P D vwCl (pq_P t σ (I, J, ri_223, rj, rq)) H → va_D A (pq_P t σ (I, J, ri_223, rj, rq)) → va_S A s.heap H locs → lv_has ls 10 [(0, .ref this), (1, .int a0), (2, .int a1), (5, .int x_7), (6, .int x_222)] → W p l e ({ frames := 1, cells := 0, slots := 0, locals := 40 } : Room) s m (List.toArray ([.ref this, .int a0, .int a1, .int a2] : List Value)) below meth c H locs 0 0 Q (F0 m 23 ls []) := by
      intro n_259
      induction n_259 with
      | zero => intro x_222 ri_223 H locs ls h_263 hm_258 hG hP hD hS hl; exact absurd hm_258 (Nat.not_lt_zero _)
      | succ n_259 ih_261 =>
        intro x_222 ri_223 H locs ls h_263 hm_258 hG hP hD hS hl
        refine lv_iload hx hb dX2_mark_23 (lv_at hl 4 rfl) ?_
        refine lv_iload hx hb dX2_mark_25 (lv_at hl 3 rfl) ?_
        refine lv_icmp_gt (tgt := 108) hx hb dX2_mark_27 (by decide) (fun c_264 => ?_) (fun c_264 => ?_)
        · have h_265 : rg x_222 1 32 := rg_lt2 c_264 h_8 h_263 (by decide)
          subst hQ
          exact W.vret hx hb hr (fun t1 ht hW => ⟨⟨(σ, I, J, ri_223, rj, rq), rfl, ⟨ri_223, rfl, hG⟩, by rw [ht]; exact hP, va_K.moved hW.alike hK, hD⟩, hS.F ht⟩) hS.2.2 dX2_mark_108
        · have h_266 : rg x_222 0 31 := rg_le1 (nlt c_264) h_263 h_8 (by decide)
          refine lv_iload hx hb dX2_mark_30 (lv_at hl 4 rfl) ?_
          refine lv_iload_n hx hb dX2_mark_32 rfl (lv_at hl 2 rfl) ?_
          refine lv_isub hx hb dX2_mark_33 ?_
          refine lv_topi (fun x_267 ex_267 => ?_)
          have h_268 : rg x_267 (-31) 31 := rg_of_eq ex_267 (rg_sub h_266 h_a1 (by decide))
          refine va_mabs hx hb (hml.trans hl.1.symm) hown (hts _ (tw_c tw_1146)) (hts _ (tw_c tw_484)) (hts _ (tw_c tw_276)) (hts _ (tw_c tw_485)) (Nat.le_of_ble_eq_true rfl) (Nat.le_of_ble_eq_true rfl) (Nat.zero_le _) (Nat.zero_le _) dX2_mark_34 ?_
          refine lv_topi (fun x_269 ex_269 => ?_)
          have h_270 : rg x_269 0 31 := rg_of_eq ex_269 (rg_abs h_268 (by decide))
          refine lv_istore (lv' := [(7, .int x_269), (0, .ref this), (1, .int a0), (2, .int a1), (5, .int x_7), (6, .int x_222)]) hx hb dX2_mark_37 hl (by decide) rfl (fun ls hl => ?_)
          refine lv_iload hx hb dX2_mark_39 (lv_at hl 0 rfl) ?_
          refine lv_aload_n hx hb dX2_mark_41 rfl (lv_at hl 1 rfl) ?_
          obtain ⟨w_271, hR_w_271, hL_w_271, hK_w_271, hN_w_271, hT_w_271⟩ := sh_a hSH 83 (ci := 2) (kd := 13) (len := 21) rfl (by decide) hL_this hK_this
          refine pg_f (v := .ref w_271) (C := RX2) (T := TX2) (N := 20) hx hb hts (tw_i inlX2) hown hK hP hL_this hK_this (by decide) rfl 19 (by decide) (hts _ (tw_c tw_100)) (pq_hv rfl hR_w_271) dX2_mark_42 ?_
          refine pn_i (v := 21) hx hb hK hP hL_w_271 hK_w_271 hN_w_271 (by decide) dX2_mark_45 ?_
          have K_297 : ∀  (ri_294 : Nat → Nat → Int32) (H : Heap) (locs : List Loc) (ls : Array Slot), GX [] tg σ I I ri_294 rq → va_P D vwCl (pq_P t σ (I, J, ri_294, rj, rq)) H → va_D A (pq_P t σ (I, J, ri_294, rj, rq)) → va_S A s.heap H locs → lv_has ls 10 [(0, .ref this), (1, .int a0), (2, .int a1), (5, .int x_7), (6, .int x_222)] → W p l e ({ frames := 1, cells := 0, slots := 0, locals := 40 } : Room) s m (List.toArray ([.ref this, .int a0, .int a1, .int a2] : List Value)) below meth c H locs 0 0 Q (F0 m 102 ls []) := by
            intro ri_294 H locs ls hG hP hD hS hl
            obtain ⟨x_298, ex_298⟩ : ∃ y : Int32, y = x_222 + Int32.ofInt 1 := ⟨_, rfl⟩
            have h_299 : rg x_298 1 32 := rg_of_eq ex_298 (rg_add h_266 (rg_k (Int32.ofInt 1) 1 rfl) (by decide))
            refine lv_iinc (v := x_298) (lv' := [(6, .int x_298), (0, .ref this), (1, .int a0), (2, .int a1), (5, .int x_7)]) hx hb dX2_mark_102 hl (k := 4) rfl ex_298.symm (by decide) rfl (fun ls hl => ?_)
            refine lv_goto (tgt := 23) hx hb dX2_mark_105 (by decide) ?_
            exact ih_261 x_298 ri_294 _ _ _ (rg_w h_299 (by decide)) (ms_up 1 hm_258 ex_298 rfl (by decide) h_266 (by decide) (by decide)) hG hP hD hS (lv_sub hl [1, 2, 3, 4, 0] rfl)
          refine lv_icmp_ge (tgt := 102) hx hb dX2_mark_46 (by decide) (fun c_300 => ?_) (fun c_300 => ?_)
          · have h_301 : rg x_269 21 31 := rg_le2 c_300 (rg_k (21 : Int32) 21 rfl) h_270 (by decide)
            exact K_297 ri_223 _ _ _ hG hP hD hS (lv_sub hl [1, 2, 3, 4, 5] rfl)
          · have h_302 : rg x_269 0 20 := rg_lt1 (nle c_300) h_270 (rg_k (21 : Int32) 21 rfl) (by decide)
            refine lv_iconst (v := 0) hx hb dX2_mark_49 (by decide) ?_
            refine lv_iload_n hx hb dX2_mark_50 rfl (lv_at hl 2 rfl) ?_
            refine lv_aload_n hx hb dX2_mark_51 rfl (lv_at hl 1 rfl) ?_
            refine pg_f (v := .ref w_271) (C := RX2) (T := TX2) (N := 20) hx hb hts (tw_i inlX2) hown hK hP hL_this hK_this (by decide) rfl 19 (by decide) (hts _ (tw_c tw_100)) (pq_hv rfl hR_w_271) dX2_mark_52 ?_
            refine lv_iload hx hb dX2_mark_55 (lv_at hl 0 rfl) ?_
            refine pl_i hx hb hK hP hL_w_271 hK_w_271 hN_w_271 (rg_in h_302 (by decide)) dX2_mark_57 ?_
            refine lv_topi (fun x_303 ex_303 => ?_)
            have h_304 : rg x_303 0 20 := rg_of_eq ex_303 (GX.rR hG hT_w_271 rfl)
            refine lv_isub hx hb dX2_mark_58 ?_
            refine lv_topi (fun x_305 ex_305 => ?_)
            have h_306 : rg x_305 (-20) 31 := rg_of_eq ex_305 (rg_sub h_a0 h_304 (by decide))
            refine va_mmax hx hb (hml.trans hl.1.symm) hown (hts _ (tw_c tw_1064)) (hts _ (tw_c tw_275)) (hts _ (tw_c tw_276)) (hts _ (tw_c tw_277)) (Nat.le_of_ble_eq_true rfl) (Nat.le_of_ble_eq_true rfl) (Nat.zero_le _) (Nat.zero_le _) dX2_mark_59 ?_
            refine lv_topi (fun x_307 ex_307 => ?_)
            have h_308 : rg x_307 0 31 := rg_of_eq ex_307 (rg_max2 (rg_k (0 : Int32) 0 rfl) h_306 (by decide))
            refine lv_istore (lv' := [(8, .int x_307), (7, .int x_269), (0, .ref this), (1, .int a0), (2, .int a1), (5, .int x_7), (6, .int x_222)]) hx hb dX2_mark_62 hl (by decide) rfl (fun ls hl => ?_)
            refine lv_bipush (v := 31) hx hb dX2_mark_64 (by decide) ?_
            refine lv_iload_n hx hb dX2_mark_66 rfl (lv_at hl 3 rfl) ?_
            refine lv_aload_n hx hb dX2_mark_67 rfl (lv_at hl 2 rfl) ?_
            refine pg_f (v := .ref w_271) (C := RX2) (T := TX2) (N := 20) hx hb hts (tw_i inlX2) hown hK hP hL_this hK_this (by decide) rfl 19 (by decide) (hts _ (tw_c tw_100)) (pq_hv rfl hR_w_271) dX2_mark_68 ?_
            refine lv_iload hx hb dX2_mark_71 (lv_at hl 1 rfl) ?_
            refine pl_i hx hb hK hP hL_w_271 hK_w_271 hN_w_271 (rg_in h_302 (by decide)) dX2_mark_73 ?_
            refine lv_tov x_303 ex_303.symm ?_
            refine lv_iadd hx hb dX2_mark_74 ?_
            refine lv_topi (fun x_309 ex_309 => ?_)
            have h_310 : rg x_309 0 51 := rg_of_eq ex_309 (rg_add h_a0 h_304 (by decide))
            refine va_mmin hx hb (hml.trans hl.1.symm) hown (hts _ (tw_c tw_1063)) (hts _ (tw_c tw_467)) (hts _ (tw_c tw_276)) (hts _ (tw_c tw_468)) (Nat.le_of_ble_eq_true rfl) (Nat.le_of_ble_eq_true rfl) (Nat.zero_le _) (Nat.zero_le _) dX2_mark_75 ?_
            refine lv_topi (fun x_311 ex_311 => ?_)
            have h_312 : rg x_311 0 31 := rg_of_eq ex_311 (rg_min2 (rg_k (31 : Int32) 31 rfl) h_310 (by decide))
            refine lv_istore (lv' := [(9, .int x_311), (8, .int x_307), (7, .int x_269), (0, .ref this), (1, .int a0), (2, .int a1), (5, .int x_7), (6, .int x_222)]) hx hb dX2_mark_78 hl (by decide) rfl (fun ls hl => ?_)
            refine lv_aload_n hx hb dX2_mark_80 rfl (lv_at hl 3 rfl) ?_
            obtain ⟨w_313, hR_w_313, hL_w_313, hK_w_313, hN_w_313, hT_w_313⟩ := sh_a hSH 82 (ci := 2) (kd := 13) (len := 32) rfl (by decide) hL_this hK_this
            refine pg_f (v := .ref w_313) (C := RX2) (T := TX2) (N := 20) hx hb hts (tw_i inlX2) hown hK hP hL_this hK_this (by decide) rfl 18 (by decide) (hts _ (tw_c tw_99)) (pq_hv rfl hR_w_313) dX2_mark_81 ?_
            refine lv_iload hx hb dX2_mark_84 (lv_at hl 7 rfl) ?_
            refine lv_dup2_11 hx hb dX2_mark_86 rfl rfl ?_
            refine pl_i hx hb hK hP hL_w_313 hK_w_313 hN_w_313 (rg_in h_266 (by decide)) dX2_mark_87 ?_
            refine lv_topi (fun x_314 ex_314 => ?_)
            refine lv_iconst (v := (-1)) hx hb dX2_mark_88 (by decide) ?_
            refine lv_iload hx hb dX2_mark_89 (lv_at hl 1 rfl) ?_
            refine lv_ishl hx hb dX2_mark_91 ?_
            refine lv_topi (fun x_315 ex_315 => ?_)
            refine lv_iconst (v := (-1)) hx hb dX2_mark_92 (by decide) ?_
            refine lv_bipush (v := 31) hx hb dX2_mark_93 (by decide) ?_
            refine lv_iload hx hb dX2_mark_95 (lv_at hl 0 rfl) ?_
            refine lv_isub hx hb dX2_mark_97 ?_
            refine lv_topi (fun x_316 ex_316 => ?_)
            have h_317 : rg x_316 0 31 := rg_of_eq ex_316 (rg_sub (rg_k (31 : Int32) 31 rfl) h_312 (by decide))
            refine lv_iushr hx hb dX2_mark_98 rfl ?_
            refine lv_topi (fun x_318 ex_318 => ?_)
            refine lv_iand hx hb dX2_mark_99 ?_
            refine lv_topi (fun x_319 ex_319 => ?_)
            refine lv_ior hx hb dX2_mark_100 ?_
            refine lv_topi (fun x_320 ex_320 => ?_)
            refine pt_i hx hb hK hP hD hS hL_w_313 hK_w_313 hN_w_313 (rg_in h_266 (by decide)) dX2_mark_101 (fun r_321 H locs er_321 hP hD hS => ?_)
            have hG := GX.wR hG hSH hT_w_313 rfl er_321 (rg_w (rg_full _) (by decide)) (by decide)
            exact K_297 r_321 _ _ _ hG hP hD hS (lv_sub hl [3, 4, 5, 6, 7] rfl)
    exact L_260 _ x_3 ri _ _ _ (rg_w h_4 (by decide)) (Nat.lt_succ_self _) hG hP hD hS (lv_sub hl [3, 4, 5, 1, 0] rfl)
  exact go _ _ _ hP hD hS hl

set_option maxHeartbeats 4000000 in
set_option maxRecDepth 100000 in
theorem s_X2_countArea (l : Launch) (D : va_G) (t : pq_T) (σ : pq_S) (I : Nat → Nat → Int32) (J : Nat → Nat → Int64) (ri : Nat → Nat → Int32) (rj : Nat → Nat → Int64) (rq : Nat → Nat → Option Nat) (sz : Nat) (tg : Nat → Nat) (hSH : SH σ tg) (hG0 : GS tg σ I ri rq) (this : Nat) (a0 : Int64) (a1 : Int32) (hL_this : this ∈ σ.1) (hK_this : σ.2.1 this = 2) (h_a1 : rg a1 0 20) : MetI l yX2_countArea (wa yX2_countArea cX2_countArea 6 (some .int)) ({ frames := 2, cells := 0, slots := 0, locals := 69 }) [.ref this, .long a0, .int a1] D t σ (I, J, ri, rj, rq) sz 0 0 (fun (r : Int32) (u : pq_S × pq_M) => ∃ ri' : Nat → Nat → Int32, u = (σ, I, J, ri', rj, rq) ∧ GX [] tg σ I I ri' rq) := by
  refine Met.ofW (cc := cX2_countArea) (maxL := 6) (ret := (some .int)) (by decide) rfl ?_
  intro p e s m args below meth c s₁ B hml hv
  obtain ⟨rfl, hsz, hP, hK, hD0, hN⟩ := hv
  have hx := B.exec
  have hb := B.bytes
  have hr := B.returns
  have hts := atoms_spec (ws := (wa yX2_countArea cX2_countArea 6 (some .int))) B.pre
  have hown : s.vm.findClass RX2 = some m.cls := findClass_of_methodNamed B.named
  have hlocks := B.notSynchronized
  subst hsz
  have hD : va_D (pq_B t σ (I, J, ri, rj, rq) s.heap.size) (pq_P t σ (I, J, ri, rj, rq)) := hD0.self
  generalize hAe : pq_B t σ (I, J, ri, rj, rq) s.heap.size = A at hD ⊢
  have hA : ∀ q : Nat, s.heap.size ≤ q → A q := fun q h => by rw [← hAe]; exact Or.inr h
  have hS : va_S A s.heap s.heap [] := va_S.rf
  have hG : GX [] tg σ I I ri rq := ⟨hG0, fun _ _ _ => rfl⟩
  have hl := lv_entry ([.ref this, .long a0, .int a1]) (n := 6) (Nat.le_of_ble_eq_true rfl)
  rw [lg_entry_eq]
  generalize (lg_sl ([.ref this, .long a0, .int a1]) ++ List.replicate (6 - (lg_sl ([.ref this, .long a0, .int a1])).length) Slot.unset).toArray = ls at hl ⊢
  have hl : lv_has ls 6 [(0, .ref this), (1, .long a0), (3, .int a1)] := hl
  refine q_gen (fun Q hQ => ?_)
  have go : ∀ (H : Heap) (locs : List Loc) (ls : Array Slot), va_P D vwCl (pq_P t σ (I, J, ri, rj, rq)) H → va_D A (pq_P t σ (I, J, ri, rj, rq)) → va_S A s.heap H locs → lv_has ls 6 [(0, .ref this), (1, .long a0), (3, .int a1)] → W p l e ({ frames := 2, cells := 0, slots := 0, locals := 69 } : Room) s m (List.toArray ([.ref this, .long a0, .int a1] : List Value)) below meth c H locs 0 0 Q (F0 m 0 ls []) := by
    intro H locs ls hP hD hS hl
    refine lv_aload_n hx hb dX2_countArea_0 rfl (lv_at hl 0 rfl) ?_
    obtain ⟨w_1, hR_w_1, hL_w_1, hK_w_1, hN_w_1, hT_w_1⟩ := sh_a hSH 82 (ci := 2) (kd := 13) (len := 32) rfl (by decide) hL_this hK_this
    refine pg_f (v := .ref w_1) (C := RX2) (T := TX2) (N := 20) hx hb hts (tw_i inlX2) hown hK hP hL_this hK_this (by decide) rfl 18 (by decide) (hts _ (tw_c tw_99)) (pq_hv rfl hR_w_1) dX2_countArea_1 ?_
    refine lv_iconst (v := 0) hx hb dX2_countArea_4 (by decide) ?_
    refine pk_v (va_runSN (As := [.ref w_1, .int 0]) (rest := []) ⟨hx, hb, hml, hown, hts⟩ (s_X11_fill_82 l D t σ I J ri rj rq H.size tg hSH hG.1 w_1 (0 : Int32) hL_w_1 hK_w_1 hN_w_1 hT_w_1) ⟨va_cnB (host := "RingsUnder") 2 hts (tw_W tw_76) rfl rfl rfl (nl_2 hN) (hts _ (tw_c tw_2)) (by decide +kernel) ⟨Nat.le_of_ble_eq_true rfl, Nat.le_of_ble_eq_true rfl⟩, hts (.static yX11_fill) (by decide +kernel), trivial⟩ ⟨pq_blind, pq_pre hK hN hP hD⟩ rfl rfl hl.1 rfl (lv_room (Nat.le_of_ble_eq_true rfl)) dX2_countArea_5 ⟨Nat.le_of_ble_eq_true rfl, Nat.le_of_ble_eq_true rfl⟩) hD hS hA (fun σ1 μ1 H locs hw_3 hP hD hS => ?_)
    obtain ⟨ri_4, hu_5, hg_6⟩ := hw_3
    obtain ⟨hu_5a, hu_5b⟩ := Prod.mk.inj hu_5
    rw [hu_5a, hu_5b] at hP hD
    have hG := GX.tr hG hg_6 (by decide)
    refine lv_aload_n hx hb dX2_countArea_8 rfl (lv_at hl 0 rfl) ?_
    refine lv_iload_n hx hb dX2_countArea_9 rfl (lv_at hl 2 rfl) ?_
    refine pk_v (va_runV (As := [.int a1]) (rest := []) ⟨hx, hb, hml, hown, hts⟩ (s_X2_measure l D t σ I J ri_4 rj rq H.size tg hSH hG.1 this a1 hL_this hK_this (rg_w h_a1 (by decide))) (cwV 1 hts (tw_V tw_1138 tw_1139 tw_1140 tw_41 tw_1141) rfl rfl rfl (by decide +kernel) ⟨Nat.le_of_ble_eq_true rfl, Nat.le_of_ble_eq_true rfl⟩) ⟨pq_blind, pq_recv hK hP hL_this hK_this (by decide) rfl, pq_pre hK hN hP hD⟩ rfl rfl hl.1 rfl (lv_room (Nat.le_of_ble_eq_true rfl)) dX2_countArea_10 ⟨Nat.le_of_ble_eq_true rfl, Nat.le_of_ble_eq_true rfl⟩) hD hS hA (fun σ1 μ1 H locs hw_9 hP hD hS => ?_)
    obtain ⟨ri_10, hu_11, hg_12⟩ := hw_9
    obtain ⟨hu_11a, hu_11b⟩ := Prod.mk.inj hu_11
    rw [hu_11a, hu_11b] at hP hD
    have hG := GX.tr hG hg_12 (by decide)
    refine lv_iconst (v := 0) hx hb dX2_countArea_13 (by decide) ?_
    refine lv_istore (lv' := [(4, .int 0), (0, .ref this), (1, .long a0), (3, .int a1)]) hx hb dX2_countArea_14 hl (by decide) rfl (fun ls hl => ?_)
    have L_3107 : ∀ (n_3106 : Nat) (x_2867 : Int32) (ri_2868 : Nat → Nat → Int32) (H : Heap) (locs : List Loc) (ls : Array Slot), rg x_2867 0 40 → (40 - (x_2867).toInt).toNat < n_3106 → GX [] tg σ I I ri_2868 rq → va_P D vwCl (pq_P t σ (I, J, ri_2868, rj, rq)) H → va_D A (pq_P t σ (I, J, ri_2868, rj, rq)) → va_S A s.heap H locs → lv_has ls 6 [(0, .ref this), (1, .long a0), (3, .int a1), (4, .int x_2867)] → W p l e ({ frames := 2, cells := 0, slots := 0, locals := 69 } : Room) s m (List.toArray ([.ref this, .long a0, .int a1] : List Value)) below meth c H locs 0 0 Q (F0 m 16 ls []) := by
      intro n_3106
      induction n_3106 with
      | zero => intro x_2867 ri_2868 H locs ls h_3110 hm_3105 hG hP hD hS hl; exact absurd hm_3105 (Nat.not_lt_zero _)
      | succ n_3106 ih_3108 =>
        intro x_2867 ri_2868 H locs ls h_3110 hm_3105 hG hP hD hS hl
        refine lv_iload hx hb dX2_countArea_16 (lv_at hl 3 rfl) ?_
        refine lv_aload_n hx hb dX2_countArea_18 rfl (lv_at hl 0 rfl) ?_
        refine pg_f (v := .int (I 65 this)) (C := RX2) (T := TX2) (N := 20) hx hb hts (tw_i inlX2) hown hK hP hL_this hK_this (by decide) rfl 1 (by decide) (hts _ (tw_c tw_222)) rfl dX2_countArea_19 ?_
        have h_3111 : rg (I 65 this) 0 40 := GX.rI hG 65 rfl
        refine lv_icmp_ge (tgt := 59) hx hb dX2_countArea_22 (by decide) (fun c_3112 => ?_) (fun c_3112 => ?_)
        · refine lv_iconst (v := 0) hx hb dX2_countArea_59 (by decide) ?_
          refine lv_istore (lv' := [(4, .int 0), (0, .ref this), (1, .long a0), (3, .int a1)]) hx hb dX2_countArea_60 hl (by decide) rfl (fun ls hl => ?_)
          refine lv_iconst (v := 0) hx hb dX2_countArea_62 (by decide) ?_
          refine lv_istore (lv' := [(5, .int 0), (4, .int 0), (0, .ref this), (1, .long a0), (3, .int a1)]) hx hb dX2_countArea_63 hl (by decide) rfl (fun ls hl => ?_)
          have L_3307 : ∀ (n_3306 : Nat) (x_3290 : Int32) (x_3291 : Int32) (H : Heap) (locs : List Loc) (ls : Array Slot), rg x_3291 0 32 → (32 - (x_3291).toInt).toNat < n_3306 → GX [] tg σ I I ri_2868 rq → va_P D vwCl (pq_P t σ (I, J, ri_2868, rj, rq)) H → va_D A (pq_P t σ (I, J, ri_2868, rj, rq)) → va_S A s.heap H locs → lv_has ls 6 [(0, .ref this), (4, .int x_3290), (5, .int x_3291)] → W p l e ({ frames := 2, cells := 0, slots := 0, locals := 69 } : Room) s m (List.toArray ([.ref this, .long a0, .int a1] : List Value)) below meth c H locs 0 0 Q (F0 m 65 ls []) := by
            intro n_3306
            induction n_3306 with
            | zero => intro x_3290 x_3291 H locs ls h_3310 hm_3305 hG hP hD hS hl; exact absurd hm_3305 (Nat.not_lt_zero _)
            | succ n_3306 ih_3308 =>
              intro x_3290 x_3291 H locs ls h_3310 hm_3305 hG hP hD hS hl
              refine lv_iload hx hb dX2_countArea_65 (lv_at hl 2 rfl) ?_
              refine lv_bipush (v := 32) hx hb dX2_countArea_67 (by decide) ?_
              refine lv_icmp_ge (tgt := 93) hx hb dX2_countArea_69 (by decide) (fun c_3311 => ?_) (fun c_3311 => ?_)
              · have h_3312 : rg x_3291 32 32 := rg_le2 c_3311 (rg_k (32 : Int32) 32 rfl) h_3310 (by decide)
                refine lv_iload hx hb dX2_countArea_93 (lv_at hl 1 rfl) ?_
                subst hQ
                exact W.iret (v := x_3290) hx hb hr (fun t1 ht hW => ⟨⟨x_3290, (σ, I, J, ri_2868, rj, rq), rfl, ⟨ri_2868, rfl, hG⟩, by rw [ht]; exact hP, va_K.moved hW.alike hK, hD⟩, hS.F ht⟩) hS.2.2 dX2_countArea_95
              · have h_3313 : rg x_3291 0 31 := rg_lt1 (nle c_3311) h_3310 (rg_k (32 : Int32) 32 rfl) (by decide)
                refine lv_iload hx hb dX2_countArea_72 (lv_at hl 1 rfl) ?_
                refine lv_aload_n hx hb dX2_countArea_74 rfl (lv_at hl 0 rfl) ?_
                refine pg_f (v := .ref w_1) (C := RX2) (T := TX2) (N := 20) hx hb hts (tw_i inlX2) hown hK hP hL_this hK_this (by decide) rfl 18 (by decide) (hts _ (tw_c tw_99)) (pq_hv rfl hR_w_1) dX2_countArea_75 ?_
                refine lv_iload hx hb dX2_countArea_78 (lv_at hl 2 rfl) ?_
                refine pl_i hx hb hK hP hL_w_1 hK_w_1 hN_w_1 (rg_in h_3313 (by decide)) dX2_countArea_80 ?_
                refine lv_topi (fun x_3314 ex_3314 => ?_)
                refine pk_i (va_runS (As := [.int x_3314]) (rest := [.int x_3290]) ⟨hx, hb, hml, hown, hts⟩ (s_J6_bitCount_0f7a4 l D t σ I J ri_2868 rj rq H.size tg hSH hG.1 x_3314) (va_cwS 1 hts (tw_S tw_1147 tw_1148 tw_492 tw_1149) rfl rfl rfl (by decide +kernel) ⟨Nat.le_of_ble_eq_true rfl, Nat.le_of_ble_eq_true rfl⟩) ⟨pq_blind, pq_pre hK hN hP hD⟩ rfl rfl hl.1 rfl (lv_room (Nat.le_of_ble_eq_true rfl)) dX2_countArea_81 ⟨Nat.le_of_ble_eq_true rfl, Nat.le_of_ble_eq_true rfl⟩) hD hS hA (fun x_3315 σ1 μ1 H locs hw_3316 hP hD hS => ?_)
                have hu_3317 := hw_3316
                obtain ⟨hu_3317a, hu_3317b⟩ := Prod.mk.inj hu_3317
                rw [hu_3317a, hu_3317b] at hP hD
                refine lv_iadd hx hb dX2_countArea_84 ?_
                refine lv_topi (fun x_3320 ex_3320 => ?_)
                refine lv_istore (lv' := [(4, .int x_3320), (0, .ref this), (5, .int x_3291)]) hx hb dX2_countArea_85 hl (by decide) rfl (fun ls hl => ?_)
                obtain ⟨x_3321, ex_3321⟩ : ∃ y : Int32, y = x_3291 + Int32.ofInt 1 := ⟨_, rfl⟩
                have h_3322 : rg x_3321 1 32 := rg_of_eq ex_3321 (rg_add h_3313 (rg_k (Int32.ofInt 1) 1 rfl) (by decide))
                refine lv_iinc (v := x_3321) (lv' := [(5, .int x_3321), (4, .int x_3320), (0, .ref this)]) hx hb dX2_countArea_87 hl (k := 2) rfl ex_3321.symm (by decide) rfl (fun ls hl => ?_)
                refine lv_goto (tgt := 65) hx hb dX2_countArea_90 (by decide) ?_
                exact ih_3308 x_3320 x_3321 _ _ _ (rg_w h_3322 (by decide)) (ms_up 1 hm_3305 ex_3321 rfl (by decide) h_3313 (by decide) (by decide)) hG hP hD hS (lv_sub hl [2, 1, 0] rfl)
          exact L_3307 _ (0 : Int32) (0 : Int32) _ _ _ (rg_w (rg_k (0 : Int32) 0 rfl) (by decide)) (Nat.lt_succ_self _) hG hP hD hS (lv_sub hl [2, 1, 0] rfl)
        · have h_3323 : rg x_2867 0 39 := rg_lt1 (nle c_3112) h_3110 h_3111 (by decide)
          have h_3324 : rg (I 65 this) 1 40 := rg_lt2 (nle c_3112) h_3110 h_3111 (by decide)
          refine lv_lload_n hx hb dX2_countArea_25 rfl (lv_at hl 1 rfl) ?_
          refine lv_iload hx hb dX2_countArea_26 (lv_at hl 3 rfl) ?_
          refine pk_i (va_runSN (As := [.long a0, .int x_2867]) (rest := []) ⟨hx, hb, hml, hown, hts⟩ (s_X11_hasBit l D t σ I J ri_2868 rj rq H.size tg hSH hG.1 a0 x_2867) ⟨va_cnB (host := "RingsUnder") 2 hts (tw_W tw_560) rfl rfl rfl (nl_11 hN) (hts _ (tw_c tw_2)) (by decide +kernel) ⟨Nat.le_of_ble_eq_true rfl, Nat.le_of_ble_eq_true rfl⟩, hts (.static yX11_hasBit) (by decide +kernel), trivial⟩ ⟨pq_blind, pq_pre hK hN hP hD⟩ rfl rfl hl.1 rfl (lv_room (Nat.le_of_ble_eq_true rfl)) dX2_countArea_28 ⟨Nat.le_of_ble_eq_true rfl, Nat.le_of_ble_eq_true rfl⟩) hD hS hA (fun x_3325 σ1 μ1 H locs hw_3326 hP hD hS => ?_)
          obtain ⟨hu_3327, hr_3329⟩ := hw_3326
          obtain ⟨hu_3327a, hu_3327b⟩ := Prod.mk.inj hu_3327
          rw [hu_3327a, hu_3327b] at hP hD
          have h_3330 : rg x_3325 0 1 := by rcases hr_3329 with ⟨q, -⟩ | ⟨q, -⟩ <;> rw [q] <;> exact ⟨by decide, by decide⟩
          have K_3349 : ∀  (ri_3346 : Nat → Nat → Int32) (H : Heap) (locs : List Loc) (ls : Array Slot), GX [] tg σ I I ri_3346 rq → va_P D vwCl (pq_P t σ (I, J, ri_3346, rj, rq)) H → va_D A (pq_P t σ (I, J, ri_3346, rj, rq)) → va_S A s.heap H locs → lv_has ls 6 [(0, .ref this), (1, .long a0), (3, .int a1), (4, .int x_2867)] → W p l e ({ frames := 2, cells := 0, slots := 0, locals := 69 } : Room) s m (List.toArray ([.ref this, .long a0, .int a1] : List Value)) below meth c H locs 0 0 Q (F0 m 53 ls []) := by
            intro ri_3346 H locs ls hG hP hD hS hl
            obtain ⟨x_3350, ex_3350⟩ : ∃ y : Int32, y = x_2867 + Int32.ofInt 1 := ⟨_, rfl⟩
            have h_3351 : rg x_3350 1 40 := rg_of_eq ex_3350 (rg_add h_3323 (rg_k (Int32.ofInt 1) 1 rfl) (by decide))
            refine lv_iinc (v := x_3350) (lv' := [(4, .int x_3350), (0, .ref this), (1, .long a0), (3, .int a1)]) hx hb dX2_countArea_53 hl (k := 3) rfl ex_3350.symm (by decide) rfl (fun ls hl => ?_)
            refine lv_goto (tgt := 16) hx hb dX2_countArea_56 (by decide) ?_
            exact ih_3108 x_3350 ri_3346 _ _ _ (rg_w h_3351 (by decide)) (ms_up 1 hm_3105 ex_3350 rfl (by decide) h_3323 (by decide) (by decide)) hG hP hD hS (lv_sub hl [1, 2, 3, 0] rfl)
          refine lv_if_eq (tgt := 53) hx hb dX2_countArea_31 (by decide) (fun c_3352 => ?_) (fun c_3352 => ?_)
          · have h_3353 : rg x_3325 0 0 := rg_and h_3330 (rg_of_eq c_3352 (rg_k (0 : Int32) 0 rfl)) (by decide)
            exact K_3349 ri_2868 _ _ _ hG hP hD hS (lv_sub hl [0, 1, 2, 3] rfl)
          · have h_3354 : rg x_3325 1 1 := rg_ne c_3352 h_3330 0 rfl (by decide)
            refine lv_aload_n hx hb dX2_countArea_34 rfl (lv_at hl 0 rfl) ?_
            refine lv_aload_n hx hb dX2_countArea_35 rfl (lv_at hl 0 rfl) ?_
            obtain ⟨w_3355, hR_w_3355, hL_w_3355, hK_w_3355, hN_w_3355, hT_w_3355⟩ := sh_a hSH 71 (ci := 2) (kd := 13) (len := 40) rfl (by decide) hL_this hK_this
            refine pg_f (v := .ref w_3355) (C := RX2) (T := TX2) (N := 20) hx hb hts (tw_i inlX2) hown hK hP hL_this hK_this (by decide) rfl 7 (by decide) (hts _ (tw_c tw_85)) (pq_hv rfl hR_w_3355) dX2_countArea_36 ?_
            refine lv_iload hx hb dX2_countArea_39 (lv_at hl 3 rfl) ?_
            refine pl_i hx hb hK hP hL_w_3355 hK_w_3355 hN_w_3355 (rg_in h_3323 (by decide)) dX2_countArea_41 ?_
            refine lv_topi (fun x_3356 ex_3356 => ?_)
            have h_3357 : rg x_3356 0 31 := rg_of_eq ex_3356 (GX.rR hG hT_w_3355 rfl)
            refine lv_aload_n hx hb dX2_countArea_42 rfl (lv_at hl 0 rfl) ?_
            obtain ⟨w_3358, hR_w_3358, hL_w_3358, hK_w_3358, hN_w_3358, hT_w_3358⟩ := sh_a hSH 72 (ci := 2) (kd := 13) (len := 40) rfl (by decide) hL_this hK_this
            refine pg_f (v := .ref w_3358) (C := RX2) (T := TX2) (N := 20) hx hb hts (tw_i inlX2) hown hK hP hL_this hK_this (by decide) rfl 8 (by decide) (hts _ (tw_c tw_86)) (pq_hv rfl hR_w_3358) dX2_countArea_43 ?_
            refine lv_iload hx hb dX2_countArea_46 (lv_at hl 3 rfl) ?_
            refine pl_i hx hb hK hP hL_w_3358 hK_w_3358 hN_w_3358 (rg_in h_3323 (by decide)) dX2_countArea_48 ?_
            refine lv_topi (fun x_3359 ex_3359 => ?_)
            have h_3360 : rg x_3359 0 31 := rg_of_eq ex_3359 (GX.rR hG hT_w_3358 rfl)
            refine lv_iload_n hx hb dX2_countArea_49 rfl (lv_at hl 2 rfl) ?_
            refine pk_v (va_runV (As := [.int x_3356, .int x_3359, .int a1]) (rest := []) ⟨hx, hb, hml, hown, hts⟩ (s_X2_mark l D t σ I J ri_2868 rj rq H.size tg hSH hG.1 this x_3356 x_3359 a1 hL_this hK_this (rg_w h_3357 (by decide)) (rg_w h_3360 (by decide)) (rg_w h_a1 (by decide))) (cwV 3 hts (tw_V tw_1142 tw_1143 tw_1144 tw_41 tw_1145) rfl rfl rfl (by decide +kernel) ⟨Nat.le_of_ble_eq_true rfl, Nat.le_of_ble_eq_true rfl⟩) ⟨pq_blind, pq_recv hK hP hL_this hK_this (by decide) rfl, pq_pre hK hN hP hD⟩ rfl rfl hl.1 rfl (lv_room (Nat.le_of_ble_eq_true rfl)) dX2_countArea_50 ⟨Nat.le_of_ble_eq_true rfl, Nat.le_of_ble_eq_true rfl⟩) hD hS hA (fun σ1 μ1 H locs hw_3362 hP hD hS => ?_)
            obtain ⟨ri_3363, hu_3364, hg_3365⟩ := hw_3362
            obtain ⟨hu_3364a, hu_3364b⟩ := Prod.mk.inj hu_3364
            rw [hu_3364a, hu_3364b] at hP hD
            have hG := GX.tr hG hg_3365 (by decide)
            exact K_3349 ri_3363 _ _ _ hG hP hD hS (lv_sub hl [0, 1, 2, 3] rfl)
    exact L_3107 _ (0 : Int32) ri_10 _ _ _ (rg_w (rg_k (0 : Int32) 0 rfl) (by decide)) (Nat.lt_succ_self _) hG hP hD hS (lv_sub hl [1, 2, 3, 0] rfl)
  exact go _ _ _ hP hD hS hl

set_option maxHeartbeats 4000000 in
set_option maxRecDepth 100000 in
theorem s_X11_copy_99_99 (l : Launch) (D : va_G) (t : pq_T) (σ : pq_S) (I : Nat → Nat → Int32) (J : Nat → Nat → Int64) (ri : Nat → Nat → Int32) (rj : Nat → Nat → Int64) (rq : Nat → Nat → Option Nat) (sz : Nat) (tg : Nat → Nat) (hSH : SH σ tg) (hG0 : GS tg σ I ri rq) (a0 : Nat) (a1 : Nat) (hL_a0 : a0 ∈ σ.1) (hK_a0 : σ.2.1 a0 = 13) (hN_a0 : σ.2.2.2 a0 = 30) (hT_a0 : tg a0 = 99) (hL_a1 : a1 ∈ σ.1) (hK_a1 : σ.2.1 a1 = 13) (hN_a1 : σ.2.2.2 a1 = 30) (hT_a1 : tg a1 = 99) : MetV l yX11_copy (wa yX11_copy cX11_copy 2 none) ({ frames := 1, cells := 0, slots := 0, locals := 60 }) [.ref a0, .ref a1] D t σ (I, J, ri, rj, rq) sz 0 0 (fun (u : pq_S × pq_M) => ∃ ri' : Nat → Nat → Int32, u = (σ, I, J, ri', rj, rq) ∧ GX [] tg σ I I ri' rq ∧ (∀ j, j < 30 → ri' a1 j = ri a0 j)) := by
  refine Met.ofW (cc := cX11_copy) (maxL := 2) (ret := none) (by decide) rfl ?_
  intro p e s m args below meth c s₁ B hml hv
  obtain ⟨rfl, hsz, hP, hK, hD0, hN⟩ := hv
  have hx := B.exec
  have hb := B.bytes
  have hr := B.returns
  have hts := atoms_spec (ws := (wa yX11_copy cX11_copy 2 none)) B.pre
  have hown : s.vm.findClass RX11 = some m.cls := findClass_of_methodNamed B.named
  have hlocks := B.notSynchronized
  subst hsz
  have hD : va_D (pq_B t σ (I, J, ri, rj, rq) s.heap.size) (pq_P t σ (I, J, ri, rj, rq)) := hD0.self
  generalize hAe : pq_B t σ (I, J, ri, rj, rq) s.heap.size = A at hD ⊢
  have hA : ∀ q : Nat, s.heap.size ≤ q → A q := fun q h => by rw [← hAe]; exact Or.inr h
  have hS : va_S A s.heap s.heap [] := va_S.rf
  have hG : GX [] tg σ I I ri rq := ⟨hG0, fun _ _ _ => rfl⟩
  have hl := lv_entry ([.ref a0, .ref a1]) (n := 2) (Nat.le_of_ble_eq_true rfl)
  rw [lg_entry_eq]
  generalize (lg_sl ([.ref a0, .ref a1]) ++ List.replicate (2 - (lg_sl ([.ref a0, .ref a1])).length) Slot.unset).toArray = ls at hl ⊢
  have hl : lv_has ls 2 [(0, .ref a0), (1, .ref a1)] := hl
  refine q_gen (fun Q hQ => ?_)
  have go : ∀ (H : Heap) (locs : List Loc) (ls : Array Slot), va_P D vwCl (pq_P t σ (I, J, ri, rj, rq)) H → va_D A (pq_P t σ (I, J, ri, rj, rq)) → va_S A s.heap H locs → lv_has ls 2 [(0, .ref a0), (1, .ref a1)] → W p l e ({ frames := 1, cells := 0, slots := 0, locals := 60 } : Room) s m (List.toArray ([.ref a0, .ref a1] : List Value)) below meth c H locs 0 0 Q (F0 m 0 ls []) := by
    intro H locs ls hP hD hS hl
    refine lv_aload_n hx hb dX11_copy_0 rfl (lv_at hl 0 rfl) ?_
    refine lv_iconst (v := 0) hx hb dX11_copy_1 (by decide) ?_
    refine lv_aload_n hx hb dX11_copy_2 rfl (lv_at hl 1 rfl) ?_
    refine lv_iconst (v := 0) hx hb dX11_copy_3 (by decide) ?_
    refine lv_aload_n hx hb dX11_copy_4 rfl (lv_at hl 0 rfl) ?_
    refine pn_i (v := 30) hx hb hK hP hL_a0 hK_a0 hN_a0 (by decide) dX11_copy_5 ?_
    refine lv_aload_n hx hb dX11_copy_6 rfl (lv_at hl 1 rfl) ?_
    refine pn_i (v := 30) hx hb hK hP hL_a1 hK_a1 hN_a1 (by decide) dX11_copy_7 ?_
    refine va_mmin hx hb (hml.trans hl.1.symm) hown (hts _ (tw_c tw_1103)) (hts _ (tw_c tw_467)) (hts _ (tw_c tw_276)) (hts _ (tw_c tw_468)) (Nat.le_of_ble_eq_true rfl) (Nat.le_of_ble_eq_true rfl) (Nat.zero_le _) (Nat.zero_le _) dX11_copy_8 ?_
    refine lv_topi (fun x_1 ex_1 => ?_)
    have h_2 : rg x_1 30 30 := rg_of_eq ex_1 (rg_min2 (rg_k (30 : Int32) 30 rfl) (rg_k (30 : Int32) 30 rfl) (by decide))
    refine pc_i hx hb (hml.trans hl.1.symm) hown (hts _ (tw_c tw_1104)) (hts _ (tw_c tw_1105)) (hts _ (tw_c tw_1106)) (hts _ (tw_c tw_1107)) hK hP hD hS hL_a0 hK_a0 hN_a0 hL_a1 hK_a1 hN_a1 (rg_pos (rg_k (0 : Int32) 0 rfl) (by decide)) (rg_pos h_2 (by decide)) (rg_cp (rg_k (0 : Int32) 0 rfl) h_2 (by decide)) (rg_cl h_2 (by decide)) (Nat.le_of_ble_eq_true rfl) (Nat.le_of_ble_eq_true rfl) dX11_copy_11 (fun r_3 H locs er_3 hP hD hS => ?_)
    have hG := GX.cR hG hSH hT_a0 rfl hT_a1 rfl er_3 (by decide)
    subst hQ
    exact W.vret hx hb hr (fun t1 ht hW => ⟨⟨(σ, I, J, r_3, rj, rq), rfl, ⟨r_3, rfl, hG, (cpy_eq er_3 h_2 rfl)⟩, by rw [ht]; exact hP, va_K.moved hW.alike hK, hD⟩, hS.F ht⟩) hS.2.2 dX11_copy_14
  exact go _ _ _ hP hD hS hl

set_option maxHeartbeats 4000000 in
set_option maxRecDepth 100000 in
theorem s_X11_copy_100_100 (l : Launch) (D : va_G) (t : pq_T) (σ : pq_S) (I : Nat → Nat → Int32) (J : Nat → Nat → Int64) (ri : Nat → Nat → Int32) (rj : Nat → Nat → Int64) (rq : Nat → Nat → Option Nat) (sz : Nat) (tg : Nat → Nat) (hSH : SH σ tg) (hG0 : GS tg σ I ri rq) (a0 : Nat) (a1 : Nat) (hL_a0 : a0 ∈ σ.1) (hK_a0 : σ.2.1 a0 = 13) (hN_a0 : σ.2.2.2 a0 = 30) (hT_a0 : tg a0 = 100) (hL_a1 : a1 ∈ σ.1) (hK_a1 : σ.2.1 a1 = 13) (hN_a1 : σ.2.2.2 a1 = 30) (hT_a1 : tg a1 = 100) : MetV l yX11_copy (wa yX11_copy cX11_copy 2 none) ({ frames := 1, cells := 0, slots := 0, locals := 60 }) [.ref a0, .ref a1] D t σ (I, J, ri, rj, rq) sz 0 0 (fun (u : pq_S × pq_M) => ∃ ri' : Nat → Nat → Int32, u = (σ, I, J, ri', rj, rq) ∧ GX [] tg σ I I ri' rq ∧ (∀ j, j < 30 → ri' a1 j = ri a0 j)) := by
  refine Met.ofW (cc := cX11_copy) (maxL := 2) (ret := none) (by decide) rfl ?_
  intro p e s m args below meth c s₁ B hml hv
  obtain ⟨rfl, hsz, hP, hK, hD0, hN⟩ := hv
  have hx := B.exec
  have hb := B.bytes
  have hr := B.returns
  have hts := atoms_spec (ws := (wa yX11_copy cX11_copy 2 none)) B.pre
  have hown : s.vm.findClass RX11 = some m.cls := findClass_of_methodNamed B.named
  have hlocks := B.notSynchronized
  subst hsz
  have hD : va_D (pq_B t σ (I, J, ri, rj, rq) s.heap.size) (pq_P t σ (I, J, ri, rj, rq)) := hD0.self
  generalize hAe : pq_B t σ (I, J, ri, rj, rq) s.heap.size = A at hD ⊢
  have hA : ∀ q : Nat, s.heap.size ≤ q → A q := fun q h => by rw [← hAe]; exact Or.inr h
  have hS : va_S A s.heap s.heap [] := va_S.rf
  have hG : GX [] tg σ I I ri rq := ⟨hG0, fun _ _ _ => rfl⟩
  have hl := lv_entry ([.ref a0, .ref a1]) (n := 2) (Nat.le_of_ble_eq_true rfl)
  rw [lg_entry_eq]
  generalize (lg_sl ([.ref a0, .ref a1]) ++ List.replicate (2 - (lg_sl ([.ref a0, .ref a1])).length) Slot.unset).toArray = ls at hl ⊢
  have hl : lv_has ls 2 [(0, .ref a0), (1, .ref a1)] := hl
  refine q_gen (fun Q hQ => ?_)
  have go : ∀ (H : Heap) (locs : List Loc) (ls : Array Slot), va_P D vwCl (pq_P t σ (I, J, ri, rj, rq)) H → va_D A (pq_P t σ (I, J, ri, rj, rq)) → va_S A s.heap H locs → lv_has ls 2 [(0, .ref a0), (1, .ref a1)] → W p l e ({ frames := 1, cells := 0, slots := 0, locals := 60 } : Room) s m (List.toArray ([.ref a0, .ref a1] : List Value)) below meth c H locs 0 0 Q (F0 m 0 ls []) := by
    intro H locs ls hP hD hS hl
    refine lv_aload_n hx hb dX11_copy_0 rfl (lv_at hl 0 rfl) ?_
    refine lv_iconst (v := 0) hx hb dX11_copy_1 (by decide) ?_
    refine lv_aload_n hx hb dX11_copy_2 rfl (lv_at hl 1 rfl) ?_
    refine lv_iconst (v := 0) hx hb dX11_copy_3 (by decide) ?_
    refine lv_aload_n hx hb dX11_copy_4 rfl (lv_at hl 0 rfl) ?_
    refine pn_i (v := 30) hx hb hK hP hL_a0 hK_a0 hN_a0 (by decide) dX11_copy_5 ?_
    refine lv_aload_n hx hb dX11_copy_6 rfl (lv_at hl 1 rfl) ?_
    refine pn_i (v := 30) hx hb hK hP hL_a1 hK_a1 hN_a1 (by decide) dX11_copy_7 ?_
    refine va_mmin hx hb (hml.trans hl.1.symm) hown (hts _ (tw_c tw_1103)) (hts _ (tw_c tw_467)) (hts _ (tw_c tw_276)) (hts _ (tw_c tw_468)) (Nat.le_of_ble_eq_true rfl) (Nat.le_of_ble_eq_true rfl) (Nat.zero_le _) (Nat.zero_le _) dX11_copy_8 ?_
    refine lv_topi (fun x_1 ex_1 => ?_)
    have h_2 : rg x_1 30 30 := rg_of_eq ex_1 (rg_min2 (rg_k (30 : Int32) 30 rfl) (rg_k (30 : Int32) 30 rfl) (by decide))
    refine pc_i hx hb (hml.trans hl.1.symm) hown (hts _ (tw_c tw_1104)) (hts _ (tw_c tw_1105)) (hts _ (tw_c tw_1106)) (hts _ (tw_c tw_1107)) hK hP hD hS hL_a0 hK_a0 hN_a0 hL_a1 hK_a1 hN_a1 (rg_pos (rg_k (0 : Int32) 0 rfl) (by decide)) (rg_pos h_2 (by decide)) (rg_cp (rg_k (0 : Int32) 0 rfl) h_2 (by decide)) (rg_cl h_2 (by decide)) (Nat.le_of_ble_eq_true rfl) (Nat.le_of_ble_eq_true rfl) dX11_copy_11 (fun r_3 H locs er_3 hP hD hS => ?_)
    have hG := GX.cR hG hSH hT_a0 rfl hT_a1 rfl er_3 (by decide)
    subst hQ
    exact W.vret hx hb hr (fun t1 ht hW => ⟨⟨(σ, I, J, r_3, rj, rq), rfl, ⟨r_3, rfl, hG, (cpy_eq er_3 h_2 rfl)⟩, by rw [ht]; exact hP, va_K.moved hW.alike hK, hD⟩, hS.F ht⟩) hS.2.2 dX11_copy_14
  exact go _ _ _ hP hD hS hl

set_option maxHeartbeats 4000000 in
set_option maxRecDepth 100000 in
theorem s_X11_copy_101_101 (l : Launch) (D : va_G) (t : pq_T) (σ : pq_S) (I : Nat → Nat → Int32) (J : Nat → Nat → Int64) (ri : Nat → Nat → Int32) (rj : Nat → Nat → Int64) (rq : Nat → Nat → Option Nat) (sz : Nat) (tg : Nat → Nat) (hSH : SH σ tg) (hG0 : GS tg σ I ri rq) (a0 : Nat) (a1 : Nat) (hL_a0 : a0 ∈ σ.1) (hK_a0 : σ.2.1 a0 = 13) (hN_a0 : σ.2.2.2 a0 = 30) (hT_a0 : tg a0 = 101) (hL_a1 : a1 ∈ σ.1) (hK_a1 : σ.2.1 a1 = 13) (hN_a1 : σ.2.2.2 a1 = 30) (hT_a1 : tg a1 = 101) : MetV l yX11_copy (wa yX11_copy cX11_copy 2 none) ({ frames := 1, cells := 0, slots := 0, locals := 60 }) [.ref a0, .ref a1] D t σ (I, J, ri, rj, rq) sz 0 0 (fun (u : pq_S × pq_M) => ∃ ri' : Nat → Nat → Int32, u = (σ, I, J, ri', rj, rq) ∧ GX [] tg σ I I ri' rq ∧ (∀ j, j < 30 → ri' a1 j = ri a0 j)) := by
  refine Met.ofW (cc := cX11_copy) (maxL := 2) (ret := none) (by decide) rfl ?_
  intro p e s m args below meth c s₁ B hml hv
  obtain ⟨rfl, hsz, hP, hK, hD0, hN⟩ := hv
  have hx := B.exec
  have hb := B.bytes
  have hr := B.returns
  have hts := atoms_spec (ws := (wa yX11_copy cX11_copy 2 none)) B.pre
  have hown : s.vm.findClass RX11 = some m.cls := findClass_of_methodNamed B.named
  have hlocks := B.notSynchronized
  subst hsz
  have hD : va_D (pq_B t σ (I, J, ri, rj, rq) s.heap.size) (pq_P t σ (I, J, ri, rj, rq)) := hD0.self
  generalize hAe : pq_B t σ (I, J, ri, rj, rq) s.heap.size = A at hD ⊢
  have hA : ∀ q : Nat, s.heap.size ≤ q → A q := fun q h => by rw [← hAe]; exact Or.inr h
  have hS : va_S A s.heap s.heap [] := va_S.rf
  have hG : GX [] tg σ I I ri rq := ⟨hG0, fun _ _ _ => rfl⟩
  have hl := lv_entry ([.ref a0, .ref a1]) (n := 2) (Nat.le_of_ble_eq_true rfl)
  rw [lg_entry_eq]
  generalize (lg_sl ([.ref a0, .ref a1]) ++ List.replicate (2 - (lg_sl ([.ref a0, .ref a1])).length) Slot.unset).toArray = ls at hl ⊢
  have hl : lv_has ls 2 [(0, .ref a0), (1, .ref a1)] := hl
  refine q_gen (fun Q hQ => ?_)
  have go : ∀ (H : Heap) (locs : List Loc) (ls : Array Slot), va_P D vwCl (pq_P t σ (I, J, ri, rj, rq)) H → va_D A (pq_P t σ (I, J, ri, rj, rq)) → va_S A s.heap H locs → lv_has ls 2 [(0, .ref a0), (1, .ref a1)] → W p l e ({ frames := 1, cells := 0, slots := 0, locals := 60 } : Room) s m (List.toArray ([.ref a0, .ref a1] : List Value)) below meth c H locs 0 0 Q (F0 m 0 ls []) := by
    intro H locs ls hP hD hS hl
    refine lv_aload_n hx hb dX11_copy_0 rfl (lv_at hl 0 rfl) ?_
    refine lv_iconst (v := 0) hx hb dX11_copy_1 (by decide) ?_
    refine lv_aload_n hx hb dX11_copy_2 rfl (lv_at hl 1 rfl) ?_
    refine lv_iconst (v := 0) hx hb dX11_copy_3 (by decide) ?_
    refine lv_aload_n hx hb dX11_copy_4 rfl (lv_at hl 0 rfl) ?_
    refine pn_i (v := 30) hx hb hK hP hL_a0 hK_a0 hN_a0 (by decide) dX11_copy_5 ?_
    refine lv_aload_n hx hb dX11_copy_6 rfl (lv_at hl 1 rfl) ?_
    refine pn_i (v := 30) hx hb hK hP hL_a1 hK_a1 hN_a1 (by decide) dX11_copy_7 ?_
    refine va_mmin hx hb (hml.trans hl.1.symm) hown (hts _ (tw_c tw_1103)) (hts _ (tw_c tw_467)) (hts _ (tw_c tw_276)) (hts _ (tw_c tw_468)) (Nat.le_of_ble_eq_true rfl) (Nat.le_of_ble_eq_true rfl) (Nat.zero_le _) (Nat.zero_le _) dX11_copy_8 ?_
    refine lv_topi (fun x_1 ex_1 => ?_)
    have h_2 : rg x_1 30 30 := rg_of_eq ex_1 (rg_min2 (rg_k (30 : Int32) 30 rfl) (rg_k (30 : Int32) 30 rfl) (by decide))
    refine pc_i hx hb (hml.trans hl.1.symm) hown (hts _ (tw_c tw_1104)) (hts _ (tw_c tw_1105)) (hts _ (tw_c tw_1106)) (hts _ (tw_c tw_1107)) hK hP hD hS hL_a0 hK_a0 hN_a0 hL_a1 hK_a1 hN_a1 (rg_pos (rg_k (0 : Int32) 0 rfl) (by decide)) (rg_pos h_2 (by decide)) (rg_cp (rg_k (0 : Int32) 0 rfl) h_2 (by decide)) (rg_cl h_2 (by decide)) (Nat.le_of_ble_eq_true rfl) (Nat.le_of_ble_eq_true rfl) dX11_copy_11 (fun r_3 H locs er_3 hP hD hS => ?_)
    have hG := GX.cR hG hSH hT_a0 rfl hT_a1 rfl er_3 (by decide)
    subst hQ
    exact W.vret hx hb hr (fun t1 ht hW => ⟨⟨(σ, I, J, r_3, rj, rq), rfl, ⟨r_3, rfl, hG, (cpy_eq er_3 h_2 rfl)⟩, by rw [ht]; exact hP, va_K.moved hW.alike hK, hD⟩, hS.F ht⟩) hS.2.2 dX11_copy_14
  exact go _ _ _ hP hD hS hl

set_option maxHeartbeats 4000000 in
set_option maxRecDepth 100000 in
theorem s_X3_copyFrom (l : Launch) (D : va_G) (t : pq_T) (σ : pq_S) (I : Nat → Nat → Int32) (J : Nat → Nat → Int64) (ri : Nat → Nat → Int32) (rj : Nat → Nat → Int64) (rq : Nat → Nat → Option Nat) (sz : Nat) (tg : Nat → Nat) (hSH : SH σ tg) (hG0 : GS tg σ I ri rq) (this : Nat) (a0 : Nat) (hL_this : this ∈ σ.1) (hK_this : σ.2.1 this = 3) (hL_a0 : a0 ∈ σ.1) (hK_a0 : σ.2.1 a0 = 3) : MetV l yX3_copyFrom (wa yX3_copyFrom cX3_copyFrom 3 none) ({ frames := 2, cells := 0, slots := 0, locals := 81 }) [.ref this, .ref a0] D t σ (I, J, ri, rj, rq) sz 0 0 (fun (u : pq_S × pq_M) => ∃ I' : Nat → Nat → Int32, ∃ ri' : Nat → Nat → Int32, ∃ rq' : Nat → Nat → Option Nat, u = (σ, I', J, ri', rj, rq') ∧ GX [96, 98] tg σ I I' ri' rq') := by
  refine Met.ofW (cc := cX3_copyFrom) (maxL := 3) (ret := none) (by decide) rfl ?_
  intro p e s m args below meth c s₁ B hml hv
  obtain ⟨rfl, hsz, hP, hK, hD0, hN⟩ := hv
  have hx := B.exec
  have hb := B.bytes
  have hr := B.returns
  have hts := atoms_spec (ws := (wa yX3_copyFrom cX3_copyFrom 3 none)) B.pre
  have hown : s.vm.findClass RX3 = some m.cls := findClass_of_methodNamed B.named
  have hlocks := B.notSynchronized
  subst hsz
  have hD : va_D (pq_B t σ (I, J, ri, rj, rq) s.heap.size) (pq_P t σ (I, J, ri, rj, rq)) := hD0.self
  generalize hAe : pq_B t σ (I, J, ri, rj, rq) s.heap.size = A at hD ⊢
  have hA : ∀ q : Nat, s.heap.size ≤ q → A q := fun q h => by rw [← hAe]; exact Or.inr h
  have hS : va_S A s.heap s.heap [] := va_S.rf
  have hG : GX [96, 98] tg σ I I ri rq := ⟨hG0, fun _ _ _ => rfl⟩
  have hl := lv_entry ([.ref this, .ref a0]) (n := 3) (Nat.le_of_ble_eq_true rfl)
  rw [lg_entry_eq]
  generalize (lg_sl ([.ref this, .ref a0]) ++ List.replicate (3 - (lg_sl ([.ref this, .ref a0])).length) Slot.unset).toArray = ls at hl ⊢
  have hl : lv_has ls 3 [(0, .ref this), (1, .ref a0)] := hl
  refine q_gen (fun Q hQ => ?_)
  have go : ∀ (H : Heap) (locs : List Loc) (ls : Array Slot), va_P D vwCl (pq_P t σ (I, J, ri, rj, rq)) H → va_D A (pq_P t σ (I, J, ri, rj, rq)) → va_S A s.heap H locs → lv_has ls 3 [(0, .ref this), (1, .ref a0)] → W p l e ({ frames := 2, cells := 0, slots := 0, locals := 81 } : Room) s m (List.toArray ([.ref this, .ref a0] : List Value)) below meth c H locs 0 0 Q (F0 m 0 ls []) := by
    intro H locs ls hP hD hS hl
    refine lv_aload_n hx hb dX3_copyFrom_0 rfl (lv_at hl 0 rfl) ?_
    refine lv_aload_n hx hb dX3_copyFrom_1 rfl (lv_at hl 1 rfl) ?_
    refine pg_f (v := .int (I 96 a0)) (C := RX3) (T := TX3) (N := 8) hx hb hts (tw_i inlX3) hown hK hP hL_a0 hK_a0 (by decide) rfl 0 (by decide) (hts _ (tw_c tw_1388)) rfl dX3_copyFrom_2 ?_
    have h_1 : rg (I 96 a0) 0 10 := GX.rI hG 96 rfl
    refine pp_i (v := (I 96 a0)) (ty := .int) (C := RX3) (T := TX3) (N := 8) hx hb hts (tw_i inlX3) tyX3 tyX3_ok nmX3 hown hK hP hD hS hL_this hK_this (by decide) rfl 0 96 (by decide) (hts _ (tw_c tw_1388)) rfl (by decide +kernel) rfl rfl (Nat.le_of_ble_eq_true rfl) (ps_96 _ _ _ _ _) dX3_copyFrom_5 (fun I_2 H locs eI_2 hP hD hS => ?_)
    have hG := GX.wI hG 96 rfl eI_2 (rg_w h_1 (by decide)) (by decide)
    refine lv_iconst (v := 0) hx hb dX3_copyFrom_8 (by decide) ?_
    refine lv_istore_n (lv' := [(2, .int 0), (0, .ref this), (1, .ref a0)]) hx hb dX3_copyFrom_9 rfl hl (by decide) rfl (fun ls hl => ?_)
    have L_199 : ∀ (n_198 : Nat) (x_153 : Int32) (rq_154 : Nat → Nat → Option Nat) (H : Heap) (locs : List Loc) (ls : Array Slot), rg x_153 0 10 → (10 - (x_153).toInt).toNat < n_198 → GX [96, 98] tg σ I I_2 ri rq_154 → va_P D vwCl (pq_P t σ (I_2, J, ri, rj, rq_154)) H → va_D A (pq_P t σ (I_2, J, ri, rj, rq_154)) → va_S A s.heap H locs → lv_has ls 3 [(0, .ref this), (1, .ref a0), (2, .int x_153)] → W p l e ({ frames := 2, cells := 0, slots := 0, locals := 81 } : Room) s m (List.toArray ([.ref this, .ref a0] : List Value)) below meth c H locs 0 0 Q (F0 m 10 ls []) := by
      intro n_198
      induction n_198 with
      | zero => intro x_153 rq_154 H locs ls h_202 hm_197 hG hP hD hS hl; exact absurd hm_197 (Nat.not_lt_zero _)
      | succ n_198 ih_200 =>
        intro x_153 rq_154 H locs ls h_202 hm_197 hG hP hD hS hl
        refine lv_iload_n hx hb dX3_copyFrom_10 rfl (lv_at hl 2 rfl) ?_
        refine lv_bipush (v := 10) hx hb dX3_copyFrom_11 (by decide) ?_
        refine lv_icmp_ge (tgt := 34) hx hb dX3_copyFrom_13 (by decide) (fun c_203 => ?_) (fun c_203 => ?_)
        · have h_204 : rg x_153 10 10 := rg_le2 c_203 (rg_k (10 : Int32) 10 rfl) h_202 (by decide)
          refine lv_aload_n hx hb dX3_copyFrom_34 rfl (lv_at hl 0 rfl) ?_
          refine lv_aload_n hx hb dX3_copyFrom_35 rfl (lv_at hl 1 rfl) ?_
          refine pg_f (v := .int (I_2 98 a0)) (C := RX3) (T := TX3) (N := 8) hx hb hts (tw_i inlX3) hown hK hP hL_a0 hK_a0 (by decide) rfl 2 (by decide) (hts _ (tw_c tw_473)) rfl dX3_copyFrom_36 ?_
          have h_205 : rg (I_2 98 a0) 0 30 := GX.rI hG 98 rfl
          refine pp_i (v := (I_2 98 a0)) (ty := .int) (C := RX3) (T := TX3) (N := 8) hx hb hts (tw_i inlX3) tyX3 tyX3_ok nmX3 hown hK hP hD hS hL_this hK_this (by decide) rfl 2 98 (by decide) (hts _ (tw_c tw_473)) rfl (by decide +kernel) rfl rfl (Nat.le_of_ble_eq_true rfl) (ps_98 _ _ _ _ _) dX3_copyFrom_39 (fun I_206 H locs eI_206 hP hD hS => ?_)
          have hG := GX.wI hG 98 rfl eI_206 (rg_w h_205 (by decide)) (by decide)
          refine lv_aload_n hx hb dX3_copyFrom_42 rfl (lv_at hl 1 rfl) ?_
          obtain ⟨w_207, hR_w_207, hL_w_207, hK_w_207, hN_w_207, hT_w_207⟩ := sh_a hSH 99 (ci := 3) (kd := 13) (len := 30) rfl (by decide) hL_a0 hK_a0
          refine pg_f (v := .ref w_207) (C := RX3) (T := TX3) (N := 8) hx hb hts (tw_i inlX3) hown hK hP hL_a0 hK_a0 (by decide) rfl 3 (by decide) (hts _ (tw_c tw_129)) (pq_hv rfl hR_w_207) dX3_copyFrom_43 ?_
          refine lv_aload_n hx hb dX3_copyFrom_46 rfl (lv_at hl 0 rfl) ?_
          obtain ⟨w_208, hR_w_208, hL_w_208, hK_w_208, hN_w_208, hT_w_208⟩ := sh_a hSH 99 (ci := 3) (kd := 13) (len := 30) rfl (by decide) hL_this hK_this
          refine pg_f (v := .ref w_208) (C := RX3) (T := TX3) (N := 8) hx hb hts (tw_i inlX3) hown hK hP hL_this hK_this (by decide) rfl 3 (by decide) (hts _ (tw_c tw_129)) (pq_hv rfl hR_w_208) dX3_copyFrom_47 ?_
          refine pk_v (va_runSN (As := [.ref w_207, .ref w_208]) (rest := []) ⟨hx, hb, hml, hown, hts⟩ (s_X11_copy_99_99 l D t σ I_206 J ri rj rq_154 H.size tg hSH hG.1 w_207 w_208 hL_w_207 hK_w_207 hN_w_207 hT_w_207 hL_w_208 hK_w_208 hN_w_208 hT_w_208) ⟨va_cnB (host := "RingsUnder") 2 hts (tw_W tw_1102) rfl rfl rfl (nl_21 hN) (hts _ (tw_c tw_2)) (by decide +kernel) ⟨Nat.le_of_ble_eq_true rfl, Nat.le_of_ble_eq_true rfl⟩, hts (.static yX11_copy) (by decide +kernel), trivial⟩ ⟨pq_blind, pq_pre hK hN hP hD⟩ rfl rfl hl.1 rfl (lv_room (Nat.le_of_ble_eq_true rfl)) dX3_copyFrom_50 ⟨Nat.le_of_ble_eq_true rfl, Nat.le_of_ble_eq_true rfl⟩) hD hS hA (fun σ1 μ1 H locs hw_210 hP hD hS => ?_)
          obtain ⟨ri_211, hu_212, hg_213, hp_215⟩ := hw_210
          obtain ⟨hu_212a, hu_212b⟩ := Prod.mk.inj hu_212
          rw [hu_212a, hu_212b] at hP hD
          have hG := GX.tr hG hg_213 (by decide)
          refine lv_aload_n hx hb dX3_copyFrom_53 rfl (lv_at hl 1 rfl) ?_
          obtain ⟨w_216, hR_w_216, hL_w_216, hK_w_216, hN_w_216, hT_w_216⟩ := sh_a hSH 100 (ci := 3) (kd := 13) (len := 30) rfl (by decide) hL_a0 hK_a0
          refine pg_f (v := .ref w_216) (C := RX3) (T := TX3) (N := 8) hx hb hts (tw_i inlX3) hown hK hP hL_a0 hK_a0 (by decide) rfl 4 (by decide) (hts _ (tw_c tw_130)) (pq_hv rfl hR_w_216) dX3_copyFrom_54 ?_
          refine lv_aload_n hx hb dX3_copyFrom_57 rfl (lv_at hl 0 rfl) ?_
          obtain ⟨w_217, hR_w_217, hL_w_217, hK_w_217, hN_w_217, hT_w_217⟩ := sh_a hSH 100 (ci := 3) (kd := 13) (len := 30) rfl (by decide) hL_this hK_this
          refine pg_f (v := .ref w_217) (C := RX3) (T := TX3) (N := 8) hx hb hts (tw_i inlX3) hown hK hP hL_this hK_this (by decide) rfl 4 (by decide) (hts _ (tw_c tw_130)) (pq_hv rfl hR_w_217) dX3_copyFrom_58 ?_
          refine pk_v (va_runSN (As := [.ref w_216, .ref w_217]) (rest := []) ⟨hx, hb, hml, hown, hts⟩ (s_X11_copy_100_100 l D t σ I_206 J ri_211 rj rq_154 H.size tg hSH hG.1 w_216 w_217 hL_w_216 hK_w_216 hN_w_216 hT_w_216 hL_w_217 hK_w_217 hN_w_217 hT_w_217) ⟨va_cnB (host := "RingsUnder") 2 hts (tw_W tw_1102) rfl rfl rfl (nl_21 hN) (hts _ (tw_c tw_2)) (by decide +kernel) ⟨Nat.le_of_ble_eq_true rfl, Nat.le_of_ble_eq_true rfl⟩, hts (.static yX11_copy) (by decide +kernel), trivial⟩ ⟨pq_blind, pq_pre hK hN hP hD⟩ rfl rfl hl.1 rfl (lv_room (Nat.le_of_ble_eq_true rfl)) dX3_copyFrom_61 ⟨Nat.le_of_ble_eq_true rfl, Nat.le_of_ble_eq_true rfl⟩) hD hS hA (fun σ1 μ1 H locs hw_219 hP hD hS => ?_)
          obtain ⟨ri_220, hu_221, hg_222, hp_224⟩ := hw_219
          obtain ⟨hu_221a, hu_221b⟩ := Prod.mk.inj hu_221
          rw [hu_221a, hu_221b] at hP hD
          have hG := GX.tr hG hg_222 (by decide)
          refine lv_aload_n hx hb dX3_copyFrom_64 rfl (lv_at hl 1 rfl) ?_
          obtain ⟨w_225, hR_w_225, hL_w_225, hK_w_225, hN_w_225, hT_w_225⟩ := sh_a hSH 101 (ci := 3) (kd := 13) (len := 30) rfl (by decide) hL_a0 hK_a0
          refine pg_f (v := .ref w_225) (C := RX3) (T := TX3) (N := 8) hx hb hts (tw_i inlX3) hown hK hP hL_a0 hK_a0 (by decide) rfl 5 (by decide) (hts _ (tw_c tw_131)) (pq_hv rfl hR_w_225) dX3_copyFrom_65 ?_
          refine lv_aload_n hx hb dX3_copyFrom_68 rfl (lv_at hl 0 rfl) ?_
          obtain ⟨w_226, hR_w_226, hL_w_226, hK_w_226, hN_w_226, hT_w_226⟩ := sh_a hSH 101 (ci := 3) (kd := 13) (len := 30) rfl (by decide) hL_this hK_this
          refine pg_f (v := .ref w_226) (C := RX3) (T := TX3) (N := 8) hx hb hts (tw_i inlX3) hown hK hP hL_this hK_this (by decide) rfl 5 (by decide) (hts _ (tw_c tw_131)) (pq_hv rfl hR_w_226) dX3_copyFrom_69 ?_
          refine pk_v (va_runSN (As := [.ref w_225, .ref w_226]) (rest := []) ⟨hx, hb, hml, hown, hts⟩ (s_X11_copy_101_101 l D t σ I_206 J ri_220 rj rq_154 H.size tg hSH hG.1 w_225 w_226 hL_w_225 hK_w_225 hN_w_225 hT_w_225 hL_w_226 hK_w_226 hN_w_226 hT_w_226) ⟨va_cnB (host := "RingsUnder") 2 hts (tw_W tw_1102) rfl rfl rfl (nl_21 hN) (hts _ (tw_c tw_2)) (by decide +kernel) ⟨Nat.le_of_ble_eq_true rfl, Nat.le_of_ble_eq_true rfl⟩, hts (.static yX11_copy) (by decide +kernel), trivial⟩ ⟨pq_blind, pq_pre hK hN hP hD⟩ rfl rfl hl.1 rfl (lv_room (Nat.le_of_ble_eq_true rfl)) dX3_copyFrom_72 ⟨Nat.le_of_ble_eq_true rfl, Nat.le_of_ble_eq_true rfl⟩) hD hS hA (fun σ1 μ1 H locs hw_228 hP hD hS => ?_)
          obtain ⟨ri_229, hu_230, hg_231, hp_233⟩ := hw_228
          obtain ⟨hu_230a, hu_230b⟩ := Prod.mk.inj hu_230
          rw [hu_230a, hu_230b] at hP hD
          have hG := GX.tr hG hg_231 (by decide)
          subst hQ
          exact W.vret hx hb hr (fun t1 ht hW => ⟨⟨(σ, I_206, J, ri_229, rj, rq_154), rfl, ⟨I_206, ri_229, rq_154, rfl, hG⟩, by rw [ht]; exact hP, va_K.moved hW.alike hK, hD⟩, hS.F ht⟩) hS.2.2 dX3_copyFrom_75
        · have h_234 : rg x_153 0 9 := rg_lt1 (nle c_203) h_202 (rg_k (10 : Int32) 10 rfl) (by decide)
          refine lv_aload_n hx hb dX3_copyFrom_16 rfl (lv_at hl 0 rfl) ?_
          obtain ⟨w_235, hR_w_235, hL_w_235, hK_w_235, hN_w_235, hT_w_235⟩ := sh_a hSH 97 (ci := 3) (kd := 16) (len := 10) rfl (by decide) hL_this hK_this
          refine pg_f (v := .ref w_235) (C := RX3) (T := TX3) (N := 8) hx hb hts (tw_i inlX3) hown hK hP hL_this hK_this (by decide) rfl 1 (by decide) (hts _ (tw_c tw_128)) (pq_hv rfl hR_w_235) dX3_copyFrom_17 ?_
          refine lv_iload_n hx hb dX3_copyFrom_20 rfl (lv_at hl 2 rfl) ?_
          refine lv_aload_n hx hb dX3_copyFrom_21 rfl (lv_at hl 1 rfl) ?_
          obtain ⟨w_236, hR_w_236, hL_w_236, hK_w_236, hN_w_236, hT_w_236⟩ := sh_a hSH 97 (ci := 3) (kd := 16) (len := 10) rfl (by decide) hL_a0 hK_a0
          refine pg_f (v := .ref w_236) (C := RX3) (T := TX3) (N := 8) hx hb hts (tw_i inlX3) hown hK hP hL_a0 hK_a0 (by decide) rfl 1 (by decide) (hts _ (tw_c tw_128)) (pq_hv rfl hR_w_236) dX3_copyFrom_22 ?_
          refine lv_iload_n hx hb dX3_copyFrom_25 rfl (lv_at hl 2 rfl) ?_
          refine pl_q hx hb hK hP hL_w_236 hK_w_236 hN_w_236 (rg_in h_234 (by decide)) dX3_copyFrom_26 ?_
          obtain ⟨o_x_237, eo_x_237⟩ : ∃ o, o = rq_154 w_236 (x_153).toNatClampNeg := ⟨_, rfl⟩
          rw [← eo_x_237]
          rcases o_x_237 with _ | w_x_237
          · refine pt_qn hx hb hK hP hD hS hL_w_235 hK_w_235 hN_w_235 (rg_in h_234 (by decide)) dX3_copyFrom_27 (fun rq_238 H locs erq_238 hP hD hS => ?_)
            have hG := GX.wQn hG erq_238
            obtain ⟨x_239, ex_239⟩ : ∃ y : Int32, y = x_153 + Int32.ofInt 1 := ⟨_, rfl⟩
            have h_240 : rg x_239 1 10 := rg_of_eq ex_239 (rg_add h_234 (rg_k (Int32.ofInt 1) 1 rfl) (by decide))
            refine lv_iinc (v := x_239) (lv' := [(2, .int x_239), (0, .ref this), (1, .ref a0)]) hx hb dX3_copyFrom_28 hl (k := 2) rfl ex_239.symm (by decide) rfl (fun ls hl => ?_)
            refine lv_goto (tgt := 10) hx hb dX3_copyFrom_31 (by decide) ?_
            exact ih_200 x_239 rq_238 _ _ _ (rg_w h_240 (by decide)) (ms_up 1 hm_197 ex_239 rfl (by decide) h_234 (by decide) (by decide)) hG hP hD hS (lv_sub hl [1, 2, 0] rfl)
          · have hL_w_x_237 := (GX.rQ hG eo_x_237.symm).1
            have hK_w_x_237 := (GX.rQ hG eo_x_237.symm).2
            refine pt_q hx hb hK hP hD hS hL_w_235 hK_w_235 hN_w_235 hL_w_x_237 hK_w_x_237 (rg_in h_234 (by decide)) dX3_copyFrom_27 (fun rq_241 H locs erq_241 hP hD hS => ?_)
            have hG := GX.wQ hG hL_w_x_237 hK_w_x_237 erq_241
            obtain ⟨x_242, ex_242⟩ : ∃ y : Int32, y = x_153 + Int32.ofInt 1 := ⟨_, rfl⟩
            have h_243 : rg x_242 1 10 := rg_of_eq ex_242 (rg_add h_234 (rg_k (Int32.ofInt 1) 1 rfl) (by decide))
            refine lv_iinc (v := x_242) (lv' := [(2, .int x_242), (0, .ref this), (1, .ref a0)]) hx hb dX3_copyFrom_28 hl (k := 2) rfl ex_242.symm (by decide) rfl (fun ls hl => ?_)
            refine lv_goto (tgt := 10) hx hb dX3_copyFrom_31 (by decide) ?_
            exact ih_200 x_242 rq_241 _ _ _ (rg_w h_243 (by decide)) (ms_up 1 hm_197 ex_242 rfl (by decide) h_234 (by decide) (by decide)) hG hP hD hS (lv_sub hl [1, 2, 0] rfl)
    exact L_199 _ (0 : Int32) rq _ _ _ (rg_w (rg_k (0 : Int32) 0 rfl) (by decide)) (Nat.lt_succ_self _) hG hP hD hS (lv_sub hl [1, 2, 0] rfl)
  exact go _ _ _ hP hD hS hl

set_option maxHeartbeats 4000000 in
set_option maxRecDepth 100000 in
theorem s_X3_addForce (l : Launch) (D : va_G) (t : pq_T) (σ : pq_S) (I : Nat → Nat → Int32) (J : Nat → Nat → Int64) (ri : Nat → Nat → Int32) (rj : Nat → Nat → Int64) (rq : Nat → Nat → Option Nat) (sz : Nat) (tg : Nat → Nat) (hSH : SH σ tg) (hG0 : GS tg σ I ri rq) (this : Nat) (a0 : Int32) (a1 : Int32) (a2 : Int32) (hL_this : this ∈ σ.1) (hK_this : σ.2.1 this = 3) (h_a0 : rg a0 0 9) : MetI l yX3_addForce (wa yX3_addForce cX3_addForce 4 (some .int)) ({ frames := 0, cells := 0, slots := 0, locals := 0 }) [.ref this, .int a0, .int a1, .int a2] D t σ (I, J, ri, rj, rq) sz 0 0 (fun (r : Int32) (u : pq_S × pq_M) => ∃ I' : Nat → Nat → Int32, ∃ ri' : Nat → Nat → Int32, u = (σ, I', J, ri', rj, rq) ∧ GX [98] tg σ I I' ri' rq ∧ rg r (-1) 29) := by
  refine Met.ofW (cc := cX3_addForce) (maxL := 4) (ret := (some .int)) (by decide) rfl ?_
  intro p e s m args below meth c s₁ B hml hv
  obtain ⟨rfl, hsz, hP, hK, hD0, hN⟩ := hv
  have hx := B.exec
  have hb := B.bytes
  have hr := B.returns
  have hts := atoms_spec (ws := (wa yX3_addForce cX3_addForce 4 (some .int))) B.pre
  have hown : s.vm.findClass RX3 = some m.cls := findClass_of_methodNamed B.named
  have hlocks := B.notSynchronized
  subst hsz
  have hD : va_D (pq_B t σ (I, J, ri, rj, rq) s.heap.size) (pq_P t σ (I, J, ri, rj, rq)) := hD0.self
  generalize hAe : pq_B t σ (I, J, ri, rj, rq) s.heap.size = A at hD ⊢
  have hA : ∀ q : Nat, s.heap.size ≤ q → A q := fun q h => by rw [← hAe]; exact Or.inr h
  have hS : va_S A s.heap s.heap [] := va_S.rf
  have hG : GX [98] tg σ I I ri rq := ⟨hG0, fun _ _ _ => rfl⟩
  have hl := lv_entry ([.ref this, .int a0, .int a1, .int a2]) (n := 4) (Nat.le_of_ble_eq_true rfl)
  rw [lg_entry_eq]
  generalize (lg_sl ([.ref this, .int a0, .int a1, .int a2]) ++ List.replicate (4 - (lg_sl ([.ref this, .int a0, .int a1, .int a2])).length) Slot.unset).toArray = ls at hl ⊢
  have hl : lv_has ls 4 [(0, .ref this), (1, .int a0), (2, .int a1), (3, .int a2)] := hl
  refine q_gen (fun Q hQ => ?_)
  have go : ∀ (H : Heap) (locs : List Loc) (ls : Array Slot), va_P D vwCl (pq_P t σ (I, J, ri, rj, rq)) H → va_D A (pq_P t σ (I, J, ri, rj, rq)) → va_S A s.heap H locs → lv_has ls 4 [(0, .ref this), (1, .int a0), (2, .int a1), (3, .int a2)] → W p l e ({ frames := 0, cells := 0, slots := 0, locals := 0 } : Room) s m (List.toArray ([.ref this, .int a0, .int a1, .int a2] : List Value)) below meth c H locs 0 0 Q (F0 m 0 ls []) := by
    intro H locs ls hP hD hS hl
    refine lv_aload_n hx hb dX3_addForce_0 rfl (lv_at hl 0 rfl) ?_
    refine pg_f (v := .int (I 98 this)) (C := RX3) (T := TX3) (N := 8) hx hb hts (tw_i inlX3) hown hK hP hL_this hK_this (by decide) rfl 2 (by decide) (hts _ (tw_c tw_473)) rfl dX3_addForce_1 ?_
    have h_1 : rg (I 98 this) 0 30 := GX.rI hG 98 rfl
    refine lv_bipush (v := 30) hx hb dX3_addForce_4 (by decide) ?_
    refine lv_icmp_lt (tgt := 11) hx hb dX3_addForce_6 (by decide) (fun c_2 => ?_) (fun c_2 => ?_)
    · have h_3 : rg (I 98 this) 0 29 := rg_lt1 c_2 h_1 (rg_k (30 : Int32) 30 rfl) (by decide)
      refine lv_aload_n hx hb dX3_addForce_11 rfl (lv_at hl 0 rfl) ?_
      obtain ⟨w_4, hR_w_4, hL_w_4, hK_w_4, hN_w_4, hT_w_4⟩ := sh_a hSH 99 (ci := 3) (kd := 13) (len := 30) rfl (by decide) hL_this hK_this
      refine pg_f (v := .ref w_4) (C := RX3) (T := TX3) (N := 8) hx hb hts (tw_i inlX3) hown hK hP hL_this hK_this (by decide) rfl 3 (by decide) (hts _ (tw_c tw_129)) (pq_hv rfl hR_w_4) dX3_addForce_12 ?_
      refine lv_aload_n hx hb dX3_addForce_15 rfl (lv_at hl 0 rfl) ?_
      refine pg_f (v := .int (I 98 this)) (C := RX3) (T := TX3) (N := 8) hx hb hts (tw_i inlX3) hown hK hP hL_this hK_this (by decide) rfl 2 (by decide) (hts _ (tw_c tw_473)) rfl dX3_addForce_16 ?_
      refine lv_iload_n hx hb dX3_addForce_19 rfl (lv_at hl 1 rfl) ?_
      refine pt_i hx hb hK hP hD hS hL_w_4 hK_w_4 hN_w_4 (rg_in h_3 (by decide)) dX3_addForce_20 (fun r_5 H locs er_5 hP hD hS => ?_)
      have hG := GX.wR hG hSH hT_w_4 rfl er_5 (rg_w h_a0 (by decide)) (by decide)
      refine lv_aload_n hx hb dX3_addForce_21 rfl (lv_at hl 0 rfl) ?_
      obtain ⟨w_6, hR_w_6, hL_w_6, hK_w_6, hN_w_6, hT_w_6⟩ := sh_a hSH 100 (ci := 3) (kd := 13) (len := 30) rfl (by decide) hL_this hK_this
      refine pg_f (v := .ref w_6) (C := RX3) (T := TX3) (N := 8) hx hb hts (tw_i inlX3) hown hK hP hL_this hK_this (by decide) rfl 4 (by decide) (hts _ (tw_c tw_130)) (pq_hv rfl hR_w_6) dX3_addForce_22 ?_
      refine lv_aload_n hx hb dX3_addForce_25 rfl (lv_at hl 0 rfl) ?_
      refine pg_f (v := .int (I 98 this)) (C := RX3) (T := TX3) (N := 8) hx hb hts (tw_i inlX3) hown hK hP hL_this hK_this (by decide) rfl 2 (by decide) (hts _ (tw_c tw_473)) rfl dX3_addForce_26 ?_
      refine lv_iload_n hx hb dX3_addForce_29 rfl (lv_at hl 2 rfl) ?_
      refine pt_i hx hb hK hP hD hS hL_w_6 hK_w_6 hN_w_6 (rg_in h_3 (by decide)) dX3_addForce_30 (fun r_7 H locs er_7 hP hD hS => ?_)
      have hG := GX.wR hG hSH hT_w_6 rfl er_7 (rg_w (rg_full _) (by decide)) (by decide)
      refine lv_aload_n hx hb dX3_addForce_31 rfl (lv_at hl 0 rfl) ?_
      obtain ⟨w_8, hR_w_8, hL_w_8, hK_w_8, hN_w_8, hT_w_8⟩ := sh_a hSH 101 (ci := 3) (kd := 13) (len := 30) rfl (by decide) hL_this hK_this
      refine pg_f (v := .ref w_8) (C := RX3) (T := TX3) (N := 8) hx hb hts (tw_i inlX3) hown hK hP hL_this hK_this (by decide) rfl 5 (by decide) (hts _ (tw_c tw_131)) (pq_hv rfl hR_w_8) dX3_addForce_32 ?_
      refine lv_aload_n hx hb dX3_addForce_35 rfl (lv_at hl 0 rfl) ?_
      refine pg_f (v := .int (I 98 this)) (C := RX3) (T := TX3) (N := 8) hx hb hts (tw_i inlX3) hown hK hP hL_this hK_this (by decide) rfl 2 (by decide) (hts _ (tw_c tw_473)) rfl dX3_addForce_36 ?_
      refine lv_iload_n hx hb dX3_addForce_39 rfl (lv_at hl 3 rfl) ?_
      refine pt_i hx hb hK hP hD hS hL_w_8 hK_w_8 hN_w_8 (rg_in h_3 (by decide)) dX3_addForce_40 (fun r_9 H locs er_9 hP hD hS => ?_)
      have hG := GX.wR hG hSH hT_w_8 rfl er_9 (rg_w (rg_full _) (by decide)) (by decide)
      refine lv_aload_n hx hb dX3_addForce_41 rfl (lv_at hl 0 rfl) ?_
      refine lv_dup hx hb dX3_addForce_42 rfl ?_
      refine pg_f (v := .int (I 98 this)) (C := RX3) (T := TX3) (N := 8) hx hb hts (tw_i inlX3) hown hK hP hL_this hK_this (by decide) rfl 2 (by decide) (hts _ (tw_c tw_473)) rfl dX3_addForce_43 ?_
      refine lv_iconst (v := 1) hx hb dX3_addForce_46 (by decide) ?_
      refine lv_iadd hx hb dX3_addForce_47 ?_
      refine lv_topi (fun x_10 ex_10 => ?_)
      have h_11 : rg x_10 1 30 := rg_of_eq ex_10 (rg_add h_3 (rg_k (1 : Int32) 1 rfl) (by decide))
      refine pp_i (v := x_10) (ty := .int) (C := RX3) (T := TX3) (N := 8) hx hb hts (tw_i inlX3) tyX3 tyX3_ok nmX3 hown hK hP hD hS hL_this hK_this (by decide) rfl 2 98 (by decide) (hts _ (tw_c tw_473)) rfl (by decide +kernel) rfl rfl (Nat.le_of_ble_eq_true rfl) (ps_98 _ _ _ _ _) dX3_addForce_48 (fun I_12 H locs eI_12 hP hD hS => ?_)
      have hG := GX.wI hG 98 rfl eI_12 (rg_w h_11 (by decide)) (by decide)
      refine lv_aload_n hx hb dX3_addForce_51 rfl (lv_at hl 0 rfl) ?_
      refine pg_f (v := .int (I_12 98 this)) (C := RX3) (T := TX3) (N := 8) hx hb hts (tw_i inlX3) hown hK hP hL_this hK_this (by decide) rfl 2 (by decide) (hts _ (tw_c tw_473)) rfl dX3_addForce_52 ?_
      have h_13 : rg (I_12 98 this) 1 30 := (by rw [eI_12, pq_us]; exact h_11)
      refine lv_iconst (v := 1) hx hb dX3_addForce_55 (by decide) ?_
      refine lv_isub hx hb dX3_addForce_56 ?_
      refine lv_topi (fun x_14 ex_14 => ?_)
      have h_15 : rg x_14 0 29 := rg_of_eq ex_14 (rg_sub h_13 (rg_k (1 : Int32) 1 rfl) (by decide))
      subst hQ
      exact W.iret (v := x_14) hx hb hr (fun t1 ht hW => ⟨⟨x_14, (σ, I_12, J, r_9, rj, rq), rfl, ⟨I_12, r_9, rfl, hG, (rg_w h_15 (by decide))⟩, by rw [ht]; exact hP, va_K.moved hW.alike hK, hD⟩, hS.F ht⟩) hS.2.2 dX3_addForce_57
    · have h_16 : rg (I 98 this) 30 30 := rg_le2 (nlt c_2) (rg_k (30 : Int32) 30 rfl) h_1 (by decide)
      refine lv_iconst (v := (-1)) hx hb dX3_addForce_9 (by decide) ?_
      subst hQ
      exact W.iret (v := (-1)) hx hb hr (fun t1 ht hW => ⟨⟨(-1), (σ, I, J, ri, rj, rq), rfl, ⟨I, ri, rfl, hG, (rg_w (rg_k (-1 : Int32) (-1) rfl) (by decide))⟩, by rw [ht]; exact hP, va_K.moved hW.alike hK, hD⟩, hS.F ht⟩) hS.2.2 dX3_addForce_10
  exact go _ _ _ hP hD hS hl

set_option maxHeartbeats 4000000 in
set_option maxRecDepth 100000 in
theorem s_X8_firstOf (l : Launch) (D : va_G) (t : pq_T) (σ : pq_S) (I : Nat → Nat → Int32) (J : Nat → Nat → Int64) (ri : Nat → Nat → Int32) (rj : Nat → Nat → Int64) (rq : Nat → Nat → Option Nat) (sz : Nat) (tg : Nat → Nat) (hSH : SH σ tg) (hG0 : GS tg σ I ri rq) (this : Nat) (a0 : Int32) (hL_this : this ∈ σ.1) (hK_this : σ.2.1 this = 8) : MetI l yX8_firstOf (wa yX8_firstOf cX8_firstOf 3 (some .int)) ({ frames := 0, cells := 0, slots := 0, locals := 0 }) [.ref this, .int a0] D t σ (I, J, ri, rj, rq) sz 0 0 (fun (r : Int32) (u : pq_S × pq_M) => u = (σ, I, J, ri, rj, rq) ∧ (r.toInt = -1 ∨ r.toInt < (I 256 this).toInt) ∧ rg r (-1) 19) := by
  refine Met.ofW (cc := cX8_firstOf) (maxL := 3) (ret := (some .int)) (by decide) rfl ?_
  intro p e s m args below meth c s₁ B hml hv
  obtain ⟨rfl, hsz, hP, hK, hD0, hN⟩ := hv
  have hx := B.exec
  have hb := B.bytes
  have hr := B.returns
  have hts := atoms_spec (ws := (wa yX8_firstOf cX8_firstOf 3 (some .int))) B.pre
  have hown : s.vm.findClass RX8 = some m.cls := findClass_of_methodNamed B.named
  have hlocks := B.notSynchronized
  subst hsz
  have hD : va_D (pq_B t σ (I, J, ri, rj, rq) s.heap.size) (pq_P t σ (I, J, ri, rj, rq)) := hD0.self
  generalize hAe : pq_B t σ (I, J, ri, rj, rq) s.heap.size = A at hD ⊢
  have hA : ∀ q : Nat, s.heap.size ≤ q → A q := fun q h => by rw [← hAe]; exact Or.inr h
  have hS : va_S A s.heap s.heap [] := va_S.rf
  have hG : GX [] tg σ I I ri rq := ⟨hG0, fun _ _ _ => rfl⟩
  have hl := lv_entry ([.ref this, .int a0]) (n := 3) (Nat.le_of_ble_eq_true rfl)
  rw [lg_entry_eq]
  generalize (lg_sl ([.ref this, .int a0]) ++ List.replicate (3 - (lg_sl ([.ref this, .int a0])).length) Slot.unset).toArray = ls at hl ⊢
  have hl : lv_has ls 3 [(0, .ref this), (1, .int a0)] := hl
  refine q_gen (fun Q hQ => ?_)
  have go : ∀ (H : Heap) (locs : List Loc) (ls : Array Slot), va_P D vwCl (pq_P t σ (I, J, ri, rj, rq)) H → va_D A (pq_P t σ (I, J, ri, rj, rq)) → va_S A s.heap H locs → lv_has ls 3 [(0, .ref this), (1, .int a0)] → W p l e ({ frames := 0, cells := 0, slots := 0, locals := 0 } : Room) s m (List.toArray ([.ref this, .int a0] : List Value)) below meth c H locs 0 0 Q (F0 m 0 ls []) := by
    intro H locs ls hP hD hS hl
    refine lv_iconst (v := 0) hx hb dX8_firstOf_0 (by decide) ?_
    refine lv_istore_n (lv' := [(2, .int 0), (0, .ref this), (1, .int a0)]) hx hb dX8_firstOf_1 rfl hl (by decide) rfl (fun ls hl => ?_)
    have L_136 : ∀ (n_135 : Nat) (x_119 : Int32) (H : Heap) (locs : List Loc) (ls : Array Slot), rg x_119 0 20 → (20 - (x_119).toInt).toNat < n_135 → GX [] tg σ I I ri rq → va_P D vwCl (pq_P t σ (I, J, ri, rj, rq)) H → va_D A (pq_P t σ (I, J, ri, rj, rq)) → va_S A s.heap H locs → lv_has ls 3 [(0, .ref this), (1, .int a0), (2, .int x_119)] → W p l e ({ frames := 0, cells := 0, slots := 0, locals := 0 } : Room) s m (List.toArray ([.ref this, .int a0] : List Value)) below meth c H locs 0 0 Q (F0 m 2 ls []) := by
      intro n_135
      induction n_135 with
      | zero => intro x_119 H locs ls h_139 hm_134 hG hP hD hS hl; exact absurd hm_134 (Nat.not_lt_zero _)
      | succ n_135 ih_137 =>
        intro x_119 H locs ls h_139 hm_134 hG hP hD hS hl
        have uh_139 := h_139.1
        have vh_139 := h_139.2
        refine lv_iload_n hx hb dX8_firstOf_2 rfl (lv_at hl 2 rfl) ?_
        refine lv_aload_n hx hb dX8_firstOf_3 rfl (lv_at hl 0 rfl) ?_
        refine pg_f (v := .int (I 256 this)) (C := RX8) (T := TX8) (N := 4) hx hb hts (tw_i inlX8) hown hK hP hL_this hK_this (by decide) rfl 0 (by decide) (hts _ (tw_c tw_478)) rfl dX8_firstOf_4 ?_
        have h_140 : rg (I 256 this) 0 20 := GX.rI hG 256 rfl
        have uh_140 := h_140.1
        have vh_140 := h_140.2
        refine lv_icmp_ge (tgt := 28) hx hb dX8_firstOf_7 (by decide) (fun c_141 => ?_) (fun c_141 => ?_)
        · have tc_142 : (I 256 this).toInt ≤ (x_119).toInt := Int32.le_iff_toInt_le.mp c_141
          refine lv_iconst (v := (-1)) hx hb dX8_firstOf_28 (by decide) ?_
          subst hQ
          exact W.iret (v := (-1)) hx hb hr (fun t1 ht hW => ⟨⟨(-1), (σ, I, J, ri, rj, rq), rfl, ⟨rfl, (Or.inl rfl), (rg_w (rg_k (-1 : Int32) (-1) rfl) (by decide))⟩, by rw [ht]; exact hP, va_K.moved hW.alike hK, hD⟩, hS.F ht⟩) hS.2.2 dX8_firstOf_29
        · have tc_143 : (x_119).toInt < (I 256 this).toInt := Int32.lt_iff_toInt_lt.mp (nle c_141)
          have h_144 : rg x_119 0 19 := rg_lt1 (nle c_141) h_139 h_140 (by decide)
          have uh_144 := h_144.1
          have vh_144 := h_144.2
          have h_145 : rg (I 256 this) 1 20 := rg_lt2 (nle c_141) h_139 h_140 (by decide)
          have uh_145 := h_145.1
          have vh_145 := h_145.2
          refine lv_aload_n hx hb dX8_firstOf_10 rfl (lv_at hl 0 rfl) ?_
          obtain ⟨w_146, hR_w_146, hL_w_146, hK_w_146, hN_w_146, hT_w_146⟩ := sh_a hSH 257 (ci := 8) (kd := 13) (len := 20) rfl (by decide) hL_this hK_this
          refine pg_f (v := .ref w_146) (C := RX8) (T := TX8) (N := 4) hx hb hts (tw_i inlX8) hown hK hP hL_this hK_this (by decide) rfl 1 (by decide) (hts _ (tw_c tw_169)) (pq_hv rfl hR_w_146) dX8_firstOf_11 ?_
          refine lv_iload_n hx hb dX8_firstOf_14 rfl (lv_at hl 2 rfl) ?_
          refine pl_i hx hb hK hP hL_w_146 hK_w_146 hN_w_146 (rg_in h_144 (by decide)) dX8_firstOf_15 ?_
          refine lv_topi (fun x_147 ex_147 => ?_)
          refine lv_iload_n hx hb dX8_firstOf_16 rfl (lv_at hl 1 rfl) ?_
          refine lv_icmp_ne (tgt := 22) hx hb dX8_firstOf_17 (by decide) (fun c_148 => ?_) (fun c_148 => ?_)
          · have tc_149 : (x_147).toInt ≠ (a0).toInt := fun q => c_148 (Int32.toInt_inj.mp q)
            obtain ⟨x_150, ex_150⟩ : ∃ y : Int32, y = x_119 + Int32.ofInt 1 := ⟨_, rfl⟩
            have h_151 : rg x_150 1 20 := rg_of_eq ex_150 (rg_add h_144 (rg_k (Int32.ofInt 1) 1 rfl) (by decide))
            have uh_151 := h_151.1
            have vh_151 := h_151.2
            have tx_150 : (x_150).toInt = (x_119).toInt + 1 := by rw [ex_150]; exact i_add_rg (a2 := (x_119).toInt) (b2 := 1) rfl rfl h_144 (rg_k (Int32.ofInt 1) 1 rfl) (by decide)
            refine lv_iinc (v := x_150) (lv' := [(2, .int x_150), (0, .ref this), (1, .int a0)]) hx hb dX8_firstOf_22 hl (k := 2) rfl ex_150.symm (by decide) rfl (fun ls hl => ?_)
            refine lv_goto (tgt := 2) hx hb dX8_firstOf_25 (by decide) ?_
            exact ih_137 x_150 _ _ _ (rg_w h_151 (by decide)) (ms_up 1 hm_134 ex_150 rfl (by decide) h_144 (by decide) (by decide)) hG hP hD hS (lv_sub hl [1, 2, 0] rfl)
          · have tc_152 : (x_147).toInt = (a0).toInt := congrArg Int32.toInt c_148
            refine lv_iload_n hx hb dX8_firstOf_20 rfl (lv_at hl 2 rfl) ?_
            subst hQ
            exact W.iret (v := x_119) hx hb hr (fun t1 ht hW => ⟨⟨x_119, (σ, I, J, ri, rj, rq), rfl, ⟨rfl, (by omega), (rg_w h_144 (by decide))⟩, by rw [ht]; exact hP, va_K.moved hW.alike hK, hD⟩, hS.F ht⟩) hS.2.2 dX8_firstOf_21
    exact L_136 _ (0 : Int32) _ _ _ (rg_w (rg_k (0 : Int32) 0 rfl) (by decide)) (Nat.lt_succ_self _) hG hP hD hS (lv_sub hl [1, 2, 0] rfl)
  exact go _ _ _ hP hD hS hl
