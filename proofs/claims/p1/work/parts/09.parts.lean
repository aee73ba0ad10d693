theorem dJ6_bitCount_0f7a4_0 : decode cJ6_bitCount_0f7a4 0 = .ok (.iload_n 0, 1) := by decide +kernel
theorem dJ6_bitCount_0f7a4_1 : decode cJ6_bitCount_0f7a4 1 = .ok (.iload_n 0, 1) := by decide +kernel
theorem dJ6_bitCount_0f7a4_2 : decode cJ6_bitCount_0f7a4 2 = .ok (.iconst 1, 1) := by decide +kernel
theorem dJ6_bitCount_0f7a4_3 : decode cJ6_bitCount_0f7a4 3 = .ok (.iushr, 1) := by decide +kernel
theorem tw_1150 : Cond.constant RJ6 265 (1431655765) ∈ wsL_law := List.mem_of_getElem? (i := 1150) (by decide +kernel)
theorem dJ6_bitCount_0f7a4_4 : decode cJ6_bitCount_0f7a4 4 = .ok (.ldc_w 265, 3) := by decide +kernel
theorem dJ6_bitCount_0f7a4_7 : decode cJ6_bitCount_0f7a4 7 = .ok (.iand, 1) := by decide +kernel
theorem dJ6_bitCount_0f7a4_8 : decode cJ6_bitCount_0f7a4 8 = .ok (.isub, 1) := by decide +kernel
theorem dJ6_bitCount_0f7a4_9 : decode cJ6_bitCount_0f7a4 9 = .ok (.istore_n 0, 1) := by decide +kernel
theorem dJ6_bitCount_0f7a4_10 : decode cJ6_bitCount_0f7a4 10 = .ok (.iload_n 0, 1) := by decide +kernel
theorem tw_1151 : Cond.constant RJ6 266 (858993459) ∈ wsL_law := List.mem_of_getElem? (i := 1151) (by decide +kernel)
theorem dJ6_bitCount_0f7a4_11 : decode cJ6_bitCount_0f7a4 11 = .ok (.ldc_w 266, 3) := by decide +kernel
theorem dJ6_bitCount_0f7a4_14 : decode cJ6_bitCount_0f7a4 14 = .ok (.iand, 1) := by decide +kernel
theorem dJ6_bitCount_0f7a4_15 : decode cJ6_bitCount_0f7a4 15 = .ok (.iload_n 0, 1) := by decide +kernel
theorem dJ6_bitCount_0f7a4_16 : decode cJ6_bitCount_0f7a4 16 = .ok (.iconst 2, 1) := by decide +kernel
theorem dJ6_bitCount_0f7a4_17 : decode cJ6_bitCount_0f7a4 17 = .ok (.iushr, 1) := by decide +kernel
theorem dJ6_bitCount_0f7a4_18 : decode cJ6_bitCount_0f7a4 18 = .ok (.ldc_w 266, 3) := by decide +kernel
theorem dJ6_bitCount_0f7a4_21 : decode cJ6_bitCount_0f7a4 21 = .ok (.iand, 1) := by decide +kernel
theorem dJ6_bitCount_0f7a4_22 : decode cJ6_bitCount_0f7a4 22 = .ok (.iadd, 1) := by decide +kernel
theorem dJ6_bitCount_0f7a4_23 : decode cJ6_bitCount_0f7a4 23 = .ok (.istore_n 0, 1) := by decide +kernel
theorem dJ6_bitCount_0f7a4_24 : decode cJ6_bitCount_0f7a4 24 = .ok (.iload_n 0, 1) := by decide +kernel
theorem dJ6_bitCount_0f7a4_25 : decode cJ6_bitCount_0f7a4 25 = .ok (.iload_n 0, 1) := by decide +kernel
theorem dJ6_bitCount_0f7a4_26 : decode cJ6_bitCount_0f7a4 26 = .ok (.iconst 4, 1) := by decide +kernel
theorem dJ6_bitCount_0f7a4_27 : decode cJ6_bitCount_0f7a4 27 = .ok (.iushr, 1) := by decide +kernel
theorem dJ6_bitCount_0f7a4_28 : decode cJ6_bitCount_0f7a4 28 = .ok (.iadd, 1) := by decide +kernel
theorem tw_1152 : Cond.constant RJ6 267 (252645135) ∈ wsL_law := List.mem_of_getElem? (i := 1152) (by decide +kernel)
theorem dJ6_bitCount_0f7a4_29 : decode cJ6_bitCount_0f7a4 29 = .ok (.ldc_w 267, 3) := by decide +kernel
theorem dJ6_bitCount_0f7a4_32 : decode cJ6_bitCount_0f7a4 32 = .ok (.iand, 1) := by decide +kernel
theorem dJ6_bitCount_0f7a4_33 : decode cJ6_bitCount_0f7a4 33 = .ok (.istore_n 0, 1) := by decide +kernel
theorem dJ6_bitCount_0f7a4_34 : decode cJ6_bitCount_0f7a4 34 = .ok (.iload_n 0, 1) := by decide +kernel
theorem dJ6_bitCount_0f7a4_35 : decode cJ6_bitCount_0f7a4 35 = .ok (.iload_n 0, 1) := by decide +kernel
theorem dJ6_bitCount_0f7a4_36 : decode cJ6_bitCount_0f7a4 36 = .ok (.bipush 8, 2) := by decide +kernel
theorem dJ6_bitCount_0f7a4_38 : decode cJ6_bitCount_0f7a4 38 = .ok (.iushr, 1) := by decide +kernel
theorem dJ6_bitCount_0f7a4_39 : decode cJ6_bitCount_0f7a4 39 = .ok (.iadd, 1) := by decide +kernel
theorem dJ6_bitCount_0f7a4_40 : decode cJ6_bitCount_0f7a4 40 = .ok (.istore_n 0, 1) := by decide +kernel
theorem dJ6_bitCount_0f7a4_41 : decode cJ6_bitCount_0f7a4 41 = .ok (.iload_n 0, 1) := by decide +kernel
theorem dJ6_bitCount_0f7a4_42 : decode cJ6_bitCount_0f7a4 42 = .ok (.iload_n 0, 1) := by decide +kernel
theorem dJ6_bitCount_0f7a4_43 : decode cJ6_bitCount_0f7a4 43 = .ok (.bipush 16, 2) := by decide +kernel
theorem dJ6_bitCount_0f7a4_45 : decode cJ6_bitCount_0f7a4 45 = .ok (.iushr, 1) := by decide +kernel
theorem dJ6_bitCount_0f7a4_46 : decode cJ6_bitCount_0f7a4 46 = .ok (.iadd, 1) := by decide +kernel
theorem dJ6_bitCount_0f7a4_47 : decode cJ6_bitCount_0f7a4 47 = .ok (.istore_n 0, 1) := by decide +kernel
theorem dJ6_bitCount_0f7a4_48 : decode cJ6_bitCount_0f7a4 48 = .ok (.iload_n 0, 1) := by decide +kernel
theorem dJ6_bitCount_0f7a4_49 : decode cJ6_bitCount_0f7a4 49 = .ok (.bipush 63, 2) := by decide +kernel
theorem dJ6_bitCount_0f7a4_51 : decode cJ6_bitCount_0f7a4 51 = .ok (.iand, 1) := by decide +kernel
theorem dJ6_bitCount_0f7a4_52 : decode cJ6_bitCount_0f7a4 52 = .ok (.ireturn, 1) := by decide +kernel
theorem dJ13_bitCount_95d88_0 : decode cJ13_bitCount_95d88 0 = .ok (.lload_n 0, 1) := by decide +kernel
theorem dJ13_bitCount_95d88_1 : decode cJ13_bitCount_95d88 1 = .ok (.lload_n 0, 1) := by decide +kernel
theorem dJ13_bitCount_95d88_2 : decode cJ13_bitCount_95d88 2 = .ok (.iconst 1, 1) := by decide +kernel
theorem dJ13_bitCount_95d88_3 : decode cJ13_bitCount_95d88 3 = .ok (.lushr, 1) := by decide +kernel
theorem tw_1346 : Cond.constantLong RJ13 314 (6148914691236517205) ∈ wsL_law := List.mem_of_getElem? (i := 1346) (by decide +kernel)
theorem dJ13_bitCount_95d88_4 : decode cJ13_bitCount_95d88 4 = .ok (.ldc2_w 314, 3) := by decide +kernel
theorem dJ13_bitCount_95d88_7 : decode cJ13_bitCount_95d88 7 = .ok (.land, 1) := by decide +kernel
theorem dJ13_bitCount_95d88_8 : decode cJ13_bitCount_95d88 8 = .ok (.lsub, 1) := by decide +kernel
theorem dJ13_bitCount_95d88_9 : decode cJ13_bitCount_95d88 9 = .ok (.lstore_n 0, 1) := by decide +kernel
theorem dJ13_bitCount_95d88_10 : decode cJ13_bitCount_95d88 10 = .ok (.lload_n 0, 1) := by decide +kernel
theorem tw_1347 : Cond.constantLong RJ13 316 (3689348814741910323) ∈ wsL_law := List.mem_of_getElem? (i := 1347) (by decide +kernel)
theorem dJ13_bitCount_95d88_11 : decode cJ13_bitCount_95d88 11 = .ok (.ldc2_w 316, 3) := by decide +kernel
theorem dJ13_bitCount_95d88_14 : decode cJ13_bitCount_95d88 14 = .ok (.land, 1) := by decide +kernel
theorem dJ13_bitCount_95d88_15 : decode cJ13_bitCount_95d88 15 = .ok (.lload_n 0, 1) := by decide +kernel
theorem dJ13_bitCount_95d88_16 : decode cJ13_bitCount_95d88 16 = .ok (.iconst 2, 1) := by decide +kernel
theorem dJ13_bitCount_95d88_17 : decode cJ13_bitCount_95d88 17 = .ok (.lushr, 1) := by decide +kernel
theorem dJ13_bitCount_95d88_18 : decode cJ13_bitCount_95d88 18 = .ok (.ldc2_w 316, 3) := by decide +kernel
theorem dJ13_bitCount_95d88_21 : decode cJ13_bitCount_95d88 21 = .ok (.land, 1) := by decide +kernel
theorem dJ13_bitCount_95d88_22 : decode cJ13_bitCount_95d88 22 = .ok (.ladd, 1) := by decide +kernel
theorem dJ13_bitCount_95d88_23 : decode cJ13_bitCount_95d88 23 = .ok (.lstore_n 0, 1) := by decide +kernel
theorem dJ13_bitCount_95d88_24 : decode cJ13_bitCount_95d88 24 = .ok (.lload_n 0, 1) := by decide +kernel
theorem dJ13_bitCount_95d88_25 : decode cJ13_bitCount_95d88 25 = .ok (.lload_n 0, 1) := by decide +kernel
theorem dJ13_bitCount_95d88_26 : decode cJ13_bitCount_95d88 26 = .ok (.iconst 4, 1) := by decide +kernel
theorem dJ13_bitCount_95d88_27 : decode cJ13_bitCount_95d88 27 = .ok (.lushr, 1) := by decide +kernel
theorem dJ13_bitCount_95d88_28 : decode cJ13_bitCount_95d88 28 = .ok (.ladd, 1) := by decide +kernel
theorem tw_1348 : Cond.constantLong RJ13 318 (1085102592571150095) ∈ wsL_law := List.mem_of_getElem? (i := 1348) (by decide +kernel)
theorem dJ13_bitCount_95d88_29 : decode cJ13_bitCount_95d88 29 = .ok (.ldc2_w 318, 3) := by decide +kernel
theorem dJ13_bitCount_95d88_32 : decode cJ13_bitCount_95d88 32 = .ok (.land, 1) := by decide +kernel
theorem dJ13_bitCount_95d88_33 : decode cJ13_bitCount_95d88 33 = .ok (.lstore_n 0, 1) := by decide +kernel
theorem dJ13_bitCount_95d88_34 : decode cJ13_bitCount_95d88 34 = .ok (.lload_n 0, 1) := by decide +kernel
theorem dJ13_bitCount_95d88_35 : decode cJ13_bitCount_95d88 35 = .ok (.lload_n 0, 1) := by decide +kernel
theorem dJ13_bitCount_95d88_36 : decode cJ13_bitCount_95d88 36 = .ok (.bipush 8, 2) := by decide +kernel
theorem dJ13_bitCount_95d88_38 : decode cJ13_bitCount_95d88 38 = .ok (.lushr, 1) := by decide +kernel
theorem dJ13_bitCount_95d88_39 : decode cJ13_bitCount_95d88 39 = .ok (.ladd, 1) := by decide +kernel
theorem dJ13_bitCount_95d88_40 : decode cJ13_bitCount_95d88 40 = .ok (.lstore_n 0, 1) := by decide +kernel
theorem dJ13_bitCount_95d88_41 : decode cJ13_bitCount_95d88 41 = .ok (.lload_n 0, 1) := by decide +kernel
theorem dJ13_bitCount_95d88_42 : decode cJ13_bitCount_95d88 42 = .ok (.lload_n 0, 1) := by decide +kernel
theorem dJ13_bitCount_95d88_43 : decode cJ13_bitCount_95d88 43 = .ok (.bipush 16, 2) := by decide +kernel
theorem dJ13_bitCount_95d88_45 : decode cJ13_bitCount_95d88 45 = .ok (.lushr, 1) := by decide +kernel
theorem dJ13_bitCount_95d88_46 : decode cJ13_bitCount_95d88 46 = .ok (.ladd, 1) := by decide +kernel
theorem dJ13_bitCount_95d88_47 : decode cJ13_bitCount_95d88 47 = .ok (.lstore_n 0, 1) := by decide +kernel
theorem dJ13_bitCount_95d88_48 : decode cJ13_bitCount_95d88 48 = .ok (.lload_n 0, 1) := by decide +kernel
theorem dJ13_bitCount_95d88_49 : decode cJ13_bitCount_95d88 49 = .ok (.lload_n 0, 1) := by decide +kernel
theorem dJ13_bitCount_95d88_50 : decode cJ13_bitCount_95d88 50 = .ok (.bipush 32, 2) := by decide +kernel
theorem dJ13_bitCount_95d88_52 : decode cJ13_bitCount_95d88 52 = .ok (.lushr, 1) := by decide +kernel
theorem dJ13_bitCount_95d88_53 : decode cJ13_bitCount_95d88 53 = .ok (.ladd, 1) := by decide +kernel
theorem dJ13_bitCount_95d88_54 : decode cJ13_bitCount_95d88 54 = .ok (.lstore_n 0, 1) := by decide +kernel
theorem dJ13_bitCount_95d88_55 : decode cJ13_bitCount_95d88 55 = .ok (.lload_n 0, 1) := by decide +kernel
theorem dJ13_bitCount_95d88_56 : decode cJ13_bitCount_95d88 56 = .ok (.l2i, 1) := by decide +kernel
theorem dJ13_bitCount_95d88_57 : decode cJ13_bitCount_95d88 57 = .ok (.bipush 127, 2) := by decide +kernel
theorem dJ13_bitCount_95d88_59 : decode cJ13_bitCount_95d88 59 = .ok (.iand, 1) := by decide +kernel
theorem dJ13_bitCount_95d88_60 : decode cJ13_bitCount_95d88 60 = .ok (.ireturn, 1) := by decide +kernel
theorem dX2_measure_0 : decode cX2_measure 0 = .ok (.iload_n 1, 1) := by decide +kernel
theorem dX2_measure_1 : decode cX2_measure 1 = .ok (.istore_n 2, 1) := by decide +kernel
theorem dX2_measure_2 : decode cX2_measure 2 = .ok (.iconst 0, 1) := by decide +kernel
theorem dX2_measure_3 : decode cX2_measure 3 = .ok (.istore_n 3, 1) := by decide +kernel
theorem dX2_measure_4 : decode cX2_measure 4 = .ok (.iload_n 3, 1) := by decide +kernel
theorem dX2_measure_5 : decode cX2_measure 5 = .ok (.iload_n 1, 1) := by decide +kernel
theorem dX2_measure_6 : decode cX2_measure 6 = .ok (.if_icmp .gt 48, 3) := by decide +kernel
theorem dX2_measure_9 : decode cX2_measure 9 = .ok (.iload_n 3, 1) := by decide +kernel
theorem dX2_measure_10 : decode cX2_measure 10 = .ok (.aload_n 0, 1) := by decide +kernel
theorem tw_100 : Cond.fieldLink RX2 62 "RingsUnder$Land" "widths" "[I" ∈ wsL_law := List.mem_of_getElem? (i := 100) (by decide +kernel)
theorem dX2_measure_11 : decode cX2_measure 11 = .ok (.getfield 62, 3) := by decide +kernel
theorem dX2_measure_14 : decode cX2_measure 14 = .ok (.arraylength, 1) := by decide +kernel
theorem dX2_measure_15 : decode cX2_measure 15 = .ok (.if_icmp .ge 39, 3) := by decide +kernel
theorem dX2_measure_18 : decode cX2_measure 18 = .ok (.iload_n 2, 1) := by decide +kernel
theorem dX2_measure_19 : decode cX2_measure 19 = .ok (.ifCond .le 22, 3) := by decide +kernel
theorem dX2_measure_22 : decode cX2_measure 22 = .ok (.iload_n 2, 1) := by decide +kernel
theorem dX2_measure_23 : decode cX2_measure 23 = .ok (.iload_n 2, 1) := by decide +kernel
theorem dX2_measure_24 : decode cX2_measure 24 = .ok (.imul, 1) := by decide +kernel
theorem dX2_measure_25 : decode cX2_measure 25 = .ok (.iload_n 3, 1) := by decide +kernel
theorem dX2_measure_26 : decode cX2_measure 26 = .ok (.iload_n 3, 1) := by decide +kernel
theorem dX2_measure_27 : decode cX2_measure 27 = .ok (.imul, 1) := by decide +kernel
theorem dX2_measure_28 : decode cX2_measure 28 = .ok (.iadd, 1) := by decide +kernel
theorem dX2_measure_29 : decode cX2_measure 29 = .ok (.iload_n 1, 1) := by decide +kernel
theorem dX2_measure_30 : decode cX2_measure 30 = .ok (.iload_n 1, 1) := by decide +kernel
theorem dX2_measure_31 : decode cX2_measure 31 = .ok (.imul, 1) := by decide +kernel
theorem dX2_measure_32 : decode cX2_measure 32 = .ok (.if_icmp .le 9, 3) := by decide +kernel
theorem dX2_measure_41 : decode cX2_measure 41 = .ok (.aload_n 0, 1) := by decide +kernel
theorem dX2_measure_42 : decode cX2_measure 42 = .ok (.getfield 62, 3) := by decide +kernel
theorem dX2_measure_45 : decode cX2_measure 45 = .ok (.iload_n 3, 1) := by decide +kernel
theorem dX2_measure_46 : decode cX2_measure 46 = .ok (.iload_n 2, 1) := by decide +kernel
theorem dX2_measure_47 : decode cX2_measure 47 = .ok (.iastore, 1) := by decide +kernel
theorem dX2_measure_48 : decode cX2_measure 48 = .ok (.iinc 3 1, 3) := by decide +kernel
theorem dX2_measure_51 : decode cX2_measure 51 = .ok (.goto (-47), 3) := by decide +kernel
theorem dX2_measure_35 : decode cX2_measure 35 = .ok (.iinc 2 (-1), 3) := by decide +kernel
theorem dX2_measure_38 : decode cX2_measure 38 = .ok (.goto (-20), 3) := by decide +kernel
theorem dX2_measure_54 : decode cX2_measure 54 = .ok (.return_, 1) := by decide +kernel
theorem dX2_countArea_0 : decode cX2_countArea 0 = .ok (.aload_n 0, 1) := by decide +kernel
theorem tw_99 : Cond.fieldLink RX2 59 "RingsUnder$Land" "rows" "[I" ∈ wsL_law := List.mem_of_getElem? (i := 99) (by decide +kernel)
theorem dX2_countArea_1 : decode cX2_countArea 1 = .ok (.getfield 59, 3) := by decide +kernel
theorem dX2_countArea_4 : decode cX2_countArea 4 = .ok (.iconst 0, 1) := by decide +kernel
theorem tw_76 : Cond.code yX11_fill cX11_fill 3 none ∈ wsL_law := List.mem_of_getElem? (i := 76) (by decide +kernel)
theorem dX2_countArea_5 : decode cX2_countArea 5 = .ok (.invokestatic 65, 3) := by decide +kernel
theorem dX2_countArea_8 : decode cX2_countArea 8 = .ok (.aload_n 0, 1) := by decide +kernel
theorem dX2_countArea_9 : decode cX2_countArea 9 = .ok (.iload_n 3, 1) := by decide +kernel
theorem tw_1138 : Cond.methodLink RX2 125 yX2_measure ∈ wsL_law := List.mem_of_getElem? (i := 1138) (by decide +kernel)
theorem tw_1139 : Cond.instanceMethod yX2_measure ∈ wsL_law := List.mem_of_getElem? (i := 1139) (by decide +kernel)
theorem tw_1140 : Cond.selects RX2 yX2_measure yX2_measure ∈ wsL_law := List.mem_of_getElem? (i := 1140) (by decide +kernel)
theorem tw_1141 : Cond.code yX2_measure cX2_measure 4 none ∈ wsL_law := List.mem_of_getElem? (i := 1141) (by decide +kernel)
theorem dX2_countArea_10 : decode cX2_countArea 10 = .ok (.invokevirtual 125, 3) := by decide +kernel
theorem dX2_countArea_13 : decode cX2_countArea 13 = .ok (.iconst 0, 1) := by decide +kernel
theorem dX2_countArea_14 : decode cX2_countArea 14 = .ok (.istore 4, 2) := by decide +kernel
theorem dX2_countArea_16 : decode cX2_countArea 16 = .ok (.iload 4, 2) := by decide +kernel
theorem dX2_countArea_18 : decode cX2_countArea 18 = .ok (.aload_n 0, 1) := by decide +kernel
theorem dX2_countArea_19 : decode cX2_countArea 19 = .ok (.getfield 73, 3) := by decide +kernel
theorem dX2_countArea_22 : decode cX2_countArea 22 = .ok (.if_icmp .ge 37, 3) := by decide +kernel
theorem dX2_countArea_59 : decode cX2_countArea 59 = .ok (.iconst 0, 1) := by decide +kernel
theorem dX2_countArea_60 : decode cX2_countArea 60 = .ok (.istore 4, 2) := by decide +kernel
theorem dX2_countArea_62 : decode cX2_countArea 62 = .ok (.iconst 0, 1) := by decide +kernel
theorem dX2_countArea_63 : decode cX2_countArea 63 = .ok (.istore 5, 2) := by decide +kernel
theorem dX2_countArea_65 : decode cX2_countArea 65 = .ok (.iload 5, 2) := by decide +kernel
theorem dX2_countArea_67 : decode cX2_countArea 67 = .ok (.bipush 32, 2) := by decide +kernel
theorem dX2_countArea_69 : decode cX2_countArea 69 = .ok (.if_icmp .ge 24, 3) := by decide +kernel
theorem dX2_countArea_72 : decode cX2_countArea 72 = .ok (.iload 4, 2) := by decide +kernel
theorem dX2_countArea_74 : decode cX2_countArea 74 = .ok (.aload_n 0, 1) := by decide +kernel
theorem dX2_countArea_75 : decode cX2_countArea 75 = .ok (.getfield 59, 3) := by decide +kernel
theorem dX2_countArea_78 : decode cX2_countArea 78 = .ok (.iload 5, 2) := by decide +kernel
theorem dX2_countArea_80 : decode cX2_countArea 80 = .ok (.iaload, 1) := by decide +kernel
theorem tw_1147 : Cond.methodLink RX2 133 yJ6_bitCount_0f7a4 ∈ wsL_law := List.mem_of_getElem? (i := 1147) (by decide +kernel)
theorem tw_1148 : Cond.static yJ6_bitCount_0f7a4 ∈ wsL_law := List.mem_of_getElem? (i := 1148) (by decide +kernel)
theorem tw_492 : Cond.initialized RJ6 ∈ wsL_law := List.mem_of_getElem? (i := 492) (by decide +kernel)
theorem tw_1149 : Cond.code yJ6_bitCount_0f7a4 cJ6_bitCount_0f7a4 1 (some .int) ∈ wsL_law := List.mem_of_getElem? (i := 1149) (by decide +kernel)
theorem dX2_countArea_81 : decode cX2_countArea 81 = .ok (.invokestatic 133, 3) := by decide +kernel
theorem dX2_countArea_84 : decode cX2_countArea 84 = .ok (.iadd, 1) := by decide +kernel
theorem dX2_countArea_85 : decode cX2_countArea 85 = .ok (.istore 4, 2) := by decide +kernel
theorem dX2_countArea_87 : decode cX2_countArea 87 = .ok (.iinc 5 1, 3) := by decide +kernel
theorem dX2_countArea_90 : decode cX2_countArea 90 = .ok (.goto (-25), 3) := by decide +kernel
theorem dX2_countArea_93 : decode cX2_countArea 93 = .ok (.iload 4, 2) := by decide +kernel
theorem dX2_countArea_95 : decode cX2_countArea 95 = .ok (.ireturn, 1) := by decide +kernel
theorem dX9_fillUp_0 : decode cX9_fillUp 0 = .ok (.iconst 0, 1) := by decide +kernel
theorem dX9_fillUp_1 : decode cX9_fillUp 1 = .ok (.istore 5, 2) := by decide +kernel
theorem dX9_fillUp_3 : decode cX9_fillUp 3 = .ok (.iload 5, 2) := by decide +kernel
theorem dX9_fillUp_5 : decode cX9_fillUp 5 = .ok (.iload_n 1, 1) := by decide +kernel
theorem dX9_fillUp_6 : decode cX9_fillUp 6 = .ok (.if_icmp .ge 106, 3) := by decide +kernel
theorem dX9_fillUp_112 : decode cX9_fillUp 112 = .ok (.return_, 1) := by decide +kernel
theorem dX0_drink_0 : decode cX0_drink 0 = .ok (.aload_n 1, 1) := by decide +kernel
theorem tw_1098 : Cond.fieldLink RX0 77 "RingsUnder$Land" "first" "[I" ∈ wsL_law := List.mem_of_getElem? (i := 1098) (by decide +kernel)
theorem dX0_drink_1 : decode cX0_drink 1 = .ok (.getfield 77, 3) := by decide +kernel
theorem dX0_drink_4 : decode cX0_drink 4 = .ok (.aload_n 0, 1) := by decide +kernel
theorem tw_120 : Cond.fieldLink RX0 42 "RingsUnder$Folk" "ofRing" "[I" ∈ wsL_law := List.mem_of_getElem? (i := 120) (by decide +kernel)
theorem dX0_drink_5 : decode cX0_drink 5 = .ok (.getfield 42, 3) := by decide +kernel
theorem tw_1102 : Cond.code yX11_copy cX11_copy 2 none ∈ wsL_law := List.mem_of_getElem? (i := 1102) (by decide +kernel)
theorem dX0_drink_8 : decode cX0_drink 8 = .ok (.invokestatic 58, 3) := by decide +kernel
theorem dX0_drink_11 : decode cX0_drink 11 = .ok (.iconst 0, 1) := by decide +kernel
theorem dX0_drink_12 : decode cX0_drink 12 = .ok (.istore_n 2, 1) := by decide +kernel
theorem dX0_drink_13 : decode cX0_drink 13 = .ok (.iconst 0, 1) := by decide +kernel
theorem dX0_drink_14 : decode cX0_drink 14 = .ok (.istore_n 3, 1) := by decide +kernel
theorem dX0_drink_15 : decode cX0_drink 15 = .ok (.iload_n 3, 1) := by decide +kernel
theorem dX0_drink_16 : decode cX0_drink 16 = .ok (.aload_n 0, 1) := by decide +kernel
theorem tw_395 : Cond.fieldLink RX0 54 "RingsUnder$Folk" "persons" "I" ∈ wsL_law := List.mem_of_getElem? (i := 395) (by decide +kernel)
theorem dX0_drink_17 : decode cX0_drink 17 = .ok (.getfield 54, 3) := by decide +kernel
theorem dX0_drink_20 : decode cX0_drink 20 = .ok (.if_icmp .ge 84, 3) := by decide +kernel
theorem dX0_drink_104 : decode cX0_drink 104 = .ok (.iload_n 2, 1) := by decide +kernel
theorem dX0_drink_105 : decode cX0_drink 105 = .ok (.ireturn, 1) := by decide +kernel
theorem dX0_sleep_0 : decode cX0_sleep 0 = .ok (.iload_n 2, 1) := by decide +kernel
theorem dX0_sleep_1 : decode cX0_sleep 1 = .ok (.ifCond .lt 11, 3) := by decide +kernel
theorem dX0_sleep_4 : decode cX0_sleep 4 = .ok (.iload_n 2, 1) := by decide +kernel
theorem dX0_sleep_5 : decode cX0_sleep 5 = .ok (.iconst 5, 1) := by decide +kernel
theorem dX0_sleep_6 : decode cX0_sleep 6 = .ok (.iadd, 1) := by decide +kernel
theorem dX0_sleep_7 : decode cX0_sleep 7 = .ok (.aload_n 1, 1) := by decide +kernel
theorem dX0_sleep_8 : decode cX0_sleep 8 = .ok (.arraylength, 1) := by decide +kernel
theorem dX0_sleep_9 : decode cX0_sleep 9 = .ok (.if_icmp .le 5, 3) := by decide +kernel
theorem dX0_sleep_14 : decode cX0_sleep 14 = .ok (.aload_n 1, 1) := by decide +kernel
theorem dX0_sleep_15 : decode cX0_sleep 15 = .ok (.iload_n 2, 1) := by decide +kernel
theorem dX0_sleep_16 : decode cX0_sleep 16 = .ok (.aload_n 0, 1) := by decide +kernel
theorem dX0_sleep_17 : decode cX0_sleep 17 = .ok (.getfield 42, 3) := by decide +kernel
theorem dX0_sleep_20 : decode cX0_sleep 20 = .ok (.iconst 0, 1) := by decide +kernel
theorem dX0_sleep_21 : decode cX0_sleep 21 = .ok (.iconst 5, 1) := by decide +kernel
theorem tw_1124 : Cond.methodLink RX0 94 arraycopyName ∈ wsL_law := List.mem_of_getElem? (i := 1124) (by decide +kernel)
theorem dX0_sleep_22 : decode cX0_sleep 22 = .ok (.invokestatic 94, 3) := by decide +kernel
theorem dX0_sleep_25 : decode cX0_sleep 25 = .ok (.iconst 0, 1) := by decide +kernel
theorem dX0_sleep_26 : decode cX0_sleep 26 = .ok (.istore_n 3, 1) := by decide +kernel
theorem dX0_sleep_27 : decode cX0_sleep 27 = .ok (.iconst 0, 1) := by decide +kernel
theorem dX0_sleep_28 : decode cX0_sleep 28 = .ok (.istore 4, 2) := by decide +kernel
theorem dX0_sleep_30 : decode cX0_sleep 30 = .ok (.iload 4, 2) := by decide +kernel
theorem dX0_sleep_32 : decode cX0_sleep 32 = .ok (.aload_n 0, 1) := by decide +kernel
theorem dX0_sleep_33 : decode cX0_sleep 33 = .ok (.getfield 54, 3) := by decide +kernel
theorem dX0_sleep_36 : decode cX0_sleep 36 = .ok (.if_icmp .ge 66, 3) := by decide +kernel
theorem dX0_sleep_102 : decode cX0_sleep 102 = .ok (.iload_n 3, 1) := by decide +kernel
theorem dX0_sleep_103 : decode cX0_sleep 103 = .ok (.ireturn, 1) := by decide +kernel
theorem dX0_sendings_0 : decode cX0_sendings 0 = .ok (.iconst 0, 1) := by decide +kernel
theorem dX0_sendings_1 : decode cX0_sendings 1 = .ok (.istore_n 1, 1) := by decide +kernel
theorem dX0_sendings_2 : decode cX0_sendings 2 = .ok (.iconst 0, 1) := by decide +kernel
theorem dX0_sendings_3 : decode cX0_sendings 3 = .ok (.istore_n 2, 1) := by decide +kernel
theorem dX0_sendings_4 : decode cX0_sendings 4 = .ok (.iload_n 2, 1) := by decide +kernel
theorem dX0_sendings_5 : decode cX0_sendings 5 = .ok (.aload_n 0, 1) := by decide +kernel
theorem dX0_sendings_6 : decode cX0_sendings 6 = .ok (.getfield 54, 3) := by decide +kernel
theorem dX0_sendings_9 : decode cX0_sendings 9 = .ok (.if_icmp .ge 30, 3) := by decide +kernel
theorem dX0_sendings_39 : decode cX0_sendings 39 = .ok (.iload_n 1, 1) := by decide +kernel
theorem dX0_sendings_40 : decode cX0_sendings 40 = .ok (.ireturn, 1) := by decide +kernel
theorem dX0_onRings_0 : decode cX0_onRings 0 = .ok (.lconst 0, 1) := by decide +kernel
theorem dX0_onRings_1 : decode cX0_onRings 1 = .ok (.lstore_n 1, 1) := by decide +kernel
theorem dX0_onRings_2 : decode cX0_onRings 2 = .ok (.iconst 0, 1) := by decide +kernel
theorem dX0_onRings_3 : decode cX0_onRings 3 = .ok (.istore_n 3, 1) := by decide +kernel
theorem dX0_onRings_4 : decode cX0_onRings 4 = .ok (.iload_n 3, 1) := by decide +kernel
theorem dX0_onRings_5 : decode cX0_onRings 5 = .ok (.aload_n 0, 1) := by decide +kernel
theorem dX0_onRings_6 : decode cX0_onRings 6 = .ok (.getfield 54, 3) := by decide +kernel
theorem dX0_onRings_9 : decode cX0_onRings 9 = .ok (.if_icmp .ge 23, 3) := by decide +kernel
theorem dX0_onRings_32 : decode cX0_onRings 32 = .ok (.lload_n 1, 1) := by decide +kernel
theorem dX0_onRings_33 : decode cX0_onRings 33 = .ok (.lreturn, 1) := by decide +kernel
theorem dX0_notDead_0 : decode cX0_notDead 0 = .ok (.lconst 0, 1) := by decide +kernel
theorem dX0_notDead_1 : decode cX0_notDead 1 = .ok (.lstore_n 1, 1) := by decide +kernel
theorem dX0_notDead_2 : decode cX0_notDead 2 = .ok (.iconst 0, 1) := by decide +kernel
theorem dX0_notDead_3 : decode cX0_notDead 3 = .ok (.istore_n 3, 1) := by decide +kernel
theorem dX0_notDead_4 : decode cX0_notDead 4 = .ok (.iload_n 3, 1) := by decide +kernel
theorem dX0_notDead_5 : decode cX0_notDead 5 = .ok (.aload_n 0, 1) := by decide +kernel
theorem dX0_notDead_6 : decode cX0_notDead 6 = .ok (.getfield 54, 3) := by decide +kernel
theorem dX0_notDead_9 : decode cX0_notDead 9 = .ok (.if_icmp .ge 27, 3) := by decide +kernel
theorem dX0_notDead_36 : decode cX0_notDead 36 = .ok (.lload_n 1, 1) := by decide +kernel
theorem dX0_notDead_37 : decode cX0_notDead 37 = .ok (.lreturn, 1) := by decide +kernel
theorem dX0_countVotes_0 : decode cX0_countVotes 0 = .ok (.iconst 0, 1) := by decide +kernel
theorem dX0_countVotes_1 : decode cX0_countVotes 1 = .ok (.istore 4, 2) := by decide +kernel
theorem dX0_countVotes_3 : decode cX0_countVotes 3 = .ok (.iconst 0, 1) := by decide +kernel
theorem dX0_countVotes_4 : decode cX0_countVotes 4 = .ok (.istore 5, 2) := by decide +kernel
theorem dX0_countVotes_6 : decode cX0_countVotes 6 = .ok (.iload 5, 2) := by decide +kernel
theorem dX0_countVotes_8 : decode cX0_countVotes 8 = .ok (.aload_n 0, 1) := by decide +kernel
theorem dX0_countVotes_9 : decode cX0_countVotes 9 = .ok (.getfield 54, 3) := by decide +kernel
theorem dX0_countVotes_12 : decode cX0_countVotes 12 = .ok (.if_icmp .ge 32, 3) := by decide +kernel
theorem dX0_countVotes_44 : decode cX0_countVotes 44 = .ok (.iload 4, 2) := by decide +kernel
theorem dX0_countVotes_46 : decode cX0_countVotes 46 = .ok (.ireturn, 1) := by decide +kernel
theorem dX0_countAt_0 : decode cX0_countAt 0 = .ok (.iconst 0, 1) := by decide +kernel
theorem dX0_countAt_1 : decode cX0_countAt 1 = .ok (.istore_n 2, 1) := by decide +kernel
theorem dX0_countAt_2 : decode cX0_countAt 2 = .ok (.iconst 0, 1) := by decide +kernel
theorem dX0_countAt_3 : decode cX0_countAt 3 = .ok (.istore_n 3, 1) := by decide +kernel
theorem dX0_countAt_4 : decode cX0_countAt 4 = .ok (.iload_n 3, 1) := by decide +kernel
theorem dX0_countAt_5 : decode cX0_countAt 5 = .ok (.aload_n 0, 1) := by decide +kernel
theorem dX0_countAt_6 : decode cX0_countAt 6 = .ok (.getfield 54, 3) := by decide +kernel
theorem dX0_countAt_9 : decode cX0_countAt 9 = .ok (.if_icmp .ge 22, 3) := by decide +kernel
theorem dX0_countAt_31 : decode cX0_countAt 31 = .ok (.iload_n 2, 1) := by decide +kernel
theorem dX0_countAt_32 : decode cX0_countAt 32 = .ok (.ireturn, 1) := by decide +kernel
theorem dX3_textFor_0 : decode cX3_textFor 0 = .ok (.aload_n 0, 1) := by decide +kernel
theorem tw_473 : Cond.fieldLink RX3 37 "RingsUnder$Law" "forces" "I" ∈ wsL_law := List.mem_of_getElem? (i := 473) (by decide +kernel)
theorem dX3_textFor_1 : decode cX3_textFor 1 = .ok (.getfield 37, 3) := by decide +kernel
theorem dX3_textFor_4 : decode cX3_textFor 4 = .ok (.iconst 1, 1) := by decide +kernel
theorem dX3_textFor_5 : decode cX3_textFor 5 = .ok (.isub, 1) := by decide +kernel
theorem dX3_textFor_6 : decode cX3_textFor 6 = .ok (.istore_n 3, 1) := by decide +kernel
theorem dX3_textFor_7 : decode cX3_textFor 7 = .ok (.iload_n 3, 1) := by decide +kernel
theorem dX3_textFor_8 : decode cX3_textFor 8 = .ok (.ifCond .lt 60, 3) := by decide +kernel
theorem dX3_textFor_68 : decode cX3_textFor 68 = .ok (.aconst_null, 1) := by decide +kernel
theorem dX3_textFor_69 : decode cX3_textFor 69 = .ok (.areturn, 1) := by decide +kernel
theorem dX3_numberIn_0 : decode cX3_numberIn 0 = .ok (.aload_n 0, 1) := by decide +kernel
theorem dX3_numberIn_1 : decode cX3_numberIn 1 = .ok (.iload_n 1, 1) := by decide +kernel
theorem dX3_numberIn_2 : decode cX3_numberIn 2 = .ok (.iload_n 2, 1) := by decide +kernel
theorem tw_469 : Cond.methodLink RX3 52 yX3_textFor ∈ wsL_law := List.mem_of_getElem? (i := 469) (by decide +kernel)
theorem tw_470 : Cond.instanceMethod yX3_textFor ∈ wsL_law := List.mem_of_getElem? (i := 470) (by decide +kernel)
theorem tw_471 : Cond.selects RX3 yX3_textFor yX3_textFor ∈ wsL_law := List.mem_of_getElem? (i := 471) (by decide +kernel)
theorem tw_49 : Cond.initialized RX3 ∈ wsL_law := List.mem_of_getElem? (i := 49) (by decide +kernel)
theorem tw_472 : Cond.code yX3_textFor cX3_textFor 5 (some (.object "RingsUnder$Text")) ∈ wsL_law := List.mem_of_getElem? (i := 472) (by decide +kernel)
theorem dX3_numberIn_3 : decode cX3_numberIn 3 = .ok (.invokevirtual 52, 3) := by decide +kernel
theorem dX3_numberIn_6 : decode cX3_numberIn 6 = .ok (.astore 4, 2) := by decide +kernel
theorem dX3_numberIn_8 : decode cX3_numberIn 8 = .ok (.aload 4, 2) := by decide +kernel
theorem dX3_numberIn_10 : decode cX3_numberIn 10 = .ok (.ifnonnull 7, 3) := by decide +kernel
theorem dX3_numberIn_13 : decode cX3_numberIn 13 = .ok (.iload_n 3, 1) := by decide +kernel
theorem dX3_numberIn_14 : decode cX3_numberIn 14 = .ok (.goto 10, 3) := by decide +kernel
theorem dX3_numberIn_24 : decode cX3_numberIn 24 = .ok (.ireturn, 1) := by decide +kernel
theorem dX3_councilIn_0 : decode cX3_councilIn 0 = .ok (.aload_n 0, 1) := by decide +kernel
theorem dX3_councilIn_1 : decode cX3_councilIn 1 = .ok (.bipush 6, 2) := by decide +kernel
theorem dX3_councilIn_3 : decode cX3_councilIn 3 = .ok (.iload_n 1, 1) := by decide +kernel
theorem dX3_councilIn_4 : decode cX3_councilIn 4 = .ok (.bipush 50, 2) := by decide +kernel
theorem tw_995 : Cond.methodLink RX3 48 yX3_numberIn ∈ wsL_law := List.mem_of_getElem? (i := 995) (by decide +kernel)
theorem tw_996 : Cond.instanceMethod yX3_numberIn ∈ wsL_law := List.mem_of_getElem? (i := 996) (by decide +kernel)
theorem tw_997 : Cond.selects RX3 yX3_numberIn yX3_numberIn ∈ wsL_law := List.mem_of_getElem? (i := 997) (by decide +kernel)
theorem tw_998 : Cond.code yX3_numberIn cX3_numberIn 5 (some .int) ∈ wsL_law := List.mem_of_getElem? (i := 998) (by decide +kernel)
theorem dX3_councilIn_6 : decode cX3_councilIn 6 = .ok (.invokevirtual 48, 3) := by decide +kernel
theorem dX3_councilIn_9 : decode cX3_councilIn 9 = .ok (.ireturn, 1) := by decide +kernel
theorem dX3_leaveIn_0 : decode cX3_leaveIn 0 = .ok (.aload_n 0, 1) := by decide +kernel
theorem dX3_leaveIn_1 : decode cX3_leaveIn 1 = .ok (.bipush 8, 2) := by decide +kernel
theorem dX3_leaveIn_3 : decode cX3_leaveIn 3 = .ok (.iload_n 1, 1) := by decide +kernel
theorem dX3_leaveIn_4 : decode cX3_leaveIn 4 = .ok (.bipush 10, 2) := by decide +kernel
theorem dX3_leaveIn_6 : decode cX3_leaveIn 6 = .ok (.invokevirtual 48, 3) := by decide +kernel
theorem dX3_leaveIn_9 : decode cX3_leaveIn 9 = .ok (.ireturn, 1) := by decide +kernel
theorem dX3_fixIn_0 : decode cX3_fixIn 0 = .ok (.aload_n 0, 1) := by decide +kernel
theorem dX3_fixIn_1 : decode cX3_fixIn 1 = .ok (.bipush 7, 2) := by decide +kernel
theorem dX3_fixIn_3 : decode cX3_fixIn 3 = .ok (.iload_n 1, 1) := by decide +kernel
theorem dX3_fixIn_4 : decode cX3_fixIn 4 = .ok (.iconst (-1), 1) := by decide +kernel
theorem dX3_fixIn_5 : decode cX3_fixIn 5 = .ok (.invokevirtual 48, 3) := by decide +kernel
theorem dX3_fixIn_8 : decode cX3_fixIn 8 = .ok (.ireturn, 1) := by decide +kernel
theorem dX3_whoIsSo_0 : decode cX3_whoIsSo 0 = .ok (.aload_n 0, 1) := by decide +kernel
theorem dX3_whoIsSo_1 : decode cX3_whoIsSo 1 = .ok (.iload_n 1, 1) := by decide +kernel
theorem dX3_whoIsSo_2 : decode cX3_whoIsSo 2 = .ok (.iload_n 2, 1) := by decide +kernel
theorem dX3_whoIsSo_3 : decode cX3_whoIsSo 3 = .ok (.invokevirtual 52, 3) := by decide +kernel
theorem dX3_whoIsSo_6 : decode cX3_whoIsSo 6 = .ok (.astore 6, 2) := by decide +kernel
theorem dX3_whoIsSo_8 : decode cX3_whoIsSo 8 = .ok (.aload 6, 2) := by decide +kernel
theorem dX3_whoIsSo_10 : decode cX3_whoIsSo 10 = .ok (.ifnonnull 6, 3) := by decide +kernel
theorem dX3_whoIsSo_13 : decode cX3_whoIsSo 13 = .ok (.lload 4, 2) := by decide +kernel
theorem dX3_whoIsSo_15 : decode cX3_whoIsSo 15 = .ok (.lreturn, 1) := by decide +kernel
set_option maxHeartbeats 4000000 in
set_option maxRecDepth 100000 in
theorem c_J6_bitCount_0f7a4 (l : Launch) (D : va_G) (t : pq_T) (σ : pq_S) (I : Nat → Nat → Int32) (J : Nat → Nat → Int64) (ri : Nat → Nat → Int32) (rj : Nat → Nat → Int64) (rq : Nat → Nat → Option Nat) (sz : Nat) : MetI l yJ6_bitCount_0f7a4 (wa yJ6_bitCount_0f7a4 cJ6_bitCount_0f7a4 1 (some .int)) ({ frames := 0, cells := 0, slots := 0, locals := 0 }) [.int 0] D t σ (I, J, ri, rj, rq) sz 0 0 (fun (r : Int32) (u : pq_S × pq_M) => u = (σ, I, J, ri, rj, rq) ∧ ((r = 0))) := by
  refine Met.ofW (cc := cJ6_bitCount_0f7a4) (maxL := 1) (ret := (some .int)) (by decide) rfl ?_
  intro p e s m args below meth c s₁ B hml hv
  obtain ⟨rfl, hsz, hP, hK, hD0, hN⟩ := hv
  have hx := B.exec
  have hb := B.bytes
  have hr := B.returns
  have hts := atoms_spec (ws := (wa yJ6_bitCount_0f7a4 cJ6_bitCount_0f7a4 1 (some .int))) B.pre
  have hown : s.vm.findClass RJ6 = some m.cls := findClass_of_methodNamed B.named
  have hlocks := B.notSynchronized
  subst hsz
  have hD : va_D (pq_B t σ (I, J, ri, rj, rq) s.heap.size) (pq_P t σ (I, J, ri, rj, rq)) := hD0.self
  generalize hAe : pq_B t σ (I, J, ri, rj, rq) s.heap.size = A at hD ⊢
  have hA : ∀ q : Nat, s.heap.size ≤ q → A q := fun q h => by rw [← hAe]; exact Or.inr h
  have hS : va_S A s.heap s.heap [] := va_S.rf
  have hl := lv_entry ([.int 0]) (n := 1) (Nat.le_of_ble_eq_true rfl)
  rw [lg_entry_eq]
  generalize (lg_sl ([.int 0]) ++ List.replicate (1 - (lg_sl ([.int 0])).length) Slot.unset).toArray = ls at hl ⊢
  have hl : lv_has ls 1 [(0, .int 0)] := hl
  refine lv_iload_n hx hb dJ6_bitCount_0f7a4_0 rfl (lv_at hl 0 rfl) ?_
  refine lv_iload_n hx hb dJ6_bitCount_0f7a4_1 rfl (lv_at hl 0 rfl) ?_
  refine lv_iconst (v := 1) hx hb dJ6_bitCount_0f7a4_2 (by decide) ?_
  refine lv_iushr (v := 0) hx hb dJ6_bitCount_0f7a4_3 (by decide) ?_
  refine lv_ldcw hx hb hown (hts _ (tw_c tw_1150)) dJ6_bitCount_0f7a4_4 ?_
  refine lv_iand hx hb dJ6_bitCount_0f7a4_7 ?_
  refine lv_tov 0 (by decide) ?_
  refine lv_isub hx hb dJ6_bitCount_0f7a4_8 ?_
  refine lv_tov 0 (by decide) ?_
  refine lv_istore_n (lv' := [(0, .int 0)]) hx hb dJ6_bitCount_0f7a4_9 rfl hl (by decide) rfl (fun ls hl => ?_)
  refine lv_iload_n hx hb dJ6_bitCount_0f7a4_10 rfl (lv_at hl 0 rfl) ?_
  refine lv_ldcw hx hb hown (hts _ (tw_c tw_1151)) dJ6_bitCount_0f7a4_11 ?_
  refine lv_iand hx hb dJ6_bitCount_0f7a4_14 ?_
  refine lv_tov 0 (by decide) ?_
  refine lv_iload_n hx hb dJ6_bitCount_0f7a4_15 rfl (lv_at hl 0 rfl) ?_
  refine lv_iconst (v := 2) hx hb dJ6_bitCount_0f7a4_16 (by decide) ?_
  refine lv_iushr (v := 0) hx hb dJ6_bitCount_0f7a4_17 (by decide) ?_
  refine lv_ldcw hx hb hown (hts _ (tw_c tw_1151)) dJ6_bitCount_0f7a4_18 ?_
  refine lv_iand hx hb dJ6_bitCount_0f7a4_21 ?_
  refine lv_tov 0 (by decide) ?_
  refine lv_iadd hx hb dJ6_bitCount_0f7a4_22 ?_
  refine lv_tov 0 (by decide) ?_
  refine lv_istore_n (lv' := [(0, .int 0)]) hx hb dJ6_bitCount_0f7a4_23 rfl hl (by decide) rfl (fun ls hl => ?_)
  refine lv_iload_n hx hb dJ6_bitCount_0f7a4_24 rfl (lv_at hl 0 rfl) ?_
  refine lv_iload_n hx hb dJ6_bitCount_0f7a4_25 rfl (lv_at hl 0 rfl) ?_
  refine lv_iconst (v := 4) hx hb dJ6_bitCount_0f7a4_26 (by decide) ?_
  refine lv_iushr (v := 0) hx hb dJ6_bitCount_0f7a4_27 (by decide) ?_
  refine lv_iadd hx hb dJ6_bitCount_0f7a4_28 ?_
  refine lv_tov 0 (by decide) ?_
  refine lv_ldcw hx hb hown (hts _ (tw_c tw_1152)) dJ6_bitCount_0f7a4_29 ?_
  refine lv_iand hx hb dJ6_bitCount_0f7a4_32 ?_
  refine lv_tov 0 (by decide) ?_
  refine lv_istore_n (lv' := [(0, .int 0)]) hx hb dJ6_bitCount_0f7a4_33 rfl hl (by decide) rfl (fun ls hl => ?_)
  refine lv_iload_n hx hb dJ6_bitCount_0f7a4_34 rfl (lv_at hl 0 rfl) ?_
  refine lv_iload_n hx hb dJ6_bitCount_0f7a4_35 rfl (lv_at hl 0 rfl) ?_
  refine lv_bipush (v := 8) hx hb dJ6_bitCount_0f7a4_36 (by decide) ?_
  refine lv_iushr (v := 0) hx hb dJ6_bitCount_0f7a4_38 (by decide) ?_
  refine lv_iadd hx hb dJ6_bitCount_0f7a4_39 ?_
  refine lv_tov 0 (by decide) ?_
  refine lv_istore_n (lv' := [(0, .int 0)]) hx hb dJ6_bitCount_0f7a4_40 rfl hl (by decide) rfl (fun ls hl => ?_)
  refine lv_iload_n hx hb dJ6_bitCount_0f7a4_41 rfl (lv_at hl 0 rfl) ?_
  refine lv_iload_n hx hb dJ6_bitCount_0f7a4_42 rfl (lv_at hl 0 rfl) ?_
  refine lv_bipush (v := 16) hx hb dJ6_bitCount_0f7a4_43 (by decide) ?_
  refine lv_iushr (v := 0) hx hb dJ6_bitCount_0f7a4_45 (by decide) ?_
  refine lv_iadd hx hb dJ6_bitCount_0f7a4_46 ?_
  refine lv_tov 0 (by decide) ?_
  refine lv_istore_n (lv' := [(0, .int 0)]) hx hb dJ6_bitCount_0f7a4_47 rfl hl (by decide) rfl (fun ls hl => ?_)
  refine lv_iload_n hx hb dJ6_bitCount_0f7a4_48 rfl (lv_at hl 0 rfl) ?_
  refine lv_bipush (v := 63) hx hb dJ6_bitCount_0f7a4_49 (by decide) ?_
  refine lv_iand hx hb dJ6_bitCount_0f7a4_51 ?_
  refine lv_tov 0 (by decide) ?_
  exact W.iret (v := 0) hx hb hr (fun t1 ht hW => ⟨⟨0, (σ, I, J, ri, rj, rq), rfl, ⟨rfl, rfl⟩, by rw [ht]; exact hP, va_K.moved hW.alike hK, hD⟩, hS.F ht⟩) hS.2.2 dJ6_bitCount_0f7a4_52

set_option maxHeartbeats 4000000 in
set_option maxRecDepth 100000 in
theorem c_J13_bitCount_95d88 (l : Launch) (D : va_G) (t : pq_T) (σ : pq_S) (I : Nat → Nat → Int32) (J : Nat → Nat → Int64) (ri : Nat → Nat → Int32) (rj : Nat → Nat → Int64) (rq : Nat → Nat → Option Nat) (sz : Nat) : MetI l yJ13_bitCount_95d88 (wa yJ13_bitCount_95d88 cJ13_bitCount_95d88 2 (some .int)) ({ frames := 0, cells := 0, slots := 0, locals := 0 }) [.long 0] D t σ (I, J, ri, rj, rq) sz 0 0 (fun (r : Int32) (u : pq_S × pq_M) => u = (σ, I, J, ri, rj, rq) ∧ ((r = 0))) := by
  refine Met.ofW (cc := cJ13_bitCount_95d88) (maxL := 2) (ret := (some .int)) (by decide) rfl ?_
  intro p e s m args below meth c s₁ B hml hv
  obtain ⟨rfl, hsz, hP, hK, hD0, hN⟩ := hv
  have hx := B.exec
  have hb := B.bytes
  have hr := B.returns
  have hts := atoms_spec (ws := (wa yJ13_bitCount_95d88 cJ13_bitCount_95d88 2 (some .int))) B.pre
  have hown : s.vm.findClass RJ13 = some m.cls := findClass_of_methodNamed B.named
  have hlocks := B.notSynchronized
  subst hsz
  have hD : va_D (pq_B t σ (I, J, ri, rj, rq) s.heap.size) (pq_P t σ (I, J, ri, rj, rq)) := hD0.self
  generalize hAe : pq_B t σ (I, J, ri, rj, rq) s.heap.size = A at hD ⊢
  have hA : ∀ q : Nat, s.heap.size ≤ q → A q := fun q h => by rw [← hAe]; exact Or.inr h
  have hS : va_S A s.heap s.heap [] := va_S.rf
  have hl := lv_entry ([.long 0]) (n := 2) (Nat.le_of_ble_eq_true rfl)
  rw [lg_entry_eq]
  generalize (lg_sl ([.long 0]) ++ List.replicate (2 - (lg_sl ([.long 0])).length) Slot.unset).toArray = ls at hl ⊢
  have hl : lv_has ls 2 [(0, .long 0)] := hl
  refine lv_lload_n hx hb dJ13_bitCount_95d88_0 rfl (lv_at hl 0 rfl) ?_
  refine lv_lload_n hx hb dJ13_bitCount_95d88_1 rfl (lv_at hl 0 rfl) ?_
  refine lv_iconst (v := 1) hx hb dJ13_bitCount_95d88_2 (by decide) ?_
  refine lv_lushr (v := 0) hx hb dJ13_bitCount_95d88_3 (by decide) ?_
  refine lv_ldc2 hx hb hown (hts _ (tw_c tw_1346)) dJ13_bitCount_95d88_4 ?_
  refine lv_land hx hb dJ13_bitCount_95d88_7 ?_
  refine lv_tovl 0 (by decide) ?_
  refine lv_lsub hx hb dJ13_bitCount_95d88_8 ?_
  refine lv_tovl 0 (by decide) ?_
  refine lv_lstore_n (lv' := [(0, .long 0)]) hx hb dJ13_bitCount_95d88_9 rfl hl (by decide) rfl (fun ls hl => ?_)
  refine lv_lload_n hx hb dJ13_bitCount_95d88_10 rfl (lv_at hl 0 rfl) ?_
  refine lv_ldc2 hx hb hown (hts _ (tw_c tw_1347)) dJ13_bitCount_95d88_11 ?_
  refine lv_land hx hb dJ13_bitCount_95d88_14 ?_
  refine lv_tovl 0 (by decide) ?_
  refine lv_lload_n hx hb dJ13_bitCount_95d88_15 rfl (lv_at hl 0 rfl) ?_
  refine lv_iconst (v := 2) hx hb dJ13_bitCount_95d88_16 (by decide) ?_
  refine lv_lushr (v := 0) hx hb dJ13_bitCount_95d88_17 (by decide) ?_
  refine lv_ldc2 hx hb hown (hts _ (tw_c tw_1347)) dJ13_bitCount_95d88_18 ?_
  refine lv_land hx hb dJ13_bitCount_95d88_21 ?_
  refine lv_tovl 0 (by decide) ?_
  refine lv_ladd hx hb dJ13_bitCount_95d88_22 ?_
  refine lv_tovl 0 (by decide) ?_
  refine lv_lstore_n (lv' := [(0, .long 0)]) hx hb dJ13_bitCount_95d88_23 rfl hl (by decide) rfl (fun ls hl => ?_)
  refine lv_lload_n hx hb dJ13_bitCount_95d88_24 rfl (lv_at hl 0 rfl) ?_
  refine lv_lload_n hx hb dJ13_bitCount_95d88_25 rfl (lv_at hl 0 rfl) ?_
  refine lv_iconst (v := 4) hx hb dJ13_bitCount_95d88_26 (by decide) ?_
  refine lv_lushr (v := 0) hx hb dJ13_bitCount_95d88_27 (by decide) ?_
  refine lv_ladd hx hb dJ13_bitCount_95d88_28 ?_
  refine lv_tovl 0 (by decide) ?_
  refine lv_ldc2 hx hb hown (hts _ (tw_c tw_1348)) dJ13_bitCount_95d88_29 ?_
  refine lv_land hx hb dJ13_bitCount_95d88_32 ?_
  refine lv_tovl 0 (by decide) ?_
  refine lv_lstore_n (lv' := [(0, .long 0)]) hx hb dJ13_bitCount_95d88_33 rfl hl (by decide) rfl (fun ls hl => ?_)
  refine lv_lload_n hx hb dJ13_bitCount_95d88_34 rfl (lv_at hl 0 rfl) ?_
  refine lv_lload_n hx hb dJ13_bitCount_95d88_35 rfl (lv_at hl 0 rfl) ?_
  refine lv_bipush (v := 8) hx hb dJ13_bitCount_95d88_36 (by decide) ?_
  refine lv_lushr (v := 0) hx hb dJ13_bitCount_95d88_38 (by decide) ?_
  refine lv_ladd hx hb dJ13_bitCount_95d88_39 ?_
  refine lv_tovl 0 (by decide) ?_
  refine lv_lstore_n (lv' := [(0, .long 0)]) hx hb dJ13_bitCount_95d88_40 rfl hl (by decide) rfl (fun ls hl => ?_)
  refine lv_lload_n hx hb dJ13_bitCount_95d88_41 rfl (lv_at hl 0 rfl) ?_
  refine lv_lload_n hx hb dJ13_bitCount_95d88_42 rfl (lv_at hl 0 rfl) ?_
  refine lv_bipush (v := 16) hx hb dJ13_bitCount_95d88_43 (by decide) ?_
  refine lv_lushr (v := 0) hx hb dJ13_bitCount_95d88_45 (by decide) ?_
  refine lv_ladd hx hb dJ13_bitCount_95d88_46 ?_
  refine lv_tovl 0 (by decide) ?_
  refine lv_lstore_n (lv' := [(0, .long 0)]) hx hb dJ13_bitCount_95d88_47 rfl hl (by decide) rfl (fun ls hl => ?_)
  refine lv_lload_n hx hb dJ13_bitCount_95d88_48 rfl (lv_at hl 0 rfl) ?_
  refine lv_lload_n hx hb dJ13_bitCount_95d88_49 rfl (lv_at hl 0 rfl) ?_
  refine lv_bipush (v := 32) hx hb dJ13_bitCount_95d88_50 (by decide) ?_
  refine lv_lushr (v := 0) hx hb dJ13_bitCount_95d88_52 (by decide) ?_
  refine lv_ladd hx hb dJ13_bitCount_95d88_53 ?_
  refine lv_tovl 0 (by decide) ?_
  refine lv_lstore_n (lv' := [(0, .long 0)]) hx hb dJ13_bitCount_95d88_54 rfl hl (by decide) rfl (fun ls hl => ?_)
  refine lv_lload_n hx hb dJ13_bitCount_95d88_55 rfl (lv_at hl 0 rfl) ?_
  refine lv_l2i (v := 0) hx hb dJ13_bitCount_95d88_56 (by decide) ?_
  refine lv_bipush (v := 127) hx hb dJ13_bitCount_95d88_57 (by decide) ?_
  refine lv_iand hx hb dJ13_bitCount_95d88_59 ?_
  refine lv_tov 0 (by decide) ?_
  exact W.iret (v := 0) hx hb hr (fun t1 ht hW => ⟨⟨0, (σ, I, J, ri, rj, rq), rfl, ⟨rfl, rfl⟩, by rw [ht]; exact hP, va_K.moved hW.alike hK, hD⟩, hS.F ht⟩) hS.2.2 dJ13_bitCount_95d88_60

set_option maxHeartbeats 4000000 in
set_option maxRecDepth 100000 in
theorem c_X2_measure (l : Launch) (D : va_G) (t : pq_T) (σ : pq_S) (I : Nat → Nat → Int32) (J : Nat → Nat → Int64) (ri : Nat → Nat → Int32) (rj : Nat → Nat → Int64) (rq : Nat → Nat → Option Nat) (sz : Nat) (this : Nat) (hL_this : this ∈ σ.1) (hK_this : σ.2.1 this = 2) (this_widths : Nat) (hR_this_widths : σ.2.2.1 83 this = some this_widths) (hL_this_widths : this_widths ∈ σ.1) (hK_this_widths : σ.2.1 this_widths = 13) (hN_this_widths : σ.2.2.2 this_widths = 21) : MetV l yX2_measure (wa yX2_measure cX2_measure 4 none) ({ frames := 0, cells := 0, slots := 0, locals := 0 }) [.ref this, .int 3] D t σ (I, J, ri, rj, rq) sz 0 0 (fun (u : pq_S × pq_M) => ∃ ri' : Nat → Nat → Int32, u = (σ, I, J, ri', rj, rq) ∧ (∀ b, b ≠ this_widths → ri' b = ri b)) := by
  refine Met.ofW (cc := cX2_measure) (maxL := 4) (ret := none) (by decide) rfl ?_
  intro p e s m args below meth c s₁ B hml hv
  obtain ⟨rfl, hsz, hP, hK, hD0, hN⟩ := hv
  have hx := B.exec
  have hb := B.bytes
  have hr := B.returns
  have hts := atoms_spec (ws := (wa yX2_measure cX2_measure 4 none)) B.pre
  have hown : s.vm.findClass RX2 = some m.cls := findClass_of_methodNamed B.named
  have hlocks := B.notSynchronized
  subst hsz
  have hD : va_D (pq_B t σ (I, J, ri, rj, rq) s.heap.size) (pq_P t σ (I, J, ri, rj, rq)) := hD0.self
  generalize hAe : pq_B t σ (I, J, ri, rj, rq) s.heap.size = A at hD ⊢
  have hA : ∀ q : Nat, s.heap.size ≤ q → A q := fun q h => by rw [← hAe]; exact Or.inr h
  have hS : va_S A s.heap s.heap [] := va_S.rf
  have hl := lv_entry ([.ref this, .int 3]) (n := 4) (Nat.le_of_ble_eq_true rfl)
  rw [lg_entry_eq]
  generalize (lg_sl ([.ref this, .int 3]) ++ List.replicate (4 - (lg_sl ([.ref this, .int 3])).length) Slot.unset).toArray = ls at hl ⊢
  have hl : lv_has ls 4 [(0, .ref this), (1, .int 3)] := hl
  refine lv_iload_n hx hb dX2_measure_0 rfl (lv_at hl 1 rfl) ?_
  refine lv_istore_n (lv' := [(2, .int 3), (0, .ref this), (1, .int 3)]) hx hb dX2_measure_1 rfl hl (by decide) rfl (fun ls hl => ?_)
  refine lv_iconst (v := 0) hx hb dX2_measure_2 (by decide) ?_
  refine lv_istore_n (lv' := [(3, .int 0), (2, .int 3), (0, .ref this), (1, .int 3)]) hx hb dX2_measure_3 rfl hl (by decide) rfl (fun ls hl => ?_)
  refine lv_iload_n hx hb dX2_measure_4 rfl (lv_at hl 0 rfl) ?_
  refine lv_iload_n hx hb dX2_measure_5 rfl (lv_at hl 3 rfl) ?_
  refine lv_icmp_gt (tgt := 54) hx hb dX2_measure_6 (by decide) (fun c_1 => absurd c_1 (by decide)) (fun c_1 => ?_)
  refine lv_iload_n hx hb dX2_measure_9 rfl (lv_at hl 0 rfl) ?_
  refine lv_aload_n hx hb dX2_measure_10 rfl (lv_at hl 2 rfl) ?_
  refine pg_f (v := .ref this_widths) (C := RX2) (T := TX2) (N := 20) hx hb hts (tw_i inlX2) hown hK hP hL_this hK_this (by decide) rfl 19 (by decide) (hts _ (tw_c tw_100)) (pq_hv rfl hR_this_widths) dX2_measure_11 ?_
  refine pn_i (v := 21) hx hb hK hP hL_this_widths hK_this_widths hN_this_widths (by decide) dX2_measure_14 ?_
  refine lv_icmp_ge (tgt := 54) hx hb dX2_measure_15 (by decide) (fun c_2 => absurd c_2 (by decide)) (fun c_2 => ?_)
  refine lv_iload_n hx hb dX2_measure_18 rfl (lv_at hl 1 rfl) ?_
  refine lv_if_le (tgt := 41) hx hb dX2_measure_19 (by decide) (fun c_3 => absurd c_3 (by decide)) (fun c_3 => ?_)
  refine lv_iload_n hx hb dX2_measure_22 rfl (lv_at hl 1 rfl) ?_
  refine lv_iload_n hx hb dX2_measure_23 rfl (lv_at hl 1 rfl) ?_
  refine lv_imul hx hb dX2_measure_24 ?_
  refine lv_tov 9 (by decide) ?_
  refine lv_iload_n hx hb dX2_measure_25 rfl (lv_at hl 0 rfl) ?_
  refine lv_iload_n hx hb dX2_measure_26 rfl (lv_at hl 0 rfl) ?_
  refine lv_imul hx hb dX2_measure_27 ?_
  refine lv_tov 0 (by decide) ?_
  refine lv_iadd hx hb dX2_measure_28 ?_
  refine lv_tov 9 (by decide) ?_
  refine lv_iload_n hx hb dX2_measure_29 rfl (lv_at hl 3 rfl) ?_
  refine lv_iload_n hx hb dX2_measure_30 rfl (lv_at hl 3 rfl) ?_
  refine lv_imul hx hb dX2_measure_31 ?_
  refine lv_tov 9 (by decide) ?_
  refine lv_icmp_le (tgt := 41) hx hb dX2_measure_32 (by decide) (fun c_4 => ?_) (fun c_4 => absurd c_4 (by decide))
  refine lv_aload_n hx hb dX2_measure_41 rfl (lv_at hl 2 rfl) ?_
  refine pg_f (v := .ref this_widths) (C := RX2) (T := TX2) (N := 20) hx hb hts (tw_i inlX2) hown hK hP hL_this hK_this (by decide) rfl 19 (by decide) (hts _ (tw_c tw_100)) (pq_hv rfl hR_this_widths) dX2_measure_42 ?_
  refine lv_iload_n hx hb dX2_measure_45 rfl (lv_at hl 0 rfl) ?_
  refine lv_iload_n hx hb dX2_measure_46 rfl (lv_at hl 1 rfl) ?_
  refine pt_i hx hb hK hP hD hS hL_this_widths hK_this_widths hN_this_widths (vp_in_iff.mpr (by decide)) dX2_measure_47 (fun r_5 H locs er_5 hP hD hS => ?_)
  refine lv_iinc (v := 1) (lv' := [(3, .int 1), (2, .int 3), (0, .ref this), (1, .int 3)]) hx hb dX2_measure_48 hl (k := 0) rfl (by decide) (by decide) rfl (fun ls hl => ?_)
  refine lv_goto (tgt := 4) hx hb dX2_measure_51 (by decide) ?_
  refine lv_iload_n hx hb dX2_measure_4 rfl (lv_at hl 0 rfl) ?_
  refine lv_iload_n hx hb dX2_measure_5 rfl (lv_at hl 3 rfl) ?_
  refine lv_icmp_gt (tgt := 54) hx hb dX2_measure_6 (by decide) (fun c_6 => absurd c_6 (by decide)) (fun c_6 => ?_)
  refine lv_iload_n hx hb dX2_measure_9 rfl (lv_at hl 0 rfl) ?_
  refine lv_aload_n hx hb dX2_measure_10 rfl (lv_at hl 2 rfl) ?_
  refine pg_f (v := .ref this_widths) (C := RX2) (T := TX2) (N := 20) hx hb hts (tw_i inlX2) hown hK hP hL_this hK_this (by decide) rfl 19 (by decide) (hts _ (tw_c tw_100)) (pq_hv rfl hR_this_widths) dX2_measure_11 ?_
  refine pn_i (v := 21) hx hb hK hP hL_this_widths hK_this_widths hN_this_widths (by decide) dX2_measure_14 ?_
  refine lv_icmp_ge (tgt := 54) hx hb dX2_measure_15 (by decide) (fun c_7 => absurd c_7 (by decide)) (fun c_7 => ?_)
  refine lv_iload_n hx hb dX2_measure_18 rfl (lv_at hl 1 rfl) ?_
  refine lv_if_le (tgt := 41) hx hb dX2_measure_19 (by decide) (fun c_8 => absurd c_8 (by decide)) (fun c_8 => ?_)
  refine lv_iload_n hx hb dX2_measure_22 rfl (lv_at hl 1 rfl) ?_
  refine lv_iload_n hx hb dX2_measure_23 rfl (lv_at hl 1 rfl) ?_
  refine lv_imul hx hb dX2_measure_24 ?_
  refine lv_tov 9 (by decide) ?_
  refine lv_iload_n hx hb dX2_measure_25 rfl (lv_at hl 0 rfl) ?_
  refine lv_iload_n hx hb dX2_measure_26 rfl (lv_at hl 0 rfl) ?_
  refine lv_imul hx hb dX2_measure_27 ?_
  refine lv_tov 1 (by decide) ?_
  refine lv_iadd hx hb dX2_measure_28 ?_
  refine lv_tov 10 (by decide) ?_
  refine lv_iload_n hx hb dX2_measure_29 rfl (lv_at hl 3 rfl) ?_
  refine lv_iload_n hx hb dX2_measure_30 rfl (lv_at hl 3 rfl) ?_
  refine lv_imul hx hb dX2_measure_31 ?_
  refine lv_tov 9 (by decide) ?_
  refine lv_icmp_le (tgt := 41) hx hb dX2_measure_32 (by decide) (fun c_9 => absurd c_9 (by decide)) (fun c_9 => ?_)
  refine lv_iinc (v := 2) (lv' := [(2, .int 2), (3, .int 1), (0, .ref this), (1, .int 3)]) hx hb dX2_measure_35 hl (k := 1) rfl (by decide) (by decide) rfl (fun ls hl => ?_)
  refine lv_goto (tgt := 18) hx hb dX2_measure_38 (by decide) ?_
  refine lv_iload_n hx hb dX2_measure_18 rfl (lv_at hl 0 rfl) ?_
  refine lv_if_le (tgt := 41) hx hb dX2_measure_19 (by decide) (fun c_10 => absurd c_10 (by decide)) (fun c_10 => ?_)
  refine lv_iload_n hx hb dX2_measure_22 rfl (lv_at hl 0 rfl) ?_
  refine lv_iload_n hx hb dX2_measure_23 rfl (lv_at hl 0 rfl) ?_
  refine lv_imul hx hb dX2_measure_24 ?_
  refine lv_tov 4 (by decide) ?_
  refine lv_iload_n hx hb dX2_measure_25 rfl (lv_at hl 1 rfl) ?_
  refine lv_iload_n hx hb dX2_measure_26 rfl (lv_at hl 1 rfl) ?_
  refine lv_imul hx hb dX2_measure_27 ?_
  refine lv_tov 1 (by decide) ?_
  refine lv_iadd hx hb dX2_measure_28 ?_
  refine lv_tov 5 (by decide) ?_
  refine lv_iload_n hx hb dX2_measure_29 rfl (lv_at hl 3 rfl) ?_
  refine lv_iload_n hx hb dX2_measure_30 rfl (lv_at hl 3 rfl) ?_
  refine lv_imul hx hb dX2_measure_31 ?_
  refine lv_tov 9 (by decide) ?_
  refine lv_icmp_le (tgt := 41) hx hb dX2_measure_32 (by decide) (fun c_11 => ?_) (fun c_11 => absurd c_11 (by decide))
  refine lv_aload_n hx hb dX2_measure_41 rfl (lv_at hl 2 rfl) ?_
  refine pg_f (v := .ref this_widths) (C := RX2) (T := TX2) (N := 20) hx hb hts (tw_i inlX2) hown hK hP hL_this hK_this (by decide) rfl 19 (by decide) (hts _ (tw_c tw_100)) (pq_hv rfl hR_this_widths) dX2_measure_42 ?_
  refine lv_iload_n hx hb dX2_measure_45 rfl (lv_at hl 1 rfl) ?_
  refine lv_iload_n hx hb dX2_measure_46 rfl (lv_at hl 0 rfl) ?_
  refine pt_i hx hb hK hP hD hS hL_this_widths hK_this_widths hN_this_widths (vp_in_iff.mpr (by decide)) dX2_measure_47 (fun r_12 H locs er_12 hP hD hS => ?_)
  refine lv_iinc (v := 2) (lv' := [(3, .int 2), (2, .int 2), (0, .ref this), (1, .int 3)]) hx hb dX2_measure_48 hl (k := 1) rfl (by decide) (by decide) rfl (fun ls hl => ?_)
  refine lv_goto (tgt := 4) hx hb dX2_measure_51 (by decide) ?_
  refine lv_iload_n hx hb dX2_measure_4 rfl (lv_at hl 0 rfl) ?_
  refine lv_iload_n hx hb dX2_measure_5 rfl (lv_at hl 3 rfl) ?_
  refine lv_icmp_gt (tgt := 54) hx hb dX2_measure_6 (by decide) (fun c_13 => absurd c_13 (by decide)) (fun c_13 => ?_)
  refine lv_iload_n hx hb dX2_measure_9 rfl (lv_at hl 0 rfl) ?_
  refine lv_aload_n hx hb dX2_measure_10 rfl (lv_at hl 2 rfl) ?_
  refine pg_f (v := .ref this_widths) (C := RX2) (T := TX2) (N := 20) hx hb hts (tw_i inlX2) hown hK hP hL_this hK_this (by decide) rfl 19 (by decide) (hts _ (tw_c tw_100)) (pq_hv rfl hR_this_widths) dX2_measure_11 ?_
  refine pn_i (v := 21) hx hb hK hP hL_this_widths hK_this_widths hN_this_widths (by decide) dX2_measure_14 ?_
  refine lv_icmp_ge (tgt := 54) hx hb dX2_measure_15 (by decide) (fun c_14 => absurd c_14 (by decide)) (fun c_14 => ?_)
  refine lv_iload_n hx hb dX2_measure_18 rfl (lv_at hl 1 rfl) ?_
  refine lv_if_le (tgt := 41) hx hb dX2_measure_19 (by decide) (fun c_15 => absurd c_15 (by decide)) (fun c_15 => ?_)
  refine lv_iload_n hx hb dX2_measure_22 rfl (lv_at hl 1 rfl) ?_
  refine lv_iload_n hx hb dX2_measure_23 rfl (lv_at hl 1 rfl) ?_
  refine lv_imul hx hb dX2_measure_24 ?_
  refine lv_tov 4 (by decide) ?_
  refine lv_iload_n hx hb dX2_measure_25 rfl (lv_at hl 0 rfl) ?_
  refine lv_iload_n hx hb dX2_measure_26 rfl (lv_at hl 0 rfl) ?_
  refine lv_imul hx hb dX2_measure_27 ?_
  refine lv_tov 4 (by decide) ?_
  refine lv_iadd hx hb dX2_measure_28 ?_
  refine lv_tov 8 (by decide) ?_
  refine lv_iload_n hx hb dX2_measure_29 rfl (lv_at hl 3 rfl) ?_
  refine lv_iload_n hx hb dX2_measure_30 rfl (lv_at hl 3 rfl) ?_
  refine lv_imul hx hb dX2_measure_31 ?_
  refine lv_tov 9 (by decide) ?_
  refine lv_icmp_le (tgt := 41) hx hb dX2_measure_32 (by decide) (fun c_16 => ?_) (fun c_16 => absurd c_16 (by decide))
  refine lv_aload_n hx hb dX2_measure_41 rfl (lv_at hl 2 rfl) ?_
  refine pg_f (v := .ref this_widths) (C := RX2) (T := TX2) (N := 20) hx hb hts (tw_i inlX2) hown hK hP hL_this hK_this (by decide) rfl 19 (by decide) (hts _ (tw_c tw_100)) (pq_hv rfl hR_this_widths) dX2_measure_42 ?_
  refine lv_iload_n hx hb dX2_measure_45 rfl (lv_at hl 0 rfl) ?_
  refine lv_iload_n hx hb dX2_measure_46 rfl (lv_at hl 1 rfl) ?_
  refine pt_i hx hb hK hP hD hS hL_this_widths hK_this_widths hN_this_widths (vp_in_iff.mpr (by decide)) dX2_measure_47 (fun r_17 H locs er_17 hP hD hS => ?_)
  refine lv_iinc (v := 3) (lv' := [(3, .int 3), (2, .int 2), (0, .ref this), (1, .int 3)]) hx hb dX2_measure_48 hl (k := 0) rfl (by decide) (by decide) rfl (fun ls hl => ?_)
  refine lv_goto (tgt := 4) hx hb dX2_measure_51 (by decide) ?_
  refine lv_iload_n hx hb dX2_measure_4 rfl (lv_at hl 0 rfl) ?_
  refine lv_iload_n hx hb dX2_measure_5 rfl (lv_at hl 3 rfl) ?_
  refine lv_icmp_gt (tgt := 54) hx hb dX2_measure_6 (by decide) (fun c_18 => absurd c_18 (by decide)) (fun c_18 => ?_)
  refine lv_iload_n hx hb dX2_measure_9 rfl (lv_at hl 0 rfl) ?_
  refine lv_aload_n hx hb dX2_measure_10 rfl (lv_at hl 2 rfl) ?_
  refine pg_f (v := .ref this_widths) (C := RX2) (T := TX2) (N := 20) hx hb hts (tw_i inlX2) hown hK hP hL_this hK_this (by decide) rfl 19 (by decide) (hts _ (tw_c tw_100)) (pq_hv rfl hR_this_widths) dX2_measure_11 ?_
  refine pn_i (v := 21) hx hb hK hP hL_this_widths hK_this_widths hN_this_widths (by decide) dX2_measure_14 ?_
  refine lv_icmp_ge (tgt := 54) hx hb dX2_measure_15 (by decide) (fun c_19 => absurd c_19 (by decide)) (fun c_19 => ?_)
  refine lv_iload_n hx hb dX2_measure_18 rfl (lv_at hl 1 rfl) ?_
  refine lv_if_le (tgt := 41) hx hb dX2_measure_19 (by decide) (fun c_20 => absurd c_20 (by decide)) (fun c_20 => ?_)
  refine lv_iload_n hx hb dX2_measure_22 rfl (lv_at hl 1 rfl) ?_
  refine lv_iload_n hx hb dX2_measure_23 rfl (lv_at hl 1 rfl) ?_
  refine lv_imul hx hb dX2_measure_24 ?_
  refine lv_tov 4 (by decide) ?_
  refine lv_iload_n hx hb dX2_measure_25 rfl (lv_at hl 0 rfl) ?_
  refine lv_iload_n hx hb dX2_measure_26 rfl (lv_at hl 0 rfl) ?_
  refine lv_imul hx hb dX2_measure_27 ?_
  refine lv_tov 9 (by decide) ?_
  refine lv_iadd hx hb dX2_measure_28 ?_
  refine lv_tov 13 (by decide) ?_
  refine lv_iload_n hx hb dX2_measure_29 rfl (lv_at hl 3 rfl) ?_
  refine lv_iload_n hx hb dX2_measure_30 rfl (lv_at hl 3 rfl) ?_
  refine lv_imul hx hb dX2_measure_31 ?_
  refine lv_tov 9 (by decide) ?_
  refine lv_icmp_le (tgt := 41) hx hb dX2_measure_32 (by decide) (fun c_21 => absurd c_21 (by decide)) (fun c_21 => ?_)
  refine lv_iinc (v := 1) (lv' := [(2, .int 1), (3, .int 3), (0, .ref this), (1, .int 3)]) hx hb dX2_measure_35 hl (k := 1) rfl (by decide) (by decide) rfl (fun ls hl => ?_)
  refine lv_goto (tgt := 18) hx hb dX2_measure_38 (by decide) ?_
  refine lv_iload_n hx hb dX2_measure_18 rfl (lv_at hl 0 rfl) ?_
  refine lv_if_le (tgt := 41) hx hb dX2_measure_19 (by decide) (fun c_22 => absurd c_22 (by decide)) (fun c_22 => ?_)
  refine lv_iload_n hx hb dX2_measure_22 rfl (lv_at hl 0 rfl) ?_
  refine lv_iload_n hx hb dX2_measure_23 rfl (lv_at hl 0 rfl) ?_
  refine lv_imul hx hb dX2_measure_24 ?_
  refine lv_tov 1 (by decide) ?_
  refine lv_iload_n hx hb dX2_measure_25 rfl (lv_at hl 1 rfl) ?_
  refine lv_iload_n hx hb dX2_measure_26 rfl (lv_at hl 1 rfl) ?_
  refine lv_imul hx hb dX2_measure_27 ?_
  refine lv_tov 9 (by decide) ?_
  refine lv_iadd hx hb dX2_measure_28 ?_
  refine lv_tov 10 (by decide) ?_
  refine lv_iload_n hx hb dX2_measure_29 rfl (lv_at hl 3 rfl) ?_
  refine lv_iload_n hx hb dX2_measure_30 rfl (lv_at hl 3 rfl) ?_
  refine lv_imul hx hb dX2_measure_31 ?_
  refine lv_tov 9 (by decide) ?_
  refine lv_icmp_le (tgt := 41) hx hb dX2_measure_32 (by decide) (fun c_23 => absurd c_23 (by decide)) (fun c_23 => ?_)
  refine lv_iinc (v := 0) (lv' := [(2, .int 0), (3, .int 3), (0, .ref this), (1, .int 3)]) hx hb dX2_measure_35 hl (k := 0) rfl (by decide) (by decide) rfl (fun ls hl => ?_)
  refine lv_goto (tgt := 18) hx hb dX2_measure_38 (by decide) ?_
  refine lv_iload_n hx hb dX2_measure_18 rfl (lv_at hl 0 rfl) ?_
  refine lv_if_le (tgt := 41) hx hb dX2_measure_19 (by decide) (fun c_24 => ?_) (fun c_24 => absurd c_24 (by decide))
  refine lv_aload_n hx hb dX2_measure_41 rfl (lv_at hl 2 rfl) ?_
  refine pg_f (v := .ref this_widths) (C := RX2) (T := TX2) (N := 20) hx hb hts (tw_i inlX2) hown hK hP hL_this hK_this (by decide) rfl 19 (by decide) (hts _ (tw_c tw_100)) (pq_hv rfl hR_this_widths) dX2_measure_42 ?_
  refine lv_iload_n hx hb dX2_measure_45 rfl (lv_at hl 1 rfl) ?_
  refine lv_iload_n hx hb dX2_measure_46 rfl (lv_at hl 0 rfl) ?_
  refine pt_i hx hb hK hP hD hS hL_this_widths hK_this_widths hN_this_widths (vp_in_iff.mpr (by decide)) dX2_measure_47 (fun r_25 H locs er_25 hP hD hS => ?_)
  refine lv_iinc (v := 4) (lv' := [(3, .int 4), (2, .int 0), (0, .ref this), (1, .int 3)]) hx hb dX2_measure_48 hl (k := 1) rfl (by decide) (by decide) rfl (fun ls hl => ?_)
  refine lv_goto (tgt := 4) hx hb dX2_measure_51 (by decide) ?_
  refine lv_iload_n hx hb dX2_measure_4 rfl (lv_at hl 0 rfl) ?_
  refine lv_iload_n hx hb dX2_measure_5 rfl (lv_at hl 3 rfl) ?_
  refine lv_icmp_gt (tgt := 54) hx hb dX2_measure_6 (by decide) (fun c_26 => ?_) (fun c_26 => absurd c_26 (by decide))
  exact W.vret hx hb hr (fun t1 ht hW => ⟨⟨(σ, I, J, r_25, rj, rq), rfl, ⟨r_25, rfl, (fun b hb => by rw [er_25, va_up_ne _ _ hb, er_17, va_up_ne _ _ hb, er_12, va_up_ne _ _ hb, er_5, va_up_ne _ _ hb])⟩, by rw [ht]; exact hP, va_K.moved hW.alike hK, hD⟩, hS.F ht⟩) hS.2.2 dX2_measure_54

set_option maxHeartbeats 4000000 in
set_option maxRecDepth 100000 in
theorem c_X2_countArea (l : Launch) (D : va_G) (t : pq_T) (σ : pq_S) (I : Nat → Nat → Int32) (J : Nat → Nat → Int64) (ri : Nat → Nat → Int32) (rj : Nat → Nat → Int64) (rq : Nat → Nat → Option Nat) (sz : Nat) (this : Nat) (ofc : Int64) (hL_this : this ∈ σ.1) (hK_this : σ.2.1 this = 2) (this_rows : Nat) (hR_this_rows : σ.2.2.1 82 this = some this_rows) (hL_this_rows : this_rows ∈ σ.1) (hK_this_rows : σ.2.1 this_rows = 13) (hN_this_rows : σ.2.2.2 this_rows = 32) (this_widths : Nat) (hR_this_widths : σ.2.2.1 83 this = some this_widths) (hL_this_widths : this_widths ∈ σ.1) (hK_this_widths : σ.2.1 this_widths = 13) (hN_this_widths : σ.2.2.2 this_widths = 21) (hZ : pq_Z I) (hrw : this_rows ≠ this_widths) : MetI l yX2_countArea (wa yX2_countArea cX2_countArea 6 (some .int)) ({ frames := 1, cells := 0, slots := 0, locals := 23 }) [.ref this, .long ofc, .int 3] D t σ (I, J, ri, rj, rq) sz 0 0 (fun (r : Int32) (u : pq_S × pq_M) => ∃ ri' : Nat → Nat → Int32, u = (σ, I, J, ri', rj, rq) ∧ ((r = 0))) := by
  refine Met.ofW (cc := cX2_countArea) (maxL := 6) (ret := (some .int)) (by decide) rfl ?_
  intro p e s m args below meth c s₁ B hml hv
  obtain ⟨rfl, hsz, hP, hK, hD0, hN⟩ := hv
  have hx := B.exec
  have hb := B.bytes
  have hr := B.returns
  have hts := atoms_spec (ws := (wa yX2_countArea cX2_countArea 6 (some .int))) B.pre
  have hown : s.vm.findClass RX2 = some m.cls := findClass_of_methodNamed B.named
  have hlocks := B.notSynchronized
  subst hsz
  have hD : va_D (pq_B t σ (I, J, ri, rj, rq) s.heap.size) (pq_P t σ (I, J, ri, rj, rq)) := hD0.self
  generalize hAe : pq_B t σ (I, J, ri, rj, rq) s.heap.size = A at hD ⊢
  have hA : ∀ q : Nat, s.heap.size ≤ q → A q := fun q h => by rw [← hAe]; exact Or.inr h
  have hS : va_S A s.heap s.heap [] := va_S.rf
  have hl := lv_entry ([.ref this, .long ofc, .int 3]) (n := 6) (Nat.le_of_ble_eq_true rfl)
  rw [lg_entry_eq]
  generalize (lg_sl ([.ref this, .long ofc, .int 3]) ++ List.replicate (6 - (lg_sl ([.ref this, .long ofc, .int 3])).length) Slot.unset).toArray = ls at hl ⊢
  have hl : lv_has ls 6 [(0, .ref this), (1, .long ofc), (3, .int 3)] := hl
  refine lv_aload_n hx hb dX2_countArea_0 rfl (lv_at hl 0 rfl) ?_
  refine pg_f (v := .ref this_rows) (C := RX2) (T := TX2) (N := 20) hx hb hts (tw_i inlX2) hown hK hP hL_this hK_this (by decide) rfl 18 (by decide) (hts _ (tw_c tw_99)) (pq_hv rfl hR_this_rows) dX2_countArea_1 ?_
  refine lv_iconst (v := 0) hx hb dX2_countArea_4 (by decide) ?_
  refine pk_v (va_runSN (As := [.ref this_rows, .int 0]) (rest := []) ⟨hx, hb, hml, hown, hts⟩ (c_X11_fill l D t σ I J ri rj rq (Array.size s.heap) this_rows (0 : Int32) 32 hL_this_rows hK_this_rows hN_this_rows (by omega)) ⟨va_cnB (host := "RingsUnder") 2 hts (tw_W tw_76) rfl rfl rfl (hN.1 _ (List.mem_of_getElem? (i := 2) rfl)) (hts _ (tw_c tw_2)) (by decide +kernel) ⟨Nat.le_of_ble_eq_true rfl, Nat.le_of_ble_eq_true rfl⟩, hts (.static yX11_fill) (by decide +kernel), trivial⟩ ⟨pq_blind, pq_pre hK hN hP hD⟩ rfl rfl hl.1 rfl (lv_room (Nat.le_of_ble_eq_true rfl)) dX2_countArea_5 ⟨Nat.le_of_ble_eq_true rfl, Nat.le_of_ble_eq_true rfl⟩) hD hS hA (fun σ1 μ1 H locs hw_2 hP hD hS => ?_)
  obtain ⟨ri_3, hu_4, hu_4p0⟩ := hw_2
  obtain ⟨hu_4a, hu_4b⟩ := Prod.mk.inj hu_4
  rw [hu_4a, hu_4b] at hP hD
  refine lv_aload_n hx hb dX2_countArea_8 rfl (lv_at hl 0 rfl) ?_
  refine lv_iload_n hx hb dX2_countArea_9 rfl (lv_at hl 2 rfl) ?_
  refine pk_v (va_runV (As := [.int 3]) (rest := []) ⟨hx, hb, hml, hown, hts⟩ (c_X2_measure l D t σ I J ri_3 rj rq H.size this hL_this hK_this this_widths hR_this_widths hL_this_widths hK_this_widths hN_this_widths) (cwV 1 hts (tw_V tw_1138 tw_1139 tw_1140 tw_41 tw_1141) rfl rfl rfl (by decide +kernel) ⟨Nat.le_of_ble_eq_true rfl, Nat.le_of_ble_eq_true rfl⟩) ⟨pq_blind, pq_recv hK hP hL_this hK_this (by decide) rfl, pq_pre hK hN hP hD⟩ rfl rfl hl.1 rfl (lv_room (Nat.le_of_ble_eq_true rfl)) dX2_countArea_10 ⟨Nat.le_of_ble_eq_true rfl, Nat.le_of_ble_eq_true rfl⟩) hD hS hA (fun σ1 μ1 H locs hw_7 hP hD hS => ?_)
  obtain ⟨ri_8, hu_9, hu_9p0⟩ := hw_7
  obtain ⟨hu_9a, hu_9b⟩ := Prod.mk.inj hu_9
  rw [hu_9a, hu_9b] at hP hD
  refine lv_iconst (v := 0) hx hb dX2_countArea_13 (by decide) ?_
  refine lv_istore (lv' := [(4, .int 0), (0, .ref this), (1, .long ofc), (3, .int 3)]) hx hb dX2_countArea_14 hl (by decide) rfl (fun ls hl => ?_)
  refine lv_iload hx hb dX2_countArea_16 (lv_at hl 0 rfl) ?_
  refine lv_aload_n hx hb dX2_countArea_18 rfl (lv_at hl 1 rfl) ?_
  refine pg_f (v := .int (I 65 this)) (C := RX2) (T := TX2) (N := 20) hx hb hts (tw_i inlX2) hown hK hP hL_this hK_this (by decide) rfl 1 (by decide) (hts _ (tw_c tw_222)) rfl dX2_countArea_19 ?_
  refine lv_tov 0 (congrFun (hZ 65 (by decide)) this) ?_
  refine lv_icmp_ge (tgt := 59) hx hb dX2_countArea_22 (by decide) (fun c_11 => ?_) (fun c_11 => absurd c_11 (by decide))
  refine lv_iconst (v := 0) hx hb dX2_countArea_59 (by decide) ?_
  refine lv_istore (lv' := [(4, .int 0), (0, .ref this), (1, .long ofc), (3, .int 3)]) hx hb dX2_countArea_60 hl (by decide) rfl (fun ls hl => ?_)
  refine lv_iconst (v := 0) hx hb dX2_countArea_62 (by decide) ?_
  refine lv_istore (lv' := [(5, .int 0), (4, .int 0), (0, .ref this), (1, .long ofc), (3, .int 3)]) hx hb dX2_countArea_63 hl (by decide) rfl (fun ls hl => ?_)
  refine lv_iload hx hb dX2_countArea_65 (lv_at hl 0 rfl) ?_
  refine lv_bipush (v := 32) hx hb dX2_countArea_67 (by decide) ?_
  refine lv_icmp_ge (tgt := 93) hx hb dX2_countArea_69 (by decide) (fun c_12 => absurd c_12 (by decide)) (fun c_12 => ?_)
  refine lv_iload hx hb dX2_countArea_72 (lv_at hl 1 rfl) ?_
  refine lv_aload_n hx hb dX2_countArea_74 rfl (lv_at hl 2 rfl) ?_
  refine pg_f (v := .ref this_rows) (C := RX2) (T := TX2) (N := 20) hx hb hts (tw_i inlX2) hown hK hP hL_this hK_this (by decide) rfl 18 (by decide) (hts _ (tw_c tw_99)) (pq_hv rfl hR_this_rows) dX2_countArea_75 ?_
  refine lv_iload hx hb dX2_countArea_78 (lv_at hl 0 rfl) ?_
  refine pl_i hx hb hK hP hL_this_rows hK_this_rows hN_this_rows (vp_in_iff.mpr (by decide)) dX2_countArea_80 ?_
  refine lv_tov 0 ((congrFun (hu_9p0 this_rows hrw) _).trans (hu_4p0.1 _ (by decide))) ?_
  refine pk_i (va_runS (As := [.int 0]) (rest := [.int 0]) ⟨hx, hb, hml, hown, hts⟩ (c_J6_bitCount_0f7a4 l D t σ I J ri_8 rj rq H.size) (va_cwS 1 hts (tw_S tw_1147 tw_1148 tw_492 tw_1149) rfl rfl rfl (by decide +kernel) ⟨Nat.le_of_ble_eq_true rfl, Nat.le_of_ble_eq_true rfl⟩) ⟨pq_blind, pq_pre hK hN hP hD⟩ rfl rfl hl.1 rfl (lv_room (Nat.le_of_ble_eq_true rfl)) dX2_countArea_81 ⟨Nat.le_of_ble_eq_true rfl, Nat.le_of_ble_eq_true rfl⟩) hD hS hA (fun r_13 σ1 μ1 H locs hw_14 hP hD hS => ?_)
  obtain ⟨hu_15, hr_16⟩ := hw_14
  obtain ⟨hu_15a, hu_15b⟩ := Prod.mk.inj hu_15
  rw [hu_15a, hu_15b] at hP hD
  subst hr_16
  refine lv_iadd hx hb dX2_countArea_84 ?_
  refine lv_tov 0 (by decide) ?_
  refine lv_istore (lv' := [(4, .int 0), (5, .int 0), (0, .ref this), (1, .long ofc), (3, .int 3)]) hx hb dX2_countArea_85 hl (by decide) rfl (fun ls hl => ?_)
  refine lv_iinc (v := 1) (lv' := [(5, .int 1), (4, .int 0), (0, .ref this), (1, .long ofc), (3, .int 3)]) hx hb dX2_countArea_87 hl (k := 1) rfl (by decide) (by decide) rfl (fun ls hl => ?_)
  refine lv_goto (tgt := 65) hx hb dX2_countArea_90 (by decide) ?_
  refine lv_iload hx hb dX2_countArea_65 (lv_at hl 0 rfl) ?_
  refine lv_bipush (v := 32) hx hb dX2_countArea_67 (by decide) ?_
  refine lv_icmp_ge (tgt := 93) hx hb dX2_countArea_69 (by decide) (fun c_17 => absurd c_17 (by decide)) (fun c_17 => ?_)
  refine lv_iload hx hb dX2_countArea_72 (lv_at hl 1 rfl) ?_
  refine lv_aload_n hx hb dX2_countArea_74 rfl (lv_at hl 2 rfl) ?_
  refine pg_f (v := .ref this_rows) (C := RX2) (T := TX2) (N := 20) hx hb hts (tw_i inlX2) hown hK hP hL_this hK_this (by decide) rfl 18 (by decide) (hts _ (tw_c tw_99)) (pq_hv rfl hR_this_rows) dX2_countArea_75 ?_
  refine lv_iload hx hb dX2_countArea_78 (lv_at hl 0 rfl) ?_
  refine pl_i hx hb hK hP hL_this_rows hK_this_rows hN_this_rows (vp_in_iff.mpr (by decide)) dX2_countArea_80 ?_
  refine lv_tov 0 ((congrFun (hu_9p0 this_rows hrw) _).trans (hu_4p0.1 _ (by decide))) ?_
  refine pk_i (va_runS (As := [.int 0]) (rest := [.int 0]) ⟨hx, hb, hml, hown, hts⟩ (c_J6_bitCount_0f7a4 l D t σ I J ri_8 rj rq H.size) (va_cwS 1 hts (tw_S tw_1147 tw_1148 tw_492 tw_1149) rfl rfl rfl (by decide +kernel) ⟨Nat.le_of_ble_eq_true rfl, Nat.le_of_ble_eq_true rfl⟩) ⟨pq_blind, pq_pre hK hN hP hD⟩ rfl rfl hl.1 rfl (lv_room (Nat.le_of_ble_eq_true rfl)) dX2_countArea_81 ⟨Nat.le_of_ble_eq_true rfl, Nat.le_of_ble_eq_true rfl⟩) hD hS hA (fun r_18 σ1 μ1 H locs hw_19 hP hD hS => ?_)
  obtain ⟨hu_20, hr_21⟩ := hw_19
  obtain ⟨hu_20a, hu_20b⟩ := Prod.mk.inj hu_20
  rw [hu_20a, hu_20b] at hP hD
  subst hr_21
  refine lv_iadd hx hb dX2_countArea_84 ?_
  refine lv_tov 0 (by decide) ?_
  refine lv_istore (lv' := [(4, .int 0), (5, .int 1), (0, .ref this), (1, .long ofc), (3, .int 3)]) hx hb dX2_countArea_85 hl (by decide) rfl (fun ls hl => ?_)
  refine lv_iinc (v := 2) (lv' := [(5, .int 2), (4, .int 0), (0, .ref this), (1, .long ofc), (3, .int 3)]) hx hb dX2_countArea_87 hl (k := 1) rfl (by decide) (by decide) rfl (fun ls hl => ?_)
  refine lv_goto (tgt := 65) hx hb dX2_countArea_90 (by decide) ?_
  refine lv_iload hx hb dX2_countArea_65 (lv_at hl 0 rfl) ?_
  refine lv_bipush (v := 32) hx hb dX2_countArea_67 (by decide) ?_
  refine lv_icmp_ge (tgt := 93) hx hb dX2_countArea_69 (by decide) (fun c_22 => absurd c_22 (by decide)) (fun c_22 => ?_)
  refine lv_iload hx hb dX2_countArea_72 (lv_at hl 1 rfl) ?_
  refine lv_aload_n hx hb dX2_countArea_74 rfl (lv_at hl 2 rfl) ?_
  refine pg_f (v := .ref this_rows) (C := RX2) (T := TX2) (N := 20) hx hb hts (tw_i inlX2) hown hK hP hL_this hK_this (by decide) rfl 18 (by decide) (hts _ (tw_c tw_99)) (pq_hv rfl hR_this_rows) dX2_countArea_75 ?_
  refine lv_iload hx hb dX2_countArea_78 (lv_at hl 0 rfl) ?_
  refine pl_i hx hb hK hP hL_this_rows hK_this_rows hN_this_rows (vp_in_iff.mpr (by decide)) dX2_countArea_80 ?_
  refine lv_tov 0 ((congrFun (hu_9p0 this_rows hrw) _).trans (hu_4p0.1 _ (by decide))) ?_
  refine pk_i (va_runS (As := [.int 0]) (rest := [.int 0]) ⟨hx, hb, hml, hown, hts⟩ (c_J6_bitCount_0f7a4 l D t σ I J ri_8 rj rq H.size) (va_cwS 1 hts (tw_S tw_1147 tw_1148 tw_492 tw_1149) rfl rfl rfl (by decide +kernel) ⟨Nat.le_of_ble_eq_true rfl, Nat.le_of_ble_eq_true rfl⟩) ⟨pq_blind, pq_pre hK hN hP hD⟩ rfl rfl hl.1 rfl (lv_room (Nat.le_of_ble_eq_true rfl)) dX2_countArea_81 ⟨Nat.le_of_ble_eq_true rfl, Nat.le_of_ble_eq_true rfl⟩) hD hS hA (fun r_23 σ1 μ1 H locs hw_24 hP hD hS => ?_)
  obtain ⟨hu_25, hr_26⟩ := hw_24
  obtain ⟨hu_25a, hu_25b⟩ := Prod.mk.inj hu_25
  rw [hu_25a, hu_25b] at hP hD
  subst hr_26
  refine lv_iadd hx hb dX2_countArea_84 ?_
  refine lv_tov 0 (by decide) ?_
  refine lv_istore (lv' := [(4, .int 0), (5, .int 2), (0, .ref this), (1, .long ofc), (3, .int 3)]) hx hb dX2_countArea_85 hl (by decide) rfl (fun ls hl => ?_)
  refine lv_iinc (v := 3) (lv' := [(5, .int 3), (4, .int 0), (0, .ref this), (1, .long ofc), (3, .int 3)]) hx hb dX2_countArea_87 hl (k := 1) rfl (by decide) (by decide) rfl (fun ls hl => ?_)
  refine lv_goto (tgt := 65) hx hb dX2_countArea_90 (by decide) ?_
  refine lv_iload hx hb dX2_countArea_65 (lv_at hl 0 rfl) ?_
  refine lv_bipush (v := 32) hx hb dX2_countArea_67 (by decide) ?_
  refine lv_icmp_ge (tgt := 93) hx hb dX2_countArea_69 (by decide) (fun c_27 => absurd c_27 (by decide)) (fun c_27 => ?_)
  refine lv_iload hx hb dX2_countArea_72 (lv_at hl 1 rfl) ?_
  refine lv_aload_n hx hb dX2_countArea_74 rfl (lv_at hl 2 rfl) ?_
  refine pg_f (v := .ref this_rows) (C := RX2) (T := TX2) (N := 20) hx hb hts (tw_i inlX2) hown hK hP hL_this hK_this (by decide) rfl 18 (by decide) (hts _ (tw_c tw_99)) (pq_hv rfl hR_this_rows) dX2_countArea_75 ?_
  refine lv_iload hx hb dX2_countArea_78 (lv_at hl 0 rfl) ?_
  refine pl_i hx hb hK hP hL_this_rows hK_this_rows hN_this_rows (vp_in_iff.mpr (by decide)) dX2_countArea_80 ?_
  refine lv_tov 0 ((congrFun (hu_9p0 this_rows hrw) _).trans (hu_4p0.1 _ (by decide))) ?_
  refine pk_i (va_runS (As := [.int 0]) (rest := [.int 0]) ⟨hx, hb, hml, hown, hts⟩ (c_J6_bitCount_0f7a4 l D t σ I J ri_8 rj rq H.size) (va_cwS 1 hts (tw_S tw_1147 tw_1148 tw_492 tw_1149) rfl rfl rfl (by decide +kernel) ⟨Nat.le_of_ble_eq_true rfl, Nat.le_of_ble_eq_true rfl⟩) ⟨pq_blind, pq_pre hK hN hP hD⟩ rfl rfl hl.1 rfl (lv_room (Nat.le_of_ble_eq_true rfl)) dX2_countArea_81 ⟨Nat.le_of_ble_eq_true rfl, Nat.le_of_ble_eq_true rfl⟩) hD hS hA (fun r_28 σ1 μ1 H locs hw_29 hP hD hS => ?_)
  obtain ⟨hu_30, hr_31⟩ := hw_29
  obtain ⟨hu_30a, hu_30b⟩ := Prod.mk.inj hu_30
  rw [hu_30a, hu_30b] at hP hD
  subst hr_31
  refine lv_iadd hx hb dX2_countArea_84 ?_
  refine lv_tov 0 (by decide) ?_
  refine lv_istore (lv' := [(4, .int 0), (5, .int 3), (0, .ref this), (1, .long ofc), (3, .int 3)]) hx hb dX2_countArea_85 hl (by decide) rfl (fun ls hl => ?_)
  refine lv_iinc (v := 4) (lv' := [(5, .int 4), (4, .int 0), (0, .ref this), (1, .long ofc), (3, .int 3)]) hx hb dX2_countArea_87 hl (k := 1) rfl (by decide) (by decide) rfl (fun ls hl => ?_)
  refine lv_goto (tgt := 65) hx hb dX2_countArea_90 (by decide) ?_
  refine lv_iload hx hb dX2_countArea_65 (lv_at hl 0 rfl) ?_
  refine lv_bipush (v := 32) hx hb dX2_countArea_67 (by decide) ?_
  refine lv_icmp_ge (tgt := 93) hx hb dX2_countArea_69 (by decide) (fun c_32 => absurd c_32 (by decide)) (fun c_32 => ?_)
  refine lv_iload hx hb dX2_countArea_72 (lv_at hl 1 rfl) ?_
  refine lv_aload_n hx hb dX2_countArea_74 rfl (lv_at hl 2 rfl) ?_
  refine pg_f (v := .ref this_rows) (C := RX2) (T := TX2) (N := 20) hx hb hts (tw_i inlX2) hown hK hP hL_this hK_this (by decide) rfl 18 (by decide) (hts _ (tw_c tw_99)) (pq_hv rfl hR_this_rows) dX2_countArea_75 ?_
  refine lv_iload hx hb dX2_countArea_78 (lv_at hl 0 rfl) ?_
  refine pl_i hx hb hK hP hL_this_rows hK_this_rows hN_this_rows (vp_in_iff.mpr (by decide)) dX2_countArea_80 ?_
  refine lv_tov 0 ((congrFun (hu_9p0 this_rows hrw) _).trans (hu_4p0.1 _ (by decide))) ?_
  refine pk_i (va_runS (As := [.int 0]) (rest := [.int 0]) ⟨hx, hb, hml, hown, hts⟩ (c_J6_bitCount_0f7a4 l D t σ I J ri_8 rj rq H.size) (va_cwS 1 hts (tw_S tw_1147 tw_1148 tw_492 tw_1149) rfl rfl rfl (by decide +kernel) ⟨Nat.le_of_ble_eq_true rfl, Nat.le_of_ble_eq_true rfl⟩) ⟨pq_blind, pq_pre hK hN hP hD⟩ rfl rfl hl.1 rfl (lv_room (Nat.le_of_ble_eq_true rfl)) dX2_countArea_81 ⟨Nat.le_of_ble_eq_true rfl, Nat.le_of_ble_eq_true rfl⟩) hD hS hA (fun r_33 σ1 μ1 H locs hw_34 hP hD hS => ?_)
  obtain ⟨hu_35, hr_36⟩ := hw_34
  obtain ⟨hu_35a, hu_35b⟩ := Prod.mk.inj hu_35
  rw [hu_35a, hu_35b] at hP hD
  subst hr_36
  refine lv_iadd hx hb dX2_countArea_84 ?_
  refine lv_tov 0 (by decide) ?_
  refine lv_istore (lv' := [(4, .int 0), (5, .int 4), (0, .ref this), (1, .long ofc), (3, .int 3)]) hx hb dX2_countArea_85 hl (by decide) rfl (fun ls hl => ?_)
  refine lv_iinc (v := 5) (lv' := [(5, .int 5), (4, .int 0), (0, .ref this), (1, .long ofc), (3, .int 3)]) hx hb dX2_countArea_87 hl (k := 1) rfl (by decide) (by decide) rfl (fun ls hl => ?_)
  refine lv_goto (tgt := 65) hx hb dX2_countArea_90 (by decide) ?_
  refine lv_iload hx hb dX2_countArea_65 (lv_at hl 0 rfl) ?_
  refine lv_bipush (v := 32) hx hb dX2_countArea_67 (by decide) ?_
  refine lv_icmp_ge (tgt := 93) hx hb dX2_countArea_69 (by decide) (fun c_37 => absurd c_37 (by decide)) (fun c_37 => ?_)
  refine lv_iload hx hb dX2_countArea_72 (lv_at hl 1 rfl) ?_
  refine lv_aload_n hx hb dX2_countArea_74 rfl (lv_at hl 2 rfl) ?_
  refine pg_f (v := .ref this_rows) (C := RX2) (T := TX2) (N := 20) hx hb hts (tw_i inlX2) hown hK hP hL_this hK_this (by decide) rfl 18 (by decide) (hts _ (tw_c tw_99)) (pq_hv rfl hR_this_rows) dX2_countArea_75 ?_
  refine lv_iload hx hb dX2_countArea_78 (lv_at hl 0 rfl) ?_
  refine pl_i hx hb hK hP hL_this_rows hK_this_rows hN_this_rows (vp_in_iff.mpr (by decide)) dX2_countArea_80 ?_
  refine lv_tov 0 ((congrFun (hu_9p0 this_rows hrw) _).trans (hu_4p0.1 _ (by decide))) ?_
  refine pk_i (va_runS (As := [.int 0]) (rest := [.int 0]) ⟨hx, hb, hml, hown, hts⟩ (c_J6_bitCount_0f7a4 l D t σ I J ri_8 rj rq H.size) (va_cwS 1 hts (tw_S tw_1147 tw_1148 tw_492 tw_1149) rfl rfl rfl (by decide +kernel) ⟨Nat.le_of_ble_eq_true rfl, Nat.le_of_ble_eq_true rfl⟩) ⟨pq_blind, pq_pre hK hN hP hD⟩ rfl rfl hl.1 rfl (lv_room (Nat.le_of_ble_eq_true rfl)) dX2_countArea_81 ⟨Nat.le_of_ble_eq_true rfl, Nat.le_of_ble_eq_true rfl⟩) hD hS hA (fun r_38 σ1 μ1 H locs hw_39 hP hD hS => ?_)
  obtain ⟨hu_40, hr_41⟩ := hw_39
  obtain ⟨hu_40a, hu_40b⟩ := Prod.mk.inj hu_40
  rw [hu_40a, hu_40b] at hP hD
  subst hr_41
  refine lv_iadd hx hb dX2_countArea_84 ?_
  refine lv_tov 0 (by decide) ?_
  refine lv_istore (lv' := [(4, .int 0), (5, .int 5), (0, .ref this), (1, .long ofc), (3, .int 3)]) hx hb dX2_countArea_85 hl (by decide) rfl (fun ls hl => ?_)
  refine lv_iinc (v := 6) (lv' := [(5, .int 6), (4, .int 0), (0, .ref this), (1, .long ofc), (3, .int 3)]) hx hb dX2_countArea_87 hl (k := 1) rfl (by decide) (by decide) rfl (fun ls hl => ?_)
  refine lv_goto (tgt := 65) hx hb dX2_countArea_90 (by decide) ?_
  refine lv_iload hx hb dX2_countArea_65 (lv_at hl 0 rfl) ?_
  refine lv_bipush (v := 32) hx hb dX2_countArea_67 (by decide) ?_
  refine lv_icmp_ge (tgt := 93) hx hb dX2_countArea_69 (by decide) (fun c_42 => absurd c_42 (by decide)) (fun c_42 => ?_)
  refine lv_iload hx hb dX2_countArea_72 (lv_at hl 1 rfl) ?_
  refine lv_aload_n hx hb dX2_countArea_74 rfl (lv_at hl 2 rfl) ?_
  refine pg_f (v := .ref this_rows) (C := RX2) (T := TX2) (N := 20) hx hb hts (tw_i inlX2) hown hK hP hL_this hK_this (by decide) rfl 18 (by decide) (hts _ (tw_c tw_99)) (pq_hv rfl hR_this_rows) dX2_countArea_75 ?_
  refine lv_iload hx hb dX2_countArea_78 (lv_at hl 0 rfl) ?_
  refine pl_i hx hb hK hP hL_this_rows hK_this_rows hN_this_rows (vp_in_iff.mpr (by decide)) dX2_countArea_80 ?_
  refine lv_tov 0 ((congrFun (hu_9p0 this_rows hrw) _).trans (hu_4p0.1 _ (by decide))) ?_
  refine pk_i (va_runS (As := [.int 0]) (rest := [.int 0]) ⟨hx, hb, hml, hown, hts⟩ (c_J6_bitCount_0f7a4 l D t σ I J ri_8 rj rq H.size) (va_cwS 1 hts (tw_S tw_1147 tw_1148 tw_492 tw_1149) rfl rfl rfl (by decide +kernel) ⟨Nat.le_of_ble_eq_true rfl, Nat.le_of_ble_eq_true rfl⟩) ⟨pq_blind, pq_pre hK hN hP hD⟩ rfl rfl hl.1 rfl (lv_room (Nat.le_of_ble_eq_true rfl)) dX2_countArea_81 ⟨Nat.le_of_ble_eq_true rfl, Nat.le_of_ble_eq_true rfl⟩) hD hS hA (fun r_43 σ1 μ1 H locs hw_44 hP hD hS => ?_)
  obtain ⟨hu_45, hr_46⟩ := hw_44
  obtain ⟨hu_45a, hu_45b⟩ := Prod.mk.inj hu_45
  rw [hu_45a, hu_45b] at hP hD
  subst hr_46
  refine lv_iadd hx hb dX2_countArea_84 ?_
  refine lv_tov 0 (by decide) ?_
  refine lv_istore (lv' := [(4, .int 0), (5, .int 6), (0, .ref this), (1, .long ofc), (3, .int 3)]) hx hb dX2_countArea_85 hl (by decide) rfl (fun ls hl => ?_)
  refine lv_iinc (v := 7) (lv' := [(5, .int 7), (4, .int 0), (0, .ref this), (1, .long ofc), (3, .int 3)]) hx hb dX2_countArea_87 hl (k := 1) rfl (by decide) (by decide) rfl (fun ls hl => ?_)
  refine lv_goto (tgt := 65) hx hb dX2_countArea_90 (by decide) ?_
  refine lv_iload hx hb dX2_countArea_65 (lv_at hl 0 rfl) ?_
  refine lv_bipush (v := 32) hx hb dX2_countArea_67 (by decide) ?_
  refine lv_icmp_ge (tgt := 93) hx hb dX2_countArea_69 (by decide) (fun c_47 => absurd c_47 (by decide)) (fun c_47 => ?_)
  refine lv_iload hx hb dX2_countArea_72 (lv_at hl 1 rfl) ?_
  refine lv_aload_n hx hb dX2_countArea_74 rfl (lv_at hl 2 rfl) ?_
  refine pg_f (v := .ref this_rows) (C := RX2) (T := TX2) (N := 20) hx hb hts (tw_i inlX2) hown hK hP hL_this hK_this (by decide) rfl 18 (by decide) (hts _ (tw_c tw_99)) (pq_hv rfl hR_this_rows) dX2_countArea_75 ?_
  refine lv_iload hx hb dX2_countArea_78 (lv_at hl 0 rfl) ?_
  refine pl_i hx hb hK hP hL_this_rows hK_this_rows hN_this_rows (vp_in_iff.mpr (by decide)) dX2_countArea_80 ?_
  refine lv_tov 0 ((congrFun (hu_9p0 this_rows hrw) _).trans (hu_4p0.1 _ (by decide))) ?_
  refine pk_i (va_runS (As := [.int 0]) (rest := [.int 0]) ⟨hx, hb, hml, hown, hts⟩ (c_J6_bitCount_0f7a4 l D t σ I J ri_8 rj rq H.size) (va_cwS 1 hts (tw_S tw_1147 tw_1148 tw_492 tw_1149) rfl rfl rfl (by decide +kernel) ⟨Nat.le_of_ble_eq_true rfl, Nat.le_of_ble_eq_true rfl⟩) ⟨pq_blind, pq_pre hK hN hP hD⟩ rfl rfl hl.1 rfl (lv_room (Nat.le_of_ble_eq_true rfl)) dX2_countArea_81 ⟨Nat.le_of_ble_eq_true rfl, Nat.le_of_ble_eq_true rfl⟩) hD hS hA (fun r_48 σ1 μ1 H locs hw_49 hP hD hS => ?_)
  obtain ⟨hu_50, hr_51⟩ := hw_49
  obtain ⟨hu_50a, hu_50b⟩ := Prod.mk.inj hu_50
  rw [hu_50a, hu_50b] at hP hD
  subst hr_51
  refine lv_iadd hx hb dX2_countArea_84 ?_
  refine lv_tov 0 (by decide) ?_
  refine lv_istore (lv' := [(4, .int 0), (5, .int 7), (0, .ref this), (1, .long ofc), (3, .int 3)]) hx hb dX2_countArea_85 hl (by decide) rfl (fun ls hl => ?_)
  refine lv_iinc (v := 8) (lv' := [(5, .int 8), (4, .int 0), (0, .ref this), (1, .long ofc), (3, .int 3)]) hx hb dX2_countArea_87 hl (k := 1) rfl (by decide) (by decide) rfl (fun ls hl => ?_)
  refine lv_goto (tgt := 65) hx hb dX2_countArea_90 (by decide) ?_
  refine lv_iload hx hb dX2_countArea_65 (lv_at hl 0 rfl) ?_
  refine lv_bipush (v := 32) hx hb dX2_countArea_67 (by decide) ?_
  refine lv_icmp_ge (tgt := 93) hx hb dX2_countArea_69 (by decide) (fun c_52 => absurd c_52 (by decide)) (fun c_52 => ?_)
  refine lv_iload hx hb dX2_countArea_72 (lv_at hl 1 rfl) ?_
  refine lv_aload_n hx hb dX2_countArea_74 rfl (lv_at hl 2 rfl) ?_
  refine pg_f (v := .ref this_rows) (C := RX2) (T := TX2) (N := 20) hx hb hts (tw_i inlX2) hown hK hP hL_this hK_this (by decide) rfl 18 (by decide) (hts _ (tw_c tw_99)) (pq_hv rfl hR_this_rows) dX2_countArea_75 ?_
  refine lv_iload hx hb dX2_countArea_78 (lv_at hl 0 rfl) ?_
  refine pl_i hx hb hK hP hL_this_rows hK_this_rows hN_this_rows (vp_in_iff.mpr (by decide)) dX2_countArea_80 ?_
  refine lv_tov 0 ((congrFun (hu_9p0 this_rows hrw) _).trans (hu_4p0.1 _ (by decide))) ?_
  refine pk_i (va_runS (As := [.int 0]) (rest := [.int 0]) ⟨hx, hb, hml, hown, hts⟩ (c_J6_bitCount_0f7a4 l D t σ I J ri_8 rj rq H.size) (va_cwS 1 hts (tw_S tw_1147 tw_1148 tw_492 tw_1149) rfl rfl rfl (by decide +kernel) ⟨Nat.le_of_ble_eq_true rfl, Nat.le_of_ble_eq_true rfl⟩) ⟨pq_blind, pq_pre hK hN hP hD⟩ rfl rfl hl.1 rfl (lv_room (Nat.le_of_ble_eq_true rfl)) dX2_countArea_81 ⟨Nat.le_of_ble_eq_true rfl, Nat.le_of_ble_eq_true rfl⟩) hD hS hA (fun r_53 σ1 μ1 H locs hw_54 hP hD hS => ?_)
  obtain ⟨hu_55, hr_56⟩ := hw_54
  obtain ⟨hu_55a, hu_55b⟩ := Prod.mk.inj hu_55
  rw [hu_55a, hu_55b] at hP hD
  subst hr_56
  refine lv_iadd hx hb dX2_countArea_84 ?_
  refine lv_tov 0 (by decide) ?_
  refine lv_istore (lv' := [(4, .int 0), (5, .int 8), (0, .ref this), (1, .long ofc), (3, .int 3)]) hx hb dX2_countArea_85 hl (by decide) rfl (fun ls hl => ?_)
  refine lv_iinc (v := 9) (lv' := [(5, .int 9), (4, .int 0), (0, .ref this), (1, .long ofc), (3, .int 3)]) hx hb dX2_countArea_87 hl (k := 1) rfl (by decide) (by decide) rfl (fun ls hl => ?_)
  refine lv_goto (tgt := 65) hx hb dX2_countArea_90 (by decide) ?_
  refine lv_iload hx hb dX2_countArea_65 (lv_at hl 0 rfl) ?_
  refine lv_bipush (v := 32) hx hb dX2_countArea_67 (by decide) ?_
  refine lv_icmp_ge (tgt := 93) hx hb dX2_countArea_69 (by decide) (fun c_57 => absurd c_57 (by decide)) (fun c_57 => ?_)
  refine lv_iload hx hb dX2_countArea_72 (lv_at hl 1 rfl) ?_
  refine lv_aload_n hx hb dX2_countArea_74 rfl (lv_at hl 2 rfl) ?_
  refine pg_f (v := .ref this_rows) (C := RX2) (T := TX2) (N := 20) hx hb hts (tw_i inlX2) hown hK hP hL_this hK_this (by decide) rfl 18 (by decide) (hts _ (tw_c tw_99)) (pq_hv rfl hR_this_rows) dX2_countArea_75 ?_
  refine lv_iload hx hb dX2_countArea_78 (lv_at hl 0 rfl) ?_
  refine pl_i hx hb hK hP hL_this_rows hK_this_rows hN_this_rows (vp_in_iff.mpr (by decide)) dX2_countArea_80 ?_
  refine lv_tov 0 ((congrFun (hu_9p0 this_rows hrw) _).trans (hu_4p0.1 _ (by decide))) ?_
  refine pk_i (va_runS (As := [.int 0]) (rest := [.int 0]) ⟨hx, hb, hml, hown, hts⟩ (c_J6_bitCount_0f7a4 l D t σ I J ri_8 rj rq H.size) (va_cwS 1 hts (tw_S tw_1147 tw_1148 tw_492 tw_1149) rfl rfl rfl (by decide +kernel) ⟨Nat.le_of_ble_eq_true rfl, Nat.le_of_ble_eq_true rfl⟩) ⟨pq_blind, pq_pre hK hN hP hD⟩ rfl rfl hl.1 rfl (lv_room (Nat.le_of_ble_eq_true rfl)) dX2_countArea_81 ⟨Nat.le_of_ble_eq_true rfl, Nat.le_of_ble_eq_true rfl⟩) hD hS hA (fun r_58 σ1 μ1 H locs hw_59 hP hD hS => ?_)
  obtain ⟨hu_60, hr_61⟩ := hw_59
  obtain ⟨hu_60a, hu_60b⟩ := Prod.mk.inj hu_60
  rw [hu_60a, hu_60b] at hP hD
  subst hr_61
  refine lv_iadd hx hb dX2_countArea_84 ?_
  refine lv_tov 0 (by decide) ?_
  refine lv_istore (lv' := [(4, .int 0), (5, .int 9), (0, .ref this), (1, .long ofc), (3, .int 3)]) hx hb dX2_countArea_85 hl (by decide) rfl (fun ls hl => ?_)
  refine lv_iinc (v := 10) (lv' := [(5, .int 10), (4, .int 0), (0, .ref this), (1, .long ofc), (3, .int 3)]) hx hb dX2_countArea_87 hl (k := 1) rfl (by decide) (by decide) rfl (fun ls hl => ?_)
  refine lv_goto (tgt := 65) hx hb dX2_countArea_90 (by decide) ?_
  refine lv_iload hx hb dX2_countArea_65 (lv_at hl 0 rfl) ?_
  refine lv_bipush (v := 32) hx hb dX2_countArea_67 (by decide) ?_
  refine lv_icmp_ge (tgt := 93) hx hb dX2_countArea_69 (by decide) (fun c_62 => absurd c_62 (by decide)) (fun c_62 => ?_)
  refine lv_iload hx hb dX2_countArea_72 (lv_at hl 1 rfl) ?_
  refine lv_aload_n hx hb dX2_countArea_74 rfl (lv_at hl 2 rfl) ?_
  refine pg_f (v := .ref this_rows) (C := RX2) (T := TX2) (N := 20) hx hb hts (tw_i inlX2) hown hK hP hL_this hK_this (by decide) rfl 18 (by decide) (hts _ (tw_c tw_99)) (pq_hv rfl hR_this_rows) dX2_countArea_75 ?_
  refine lv_iload hx hb dX2_countArea_78 (lv_at hl 0 rfl) ?_
  refine pl_i hx hb hK hP hL_this_rows hK_this_rows hN_this_rows (vp_in_iff.mpr (by decide)) dX2_countArea_80 ?_
  refine lv_tov 0 ((congrFun (hu_9p0 this_rows hrw) _).trans (hu_4p0.1 _ (by decide))) ?_
  refine pk_i (va_runS (As := [.int 0]) (rest := [.int 0]) ⟨hx, hb, hml, hown, hts⟩ (c_J6_bitCount_0f7a4 l D t σ I J ri_8 rj rq H.size) (va_cwS 1 hts (tw_S tw_1147 tw_1148 tw_492 tw_1149) rfl rfl rfl (by decide +kernel) ⟨Nat.le_of_ble_eq_true rfl, Nat.le_of_ble_eq_true rfl⟩) ⟨pq_blind, pq_pre hK hN hP hD⟩ rfl rfl hl.1 rfl (lv_room (Nat.le_of_ble_eq_true rfl)) dX2_countArea_81 ⟨Nat.le_of_ble_eq_true rfl, Nat.le_of_ble_eq_true rfl⟩) hD hS hA (fun r_63 σ1 μ1 H locs hw_64 hP hD hS => ?_)
  obtain ⟨hu_65, hr_66⟩ := hw_64
  obtain ⟨hu_65a, hu_65b⟩ := Prod.mk.inj hu_65
  rw [hu_65a, hu_65b] at hP hD
  subst hr_66
  refine lv_iadd hx hb dX2_countArea_84 ?_
  refine lv_tov 0 (by decide) ?_
  refine lv_istore (lv' := [(4, .int 0), (5, .int 10), (0, .ref this), (1, .long ofc), (3, .int 3)]) hx hb dX2_countArea_85 hl (by decide) rfl (fun ls hl => ?_)
  refine lv_iinc (v := 11) (lv' := [(5, .int 11), (4, .int 0), (0, .ref this), (1, .long ofc), (3, .int 3)]) hx hb dX2_countArea_87 hl (k := 1) rfl (by decide) (by decide) rfl (fun ls hl => ?_)
  refine lv_goto (tgt := 65) hx hb dX2_countArea_90 (by decide) ?_
  refine lv_iload hx hb dX2_countArea_65 (lv_at hl 0 rfl) ?_
  refine lv_bipush (v := 32) hx hb dX2_countArea_67 (by decide) ?_
  refine lv_icmp_ge (tgt := 93) hx hb dX2_countArea_69 (by decide) (fun c_67 => absurd c_67 (by decide)) (fun c_67 => ?_)
  refine lv_iload hx hb dX2_countArea_72 (lv_at hl 1 rfl) ?_
  refine lv_aload_n hx hb dX2_countArea_74 rfl (lv_at hl 2 rfl) ?_
  refine pg_f (v := .ref this_rows) (C := RX2) (T := TX2) (N := 20) hx hb hts (tw_i inlX2) hown hK hP hL_this hK_this (by decide) rfl 18 (by decide) (hts _ (tw_c tw_99)) (pq_hv rfl hR_this_rows) dX2_countArea_75 ?_
  refine lv_iload hx hb dX2_countArea_78 (lv_at hl 0 rfl) ?_
  refine pl_i hx hb hK hP hL_this_rows hK_this_rows hN_this_rows (vp_in_iff.mpr (by decide)) dX2_countArea_80 ?_
  refine lv_tov 0 ((congrFun (hu_9p0 this_rows hrw) _).trans (hu_4p0.1 _ (by decide))) ?_
  refine pk_i (va_runS (As := [.int 0]) (rest := [.int 0]) ⟨hx, hb, hml, hown, hts⟩ (c_J6_bitCount_0f7a4 l D t σ I J ri_8 rj rq H.size) (va_cwS 1 hts (tw_S tw_1147 tw_1148 tw_492 tw_1149) rfl rfl rfl (by decide +kernel) ⟨Nat.le_of_ble_eq_true rfl, Nat.le_of_ble_eq_true rfl⟩) ⟨pq_blind, pq_pre hK hN hP hD⟩ rfl rfl hl.1 rfl (lv_room (Nat.le_of_ble_eq_true rfl)) dX2_countArea_81 ⟨Nat.le_of_ble_eq_true rfl, Nat.le_of_ble_eq_true rfl⟩) hD hS hA (fun r_68 σ1 μ1 H locs hw_69 hP hD hS => ?_)
  obtain ⟨hu_70, hr_71⟩ := hw_69
  obtain ⟨hu_70a, hu_70b⟩ := Prod.mk.inj hu_70
  rw [hu_70a, hu_70b] at hP hD
  subst hr_71
  refine lv_iadd hx hb dX2_countArea_84 ?_
  refine lv_tov 0 (by decide) ?_
  refine lv_istore (lv' := [(4, .int 0), (5, .int 11), (0, .ref this), (1, .long ofc), (3, .int 3)]) hx hb dX2_countArea_85 hl (by decide) rfl (fun ls hl => ?_)
  refine lv_iinc (v := 12) (lv' := [(5, .int 12), (4, .int 0), (0, .ref this), (1, .long ofc), (3, .int 3)]) hx hb dX2_countArea_87 hl (k := 1) rfl (by decide) (by decide) rfl (fun ls hl => ?_)
  refine lv_goto (tgt := 65) hx hb dX2_countArea_90 (by decide) ?_
  refine lv_iload hx hb dX2_countArea_65 (lv_at hl 0 rfl) ?_
  refine lv_bipush (v := 32) hx hb dX2_countArea_67 (by decide) ?_
  refine lv_icmp_ge (tgt := 93) hx hb dX2_countArea_69 (by decide) (fun c_72 => absurd c_72 (by decide)) (fun c_72 => ?_)
  refine lv_iload hx hb dX2_countArea_72 (lv_at hl 1 rfl) ?_
  refine lv_aload_n hx hb dX2_countArea_74 rfl (lv_at hl 2 rfl) ?_
  refine pg_f (v := .ref this_rows) (C := RX2) (T := TX2) (N := 20) hx hb hts (tw_i inlX2) hown hK hP hL_this hK_this (by decide) rfl 18 (by decide) (hts _ (tw_c tw_99)) (pq_hv rfl hR_this_rows) dX2_countArea_75 ?_
  refine lv_iload hx hb dX2_countArea_78 (lv_at hl 0 rfl) ?_
  refine pl_i hx hb hK hP hL_this_rows hK_this_rows hN_this_rows (vp_in_iff.mpr (by decide)) dX2_countArea_80 ?_
  refine lv_tov 0 ((congrFun (hu_9p0 this_rows hrw) _).trans (hu_4p0.1 _ (by decide))) ?_
  refine pk_i (va_runS (As := [.int 0]) (rest := [.int 0]) ⟨hx, hb, hml, hown, hts⟩ (c_J6_bitCount_0f7a4 l D t σ I J ri_8 rj rq H.size) (va_cwS 1 hts (tw_S tw_1147 tw_1148 tw_492 tw_1149) rfl rfl rfl (by decide +kernel) ⟨Nat.le_of_ble_eq_true rfl, Nat.le_of_ble_eq_true rfl⟩) ⟨pq_blind, pq_pre hK hN hP hD⟩ rfl rfl hl.1 rfl (lv_room (Nat.le_of_ble_eq_true rfl)) dX2_countArea_81 ⟨Nat.le_of_ble_eq_true rfl, Nat.le_of_ble_eq_true rfl⟩) hD hS hA (fun r_73 σ1 μ1 H locs hw_74 hP hD hS => ?_)
  obtain ⟨hu_75, hr_76⟩ := hw_74
  obtain ⟨hu_75a, hu_75b⟩ := Prod.mk.inj hu_75
  rw [hu_75a, hu_75b] at hP hD
  subst hr_76
  refine lv_iadd hx hb dX2_countArea_84 ?_
  refine lv_tov 0 (by decide) ?_
  refine lv_istore (lv' := [(4, .int 0), (5, .int 12), (0, .ref this), (1, .long ofc), (3, .int 3)]) hx hb dX2_countArea_85 hl (by decide) rfl (fun ls hl => ?_)
  refine lv_iinc (v := 13) (lv' := [(5, .int 13), (4, .int 0), (0, .ref this), (1, .long ofc), (3, .int 3)]) hx hb dX2_countArea_87 hl (k := 1) rfl (by decide) (by decide) rfl (fun ls hl => ?_)
  refine lv_goto (tgt := 65) hx hb dX2_countArea_90 (by decide) ?_
  refine lv_iload hx hb dX2_countArea_65 (lv_at hl 0 rfl) ?_
  refine lv_bipush (v := 32) hx hb dX2_countArea_67 (by decide) ?_
  refine lv_icmp_ge (tgt := 93) hx hb dX2_countArea_69 (by decide) (fun c_77 => absurd c_77 (by decide)) (fun c_77 => ?_)
  refine lv_iload hx hb dX2_countArea_72 (lv_at hl 1 rfl) ?_
  refine lv_aload_n hx hb dX2_countArea_74 rfl (lv_at hl 2 rfl) ?_
  refine pg_f (v := .ref this_rows) (C := RX2) (T := TX2) (N := 20) hx hb hts (tw_i inlX2) hown hK hP hL_this hK_this (by decide) rfl 18 (by decide) (hts _ (tw_c tw_99)) (pq_hv rfl hR_this_rows) dX2_countArea_75 ?_
  refine lv_iload hx hb dX2_countArea_78 (lv_at hl 0 rfl) ?_
  refine pl_i hx hb hK hP hL_this_rows hK_this_rows hN_this_rows (vp_in_iff.mpr (by decide)) dX2_countArea_80 ?_
  refine lv_tov 0 ((congrFun (hu_9p0 this_rows hrw) _).trans (hu_4p0.1 _ (by decide))) ?_
  refine pk_i (va_runS (As := [.int 0]) (rest := [.int 0]) ⟨hx, hb, hml, hown, hts⟩ (c_J6_bitCount_0f7a4 l D t σ I J ri_8 rj rq H.size) (va_cwS 1 hts (tw_S tw_1147 tw_1148 tw_492 tw_1149) rfl rfl rfl (by decide +kernel) ⟨Nat.le_of_ble_eq_true rfl, Nat.le_of_ble_eq_true rfl⟩) ⟨pq_blind, pq_pre hK hN hP hD⟩ rfl rfl hl.1 rfl (lv_room (Nat.le_of_ble_eq_true rfl)) dX2_countArea_81 ⟨Nat.le_of_ble_eq_true rfl, Nat.le_of_ble_eq_true rfl⟩) hD hS hA (fun r_78 σ1 μ1 H locs hw_79 hP hD hS => ?_)
  obtain ⟨hu_80, hr_81⟩ := hw_79
  obtain ⟨hu_80a, hu_80b⟩ := Prod.mk.inj hu_80
  rw [hu_80a, hu_80b] at hP hD
  subst hr_81
  refine lv_iadd hx hb dX2_countArea_84 ?_
  refine lv_tov 0 (by decide) ?_
  refine lv_istore (lv' := [(4, .int 0), (5, .int 13), (0, .ref this), (1, .long ofc), (3, .int 3)]) hx hb dX2_countArea_85 hl (by decide) rfl (fun ls hl => ?_)
  refine lv_iinc (v := 14) (lv' := [(5, .int 14), (4, .int 0), (0, .ref this), (1, .long ofc), (3, .int 3)]) hx hb dX2_countArea_87 hl (k := 1) rfl (by decide) (by decide) rfl (fun ls hl => ?_)
  refine lv_goto (tgt := 65) hx hb dX2_countArea_90 (by decide) ?_
  refine lv_iload hx hb dX2_countArea_65 (lv_at hl 0 rfl) ?_
  refine lv_bipush (v := 32) hx hb dX2_countArea_67 (by decide) ?_
  refine lv_icmp_ge (tgt := 93) hx hb dX2_countArea_69 (by decide) (fun c_82 => absurd c_82 (by decide)) (fun c_82 => ?_)
  refine lv_iload hx hb dX2_countArea_72 (lv_at hl 1 rfl) ?_
  refine lv_aload_n hx hb dX2_countArea_74 rfl (lv_at hl 2 rfl) ?_
  refine pg_f (v := .ref this_rows) (C := RX2) (T := TX2) (N := 20) hx hb hts (tw_i inlX2) hown hK hP hL_this hK_this (by decide) rfl 18 (by decide) (hts _ (tw_c tw_99)) (pq_hv rfl hR_this_rows) dX2_countArea_75 ?_
  refine lv_iload hx hb dX2_countArea_78 (lv_at hl 0 rfl) ?_
  refine pl_i hx hb hK hP hL_this_rows hK_this_rows hN_this_rows (vp_in_iff.mpr (by decide)) dX2_countArea_80 ?_
  refine lv_tov 0 ((congrFun (hu_9p0 this_rows hrw) _).trans (hu_4p0.1 _ (by decide))) ?_
  refine pk_i (va_runS (As := [.int 0]) (rest := [.int 0]) ⟨hx, hb, hml, hown, hts⟩ (c_J6_bitCount_0f7a4 l D t σ I J ri_8 rj rq H.size) (va_cwS 1 hts (tw_S tw_1147 tw_1148 tw_492 tw_1149) rfl rfl rfl (by decide +kernel) ⟨Nat.le_of_ble_eq_true rfl, Nat.le_of_ble_eq_true rfl⟩) ⟨pq_blind, pq_pre hK hN hP hD⟩ rfl rfl hl.1 rfl (lv_room (Nat.le_of_ble_eq_true rfl)) dX2_countArea_81 ⟨Nat.le_of_ble_eq_true rfl, Nat.le_of_ble_eq_true rfl⟩) hD hS hA (fun r_83 σ1 μ1 H locs hw_84 hP hD hS => ?_)
  obtain ⟨hu_85, hr_86⟩ := hw_84
  obtain ⟨hu_85a, hu_85b⟩ := Prod.mk.inj hu_85
  rw [hu_85a, hu_85b] at hP hD
  subst hr_86
  refine lv_iadd hx hb dX2_countArea_84 ?_
  refine lv_tov 0 (by decide) ?_
  refine lv_istore (lv' := [(4, .int 0), (5, .int 14), (0, .ref this), (1, .long ofc), (3, .int 3)]) hx hb dX2_countArea_85 hl (by decide) rfl (fun ls hl => ?_)
  refine lv_iinc (v := 15) (lv' := [(5, .int 15), (4, .int 0), (0, .ref this), (1, .long ofc), (3, .int 3)]) hx hb dX2_countArea_87 hl (k := 1) rfl (by decide) (by decide) rfl (fun ls hl => ?_)
  refine lv_goto (tgt := 65) hx hb dX2_countArea_90 (by decide) ?_
  refine lv_iload hx hb dX2_countArea_65 (lv_at hl 0 rfl) ?_
  refine lv_bipush (v := 32) hx hb dX2_countArea_67 (by decide) ?_
  refine lv_icmp_ge (tgt := 93) hx hb dX2_countArea_69 (by decide) (fun c_87 => absurd c_87 (by decide)) (fun c_87 => ?_)
  refine lv_iload hx hb dX2_countArea_72 (lv_at hl 1 rfl) ?_
  refine lv_aload_n hx hb dX2_countArea_74 rfl (lv_at hl 2 rfl) ?_
  refine pg_f (v := .ref this_rows) (C := RX2) (T := TX2) (N := 20) hx hb hts (tw_i inlX2) hown hK hP hL_this hK_this (by decide) rfl 18 (by decide) (hts _ (tw_c tw_99)) (pq_hv rfl hR_this_rows) dX2_countArea_75 ?_
  refine lv_iload hx hb dX2_countArea_78 (lv_at hl 0 rfl) ?_
  refine pl_i hx hb hK hP hL_this_rows hK_this_rows hN_this_rows (vp_in_iff.mpr (by decide)) dX2_countArea_80 ?_
  refine lv_tov 0 ((congrFun (hu_9p0 this_rows hrw) _).trans (hu_4p0.1 _ (by decide))) ?_
  refine pk_i (va_runS (As := [.int 0]) (rest := [.int 0]) ⟨hx, hb, hml, hown, hts⟩ (c_J6_bitCount_0f7a4 l D t σ I J ri_8 rj rq H.size) (va_cwS 1 hts (tw_S tw_1147 tw_1148 tw_492 tw_1149) rfl rfl rfl (by decide +kernel) ⟨Nat.le_of_ble_eq_true rfl, Nat.le_of_ble_eq_true rfl⟩) ⟨pq_blind, pq_pre hK hN hP hD⟩ rfl rfl hl.1 rfl (lv_room (Nat.le_of_ble_eq_true rfl)) dX2_countArea_81 ⟨Nat.le_of_ble_eq_true rfl, Nat.le_of_ble_eq_true rfl⟩) hD hS hA (fun r_88 σ1 μ1 H locs hw_89 hP hD hS => ?_)
  obtain ⟨hu_90, hr_91⟩ := hw_89
  obtain ⟨hu_90a, hu_90b⟩ := Prod.mk.inj hu_90
  rw [hu_90a, hu_90b] at hP hD
  subst hr_91
  refine lv_iadd hx hb dX2_countArea_84 ?_
  refine lv_tov 0 (by decide) ?_
  refine lv_istore (lv' := [(4, .int 0), (5, .int 15), (0, .ref this), (1, .long ofc), (3, .int 3)]) hx hb dX2_countArea_85 hl (by decide) rfl (fun ls hl => ?_)
  refine lv_iinc (v := 16) (lv' := [(5, .int 16), (4, .int 0), (0, .ref this), (1, .long ofc), (3, .int 3)]) hx hb dX2_countArea_87 hl (k := 1) rfl (by decide) (by decide) rfl (fun ls hl => ?_)
  refine lv_goto (tgt := 65) hx hb dX2_countArea_90 (by decide) ?_
  refine lv_iload hx hb dX2_countArea_65 (lv_at hl 0 rfl) ?_
  refine lv_bipush (v := 32) hx hb dX2_countArea_67 (by decide) ?_
  refine lv_icmp_ge (tgt := 93) hx hb dX2_countArea_69 (by decide) (fun c_92 => absurd c_92 (by decide)) (fun c_92 => ?_)
  refine lv_iload hx hb dX2_countArea_72 (lv_at hl 1 rfl) ?_
  refine lv_aload_n hx hb dX2_countArea_74 rfl (lv_at hl 2 rfl) ?_
  refine pg_f (v := .ref this_rows) (C := RX2) (T := TX2) (N := 20) hx hb hts (tw_i inlX2) hown hK hP hL_this hK_this (by decide) rfl 18 (by decide) (hts _ (tw_c tw_99)) (pq_hv rfl hR_this_rows) dX2_countArea_75 ?_
  refine lv_iload hx hb dX2_countArea_78 (lv_at hl 0 rfl) ?_
  refine pl_i hx hb hK hP hL_this_rows hK_this_rows hN_this_rows (vp_in_iff.mpr (by decide)) dX2_countArea_80 ?_
  refine lv_tov 0 ((congrFun (hu_9p0 this_rows hrw) _).trans (hu_4p0.1 _ (by decide))) ?_
  refine pk_i (va_runS (As := [.int 0]) (rest := [.int 0]) ⟨hx, hb, hml, hown, hts⟩ (c_J6_bitCount_0f7a4 l D t σ I J ri_8 rj rq H.size) (va_cwS 1 hts (tw_S tw_1147 tw_1148 tw_492 tw_1149) rfl rfl rfl (by decide +kernel) ⟨Nat.le_of_ble_eq_true rfl, Nat.le_of_ble_eq_true rfl⟩) ⟨pq_blind, pq_pre hK hN hP hD⟩ rfl rfl hl.1 rfl (lv_room (Nat.le_of_ble_eq_true rfl)) dX2_countArea_81 ⟨Nat.le_of_ble_eq_true rfl, Nat.le_of_ble_eq_true rfl⟩) hD hS hA (fun r_93 σ1 μ1 H locs hw_94 hP hD hS => ?_)
  obtain ⟨hu_95, hr_96⟩ := hw_94
  obtain ⟨hu_95a, hu_95b⟩ := Prod.mk.inj hu_95
  rw [hu_95a, hu_95b] at hP hD
  subst hr_96
  refine lv_iadd hx hb dX2_countArea_84 ?_
  refine lv_tov 0 (by decide) ?_
  refine lv_istore (lv' := [(4, .int 0), (5, .int 16), (0, .ref this), (1, .long ofc), (3, .int 3)]) hx hb dX2_countArea_85 hl (by decide) rfl (fun ls hl => ?_)
  refine lv_iinc (v := 17) (lv' := [(5, .int 17), (4, .int 0), (0, .ref this), (1, .long ofc), (3, .int 3)]) hx hb dX2_countArea_87 hl (k := 1) rfl (by decide) (by decide) rfl (fun ls hl => ?_)
  refine lv_goto (tgt := 65) hx hb dX2_countArea_90 (by decide) ?_
  refine lv_iload hx hb dX2_countArea_65 (lv_at hl 0 rfl) ?_
  refine lv_bipush (v := 32) hx hb dX2_countArea_67 (by decide) ?_
  refine lv_icmp_ge (tgt := 93) hx hb dX2_countArea_69 (by decide) (fun c_97 => absurd c_97 (by decide)) (fun c_97 => ?_)
  refine lv_iload hx hb dX2_countArea_72 (lv_at hl 1 rfl) ?_
  refine lv_aload_n hx hb dX2_countArea_74 rfl (lv_at hl 2 rfl) ?_
  refine pg_f (v := .ref this_rows) (C := RX2) (T := TX2) (N := 20) hx hb hts (tw_i inlX2) hown hK hP hL_this hK_this (by decide) rfl 18 (by decide) (hts _ (tw_c tw_99)) (pq_hv rfl hR_this_rows) dX2_countArea_75 ?_
  refine lv_iload hx hb dX2_countArea_78 (lv_at hl 0 rfl) ?_
  refine pl_i hx hb hK hP hL_this_rows hK_this_rows hN_this_rows (vp_in_iff.mpr (by decide)) dX2_countArea_80 ?_
  refine lv_tov 0 ((congrFun (hu_9p0 this_rows hrw) _).trans (hu_4p0.1 _ (by decide))) ?_
  refine pk_i (va_runS (As := [.int 0]) (rest := [.int 0]) ⟨hx, hb, hml, hown, hts⟩ (c_J6_bitCount_0f7a4 l D t σ I J ri_8 rj rq H.size) (va_cwS 1 hts (tw_S tw_1147 tw_1148 tw_492 tw_1149) rfl rfl rfl (by decide +kernel) ⟨Nat.le_of_ble_eq_true rfl, Nat.le_of_ble_eq_true rfl⟩) ⟨pq_blind, pq_pre hK hN hP hD⟩ rfl rfl hl.1 rfl (lv_room (Nat.le_of_ble_eq_true rfl)) dX2_countArea_81 ⟨Nat.le_of_ble_eq_true rfl, Nat.le_of_ble_eq_true rfl⟩) hD hS hA (fun r_98 σ1 μ1 H locs hw_99 hP hD hS => ?_)
  obtain ⟨hu_100, hr_101⟩ := hw_99
  obtain ⟨hu_100a, hu_100b⟩ := Prod.mk.inj hu_100
  rw [hu_100a, hu_100b] at hP hD
  subst hr_101
  refine lv_iadd hx hb dX2_countArea_84 ?_
  refine lv_tov 0 (by decide) ?_
  refine lv_istore (lv' := [(4, .int 0), (5, .int 17), (0, .ref this), (1, .long ofc), (3, .int 3)]) hx hb dX2_countArea_85 hl (by decide) rfl (fun ls hl => ?_)
  refine lv_iinc (v := 18) (lv' := [(5, .int 18), (4, .int 0), (0, .ref this), (1, .long ofc), (3, .int 3)]) hx hb dX2_countArea_87 hl (k := 1) rfl (by decide) (by decide) rfl (fun ls hl => ?_)
  refine lv_goto (tgt := 65) hx hb dX2_countArea_90 (by decide) ?_
  refine lv_iload hx hb dX2_countArea_65 (lv_at hl 0 rfl) ?_
  refine lv_bipush (v := 32) hx hb dX2_countArea_67 (by decide) ?_
  refine lv_icmp_ge (tgt := 93) hx hb dX2_countArea_69 (by decide) (fun c_102 => absurd c_102 (by decide)) (fun c_102 => ?_)
  refine lv_iload hx hb dX2_countArea_72 (lv_at hl 1 rfl) ?_
  refine lv_aload_n hx hb dX2_countArea_74 rfl (lv_at hl 2 rfl) ?_
  refine pg_f (v := .ref this_rows) (C := RX2) (T := TX2) (N := 20) hx hb hts (tw_i inlX2) hown hK hP hL_this hK_this (by decide) rfl 18 (by decide) (hts _ (tw_c tw_99)) (pq_hv rfl hR_this_rows) dX2_countArea_75 ?_
  refine lv_iload hx hb dX2_countArea_78 (lv_at hl 0 rfl) ?_
  refine pl_i hx hb hK hP hL_this_rows hK_this_rows hN_this_rows (vp_in_iff.mpr (by decide)) dX2_countArea_80 ?_
  refine lv_tov 0 ((congrFun (hu_9p0 this_rows hrw) _).trans (hu_4p0.1 _ (by decide))) ?_
  refine pk_i (va_runS (As := [.int 0]) (rest := [.int 0]) ⟨hx, hb, hml, hown, hts⟩ (c_J6_bitCount_0f7a4 l D t σ I J ri_8 rj rq H.size) (va_cwS 1 hts (tw_S tw_1147 tw_1148 tw_492 tw_1149) rfl rfl rfl (by decide +kernel) ⟨Nat.le_of_ble_eq_true rfl, Nat.le_of_ble_eq_true rfl⟩) ⟨pq_blind, pq_pre hK hN hP hD⟩ rfl rfl hl.1 rfl (lv_room (Nat.le_of_ble_eq_true rfl)) dX2_countArea_81 ⟨Nat.le_of_ble_eq_true rfl, Nat.le_of_ble_eq_true rfl⟩) hD hS hA (fun r_103 σ1 μ1 H locs hw_104 hP hD hS => ?_)
  obtain ⟨hu_105, hr_106⟩ := hw_104
  obtain ⟨hu_105a, hu_105b⟩ := Prod.mk.inj hu_105
  rw [hu_105a, hu_105b] at hP hD
  subst hr_106
  refine lv_iadd hx hb dX2_countArea_84 ?_
  refine lv_tov 0 (by decide) ?_
  refine lv_istore (lv' := [(4, .int 0), (5, .int 18), (0, .ref this), (1, .long ofc), (3, .int 3)]) hx hb dX2_countArea_85 hl (by decide) rfl (fun ls hl => ?_)
  refine lv_iinc (v := 19) (lv' := [(5, .int 19), (4, .int 0), (0, .ref this), (1, .long ofc), (3, .int 3)]) hx hb dX2_countArea_87 hl (k := 1) rfl (by decide) (by decide) rfl (fun ls hl => ?_)
  refine lv_goto (tgt := 65) hx hb dX2_countArea_90 (by decide) ?_
  refine lv_iload hx hb dX2_countArea_65 (lv_at hl 0 rfl) ?_
  refine lv_bipush (v := 32) hx hb dX2_countArea_67 (by decide) ?_
  refine lv_icmp_ge (tgt := 93) hx hb dX2_countArea_69 (by decide) (fun c_107 => absurd c_107 (by decide)) (fun c_107 => ?_)
  refine lv_iload hx hb dX2_countArea_72 (lv_at hl 1 rfl) ?_
  refine lv_aload_n hx hb dX2_countArea_74 rfl (lv_at hl 2 rfl) ?_
  refine pg_f (v := .ref this_rows) (C := RX2) (T := TX2) (N := 20) hx hb hts (tw_i inlX2) hown hK hP hL_this hK_this (by decide) rfl 18 (by decide) (hts _ (tw_c tw_99)) (pq_hv rfl hR_this_rows) dX2_countArea_75 ?_
  refine lv_iload hx hb dX2_countArea_78 (lv_at hl 0 rfl) ?_
  refine pl_i hx hb hK hP hL_this_rows hK_this_rows hN_this_rows (vp_in_iff.mpr (by decide)) dX2_countArea_80 ?_
  refine lv_tov 0 ((congrFun (hu_9p0 this_rows hrw) _).trans (hu_4p0.1 _ (by decide))) ?_
  refine pk_i (va_runS (As := [.int 0]) (rest := [.int 0]) ⟨hx, hb, hml, hown, hts⟩ (c_J6_bitCount_0f7a4 l D t σ I J ri_8 rj rq H.size) (va_cwS 1 hts (tw_S tw_1147 tw_1148 tw_492 tw_1149) rfl rfl rfl (by decide +kernel) ⟨Nat.le_of_ble_eq_true rfl, Nat.le_of_ble_eq_true rfl⟩) ⟨pq_blind, pq_pre hK hN hP hD⟩ rfl rfl hl.1 rfl (lv_room (Nat.le_of_ble_eq_true rfl)) dX2_countArea_81 ⟨Nat.le_of_ble_eq_true rfl, Nat.le_of_ble_eq_true rfl⟩) hD hS hA (fun r_108 σ1 μ1 H locs hw_109 hP hD hS => ?_)
  obtain ⟨hu_110, hr_111⟩ := hw_109
  obtain ⟨hu_110a, hu_110b⟩ := Prod.mk.inj hu_110
  rw [hu_110a, hu_110b] at hP hD
  subst hr_111
  refine lv_iadd hx hb dX2_countArea_84 ?_
  refine lv_tov 0 (by decide) ?_
  refine lv_istore (lv' := [(4, .int 0), (5, .int 19), (0, .ref this), (1, .long ofc), (3, .int 3)]) hx hb dX2_countArea_85 hl (by decide) rfl (fun ls hl => ?_)
  refine lv_iinc (v := 20) (lv' := [(5, .int 20), (4, .int 0), (0, .ref this), (1, .long ofc), (3, .int 3)]) hx hb dX2_countArea_87 hl (k := 1) rfl (by decide) (by decide) rfl (fun ls hl => ?_)
  refine lv_goto (tgt := 65) hx hb dX2_countArea_90 (by decide) ?_
  refine lv_iload hx hb dX2_countArea_65 (lv_at hl 0 rfl) ?_
  refine lv_bipush (v := 32) hx hb dX2_countArea_67 (by decide) ?_
  refine lv_icmp_ge (tgt := 93) hx hb dX2_countArea_69 (by decide) (fun c_112 => absurd c_112 (by decide)) (fun c_112 => ?_)
  refine lv_iload hx hb dX2_countArea_72 (lv_at hl 1 rfl) ?_
  refine lv_aload_n hx hb dX2_countArea_74 rfl (lv_at hl 2 rfl) ?_
  refine pg_f (v := .ref this_rows) (C := RX2) (T := TX2) (N := 20) hx hb hts (tw_i inlX2) hown hK hP hL_this hK_this (by decide) rfl 18 (by decide) (hts _ (tw_c tw_99)) (pq_hv rfl hR_this_rows) dX2_countArea_75 ?_
  refine lv_iload hx hb dX2_countArea_78 (lv_at hl 0 rfl) ?_
  refine pl_i hx hb hK hP hL_this_rows hK_this_rows hN_this_rows (vp_in_iff.mpr (by decide)) dX2_countArea_80 ?_
  refine lv_tov 0 ((congrFun (hu_9p0 this_rows hrw) _).trans (hu_4p0.1 _ (by decide))) ?_
  refine pk_i (va_runS (As := [.int 0]) (rest := [.int 0]) ⟨hx, hb, hml, hown, hts⟩ (c_J6_bitCount_0f7a4 l D t σ I J ri_8 rj rq H.size) (va_cwS 1 hts (tw_S tw_1147 tw_1148 tw_492 tw_1149) rfl rfl rfl (by decide +kernel) ⟨Nat.le_of_ble_eq_true rfl, Nat.le_of_ble_eq_true rfl⟩) ⟨pq_blind, pq_pre hK hN hP hD⟩ rfl rfl hl.1 rfl (lv_room (Nat.le_of_ble_eq_true rfl)) dX2_countArea_81 ⟨Nat.le_of_ble_eq_true rfl, Nat.le_of_ble_eq_true rfl⟩) hD hS hA (fun r_113 σ1 μ1 H locs hw_114 hP hD hS => ?_)
  obtain ⟨hu_115, hr_116⟩ := hw_114
  obtain ⟨hu_115a, hu_115b⟩ := Prod.mk.inj hu_115
  rw [hu_115a, hu_115b] at hP hD
  subst hr_116
  refine lv_iadd hx hb dX2_countArea_84 ?_
  refine lv_tov 0 (by decide) ?_
  refine lv_istore (lv' := [(4, .int 0), (5, .int 20), (0, .ref this), (1, .long ofc), (3, .int 3)]) hx hb dX2_countArea_85 hl (by decide) rfl (fun ls hl => ?_)
  refine lv_iinc (v := 21) (lv' := [(5, .int 21), (4, .int 0), (0, .ref this), (1, .long ofc), (3, .int 3)]) hx hb dX2_countArea_87 hl (k := 1) rfl (by decide) (by decide) rfl (fun ls hl => ?_)
  refine lv_goto (tgt := 65) hx hb dX2_countArea_90 (by decide) ?_
  refine lv_iload hx hb dX2_countArea_65 (lv_at hl 0 rfl) ?_
  refine lv_bipush (v := 32) hx hb dX2_countArea_67 (by decide) ?_
  refine lv_icmp_ge (tgt := 93) hx hb dX2_countArea_69 (by decide) (fun c_117 => absurd c_117 (by decide)) (fun c_117 => ?_)
  refine lv_iload hx hb dX2_countArea_72 (lv_at hl 1 rfl) ?_
  refine lv_aload_n hx hb dX2_countArea_74 rfl (lv_at hl 2 rfl) ?_
  refine pg_f (v := .ref this_rows) (C := RX2) (T := TX2) (N := 20) hx hb hts (tw_i inlX2) hown hK hP hL_this hK_this (by decide) rfl 18 (by decide) (hts _ (tw_c tw_99)) (pq_hv rfl hR_this_rows) dX2_countArea_75 ?_
  refine lv_iload hx hb dX2_countArea_78 (lv_at hl 0 rfl) ?_
  refine pl_i hx hb hK hP hL_this_rows hK_this_rows hN_this_rows (vp_in_iff.mpr (by decide)) dX2_countArea_80 ?_
  refine lv_tov 0 ((congrFun (hu_9p0 this_rows hrw) _).trans (hu_4p0.1 _ (by decide))) ?_
  refine pk_i (va_runS (As := [.int 0]) (rest := [.int 0]) ⟨hx, hb, hml, hown, hts⟩ (c_J6_bitCount_0f7a4 l D t σ I J ri_8 rj rq H.size) (va_cwS 1 hts (tw_S tw_1147 tw_1148 tw_492 tw_1149) rfl rfl rfl (by decide +kernel) ⟨Nat.le_of_ble_eq_true rfl, Nat.le_of_ble_eq_true rfl⟩) ⟨pq_blind, pq_pre hK hN hP hD⟩ rfl rfl hl.1 rfl (lv_room (Nat.le_of_ble_eq_true rfl)) dX2_countArea_81 ⟨Nat.le_of_ble_eq_true rfl, Nat.le_of_ble_eq_true rfl⟩) hD hS hA (fun r_118 σ1 μ1 H locs hw_119 hP hD hS => ?_)
  obtain ⟨hu_120, hr_121⟩ := hw_119
  obtain ⟨hu_120a, hu_120b⟩ := Prod.mk.inj hu_120
  rw [hu_120a, hu_120b] at hP hD
  subst hr_121
  refine lv_iadd hx hb dX2_countArea_84 ?_
  refine lv_tov 0 (by decide) ?_
  refine lv_istore (lv' := [(4, .int 0), (5, .int 21), (0, .ref this), (1, .long ofc), (3, .int 3)]) hx hb dX2_countArea_85 hl (by decide) rfl (fun ls hl => ?_)
  refine lv_iinc (v := 22) (lv' := [(5, .int 22), (4, .int 0), (0, .ref this), (1, .long ofc), (3, .int 3)]) hx hb dX2_countArea_87 hl (k := 1) rfl (by decide) (by decide) rfl (fun ls hl => ?_)
  refine lv_goto (tgt := 65) hx hb dX2_countArea_90 (by decide) ?_
  refine lv_iload hx hb dX2_countArea_65 (lv_at hl 0 rfl) ?_
  refine lv_bipush (v := 32) hx hb dX2_countArea_67 (by decide) ?_
  refine lv_icmp_ge (tgt := 93) hx hb dX2_countArea_69 (by decide) (fun c_122 => absurd c_122 (by decide)) (fun c_122 => ?_)
  refine lv_iload hx hb dX2_countArea_72 (lv_at hl 1 rfl) ?_
  refine lv_aload_n hx hb dX2_countArea_74 rfl (lv_at hl 2 rfl) ?_
  refine pg_f (v := .ref this_rows) (C := RX2) (T := TX2) (N := 20) hx hb hts (tw_i inlX2) hown hK hP hL_this hK_this (by decide) rfl 18 (by decide) (hts _ (tw_c tw_99)) (pq_hv rfl hR_this_rows) dX2_countArea_75 ?_
  refine lv_iload hx hb dX2_countArea_78 (lv_at hl 0 rfl) ?_
  refine pl_i hx hb hK hP hL_this_rows hK_this_rows hN_this_rows (vp_in_iff.mpr (by decide)) dX2_countArea_80 ?_
  refine lv_tov 0 ((congrFun (hu_9p0 this_rows hrw) _).trans (hu_4p0.1 _ (by decide))) ?_
  refine pk_i (va_runS (As := [.int 0]) (rest := [.int 0]) ⟨hx, hb, hml, hown, hts⟩ (c_J6_bitCount_0f7a4 l D t σ I J ri_8 rj rq H.size) (va_cwS 1 hts (tw_S tw_1147 tw_1148 tw_492 tw_1149) rfl rfl rfl (by decide +kernel) ⟨Nat.le_of_ble_eq_true rfl, Nat.le_of_ble_eq_true rfl⟩) ⟨pq_blind, pq_pre hK hN hP hD⟩ rfl rfl hl.1 rfl (lv_room (Nat.le_of_ble_eq_true rfl)) dX2_countArea_81 ⟨Nat.le_of_ble_eq_true rfl, Nat.le_of_ble_eq_true rfl⟩) hD hS hA (fun r_123 σ1 μ1 H locs hw_124 hP hD hS => ?_)
  obtain ⟨hu_125, hr_126⟩ := hw_124
  obtain ⟨hu_125a, hu_125b⟩ := Prod.mk.inj hu_125
  rw [hu_125a, hu_125b] at hP hD
  subst hr_126
  refine lv_iadd hx hb dX2_countArea_84 ?_
  refine lv_tov 0 (by decide) ?_
  refine lv_istore (lv' := [(4, .int 0), (5, .int 22), (0, .ref this), (1, .long ofc), (3, .int 3)]) hx hb dX2_countArea_85 hl (by decide) rfl (fun ls hl => ?_)
  refine lv_iinc (v := 23) (lv' := [(5, .int 23), (4, .int 0), (0, .ref this), (1, .long ofc), (3, .int 3)]) hx hb dX2_countArea_87 hl (k := 1) rfl (by decide) (by decide) rfl (fun ls hl => ?_)
  refine lv_goto (tgt := 65) hx hb dX2_countArea_90 (by decide) ?_
  refine lv_iload hx hb dX2_countArea_65 (lv_at hl 0 rfl) ?_
  refine lv_bipush (v := 32) hx hb dX2_countArea_67 (by decide) ?_
  refine lv_icmp_ge (tgt := 93) hx hb dX2_countArea_69 (by decide) (fun c_127 => absurd c_127 (by decide)) (fun c_127 => ?_)
  refine lv_iload hx hb dX2_countArea_72 (lv_at hl 1 rfl) ?_
  refine lv_aload_n hx hb dX2_countArea_74 rfl (lv_at hl 2 rfl) ?_
  refine pg_f (v := .ref this_rows) (C := RX2) (T := TX2) (N := 20) hx hb hts (tw_i inlX2) hown hK hP hL_this hK_this (by decide) rfl 18 (by decide) (hts _ (tw_c tw_99)) (pq_hv rfl hR_this_rows) dX2_countArea_75 ?_
  refine lv_iload hx hb dX2_countArea_78 (lv_at hl 0 rfl) ?_
  refine pl_i hx hb hK hP hL_this_rows hK_this_rows hN_this_rows (vp_in_iff.mpr (by decide)) dX2_countArea_80 ?_
  refine lv_tov 0 ((congrFun (hu_9p0 this_rows hrw) _).trans (hu_4p0.1 _ (by decide))) ?_
  refine pk_i (va_runS (As := [.int 0]) (rest := [.int 0]) ⟨hx, hb, hml, hown, hts⟩ (c_J6_bitCount_0f7a4 l D t σ I J ri_8 rj rq H.size) (va_cwS 1 hts (tw_S tw_1147 tw_1148 tw_492 tw_1149) rfl rfl rfl (by decide +kernel) ⟨Nat.le_of_ble_eq_true rfl, Nat.le_of_ble_eq_true rfl⟩) ⟨pq_blind, pq_pre hK hN hP hD⟩ rfl rfl hl.1 rfl (lv_room (Nat.le_of_ble_eq_true rfl)) dX2_countArea_81 ⟨Nat.le_of_ble_eq_true rfl, Nat.le_of_ble_eq_true rfl⟩) hD hS hA (fun r_128 σ1 μ1 H locs hw_129 hP hD hS => ?_)
  obtain ⟨hu_130, hr_131⟩ := hw_129
  obtain ⟨hu_130a, hu_130b⟩ := Prod.mk.inj hu_130
  rw [hu_130a, hu_130b] at hP hD
  subst hr_131
  refine lv_iadd hx hb dX2_countArea_84 ?_
  refine lv_tov 0 (by decide) ?_
  refine lv_istore (lv' := [(4, .int 0), (5, .int 23), (0, .ref this), (1, .long ofc), (3, .int 3)]) hx hb dX2_countArea_85 hl (by decide) rfl (fun ls hl => ?_)
  refine lv_iinc (v := 24) (lv' := [(5, .int 24), (4, .int 0), (0, .ref this), (1, .long ofc), (3, .int 3)]) hx hb dX2_countArea_87 hl (k := 1) rfl (by decide) (by decide) rfl (fun ls hl => ?_)
  refine lv_goto (tgt := 65) hx hb dX2_countArea_90 (by decide) ?_
  refine lv_iload hx hb dX2_countArea_65 (lv_at hl 0 rfl) ?_
  refine lv_bipush (v := 32) hx hb dX2_countArea_67 (by decide) ?_
  refine lv_icmp_ge (tgt := 93) hx hb dX2_countArea_69 (by decide) (fun c_132 => absurd c_132 (by decide)) (fun c_132 => ?_)
  refine lv_iload hx hb dX2_countArea_72 (lv_at hl 1 rfl) ?_
  refine lv_aload_n hx hb dX2_countArea_74 rfl (lv_at hl 2 rfl) ?_
  refine pg_f (v := .ref this_rows) (C := RX2) (T := TX2) (N := 20) hx hb hts (tw_i inlX2) hown hK hP hL_this hK_this (by decide) rfl 18 (by decide) (hts _ (tw_c tw_99)) (pq_hv rfl hR_this_rows) dX2_countArea_75 ?_
  refine lv_iload hx hb dX2_countArea_78 (lv_at hl 0 rfl) ?_
  refine pl_i hx hb hK hP hL_this_rows hK_this_rows hN_this_rows (vp_in_iff.mpr (by decide)) dX2_countArea_80 ?_
  refine lv_tov 0 ((congrFun (hu_9p0 this_rows hrw) _).trans (hu_4p0.1 _ (by decide))) ?_
  refine pk_i (va_runS (As := [.int 0]) (rest := [.int 0]) ⟨hx, hb, hml, hown, hts⟩ (c_J6_bitCount_0f7a4 l D t σ I J ri_8 rj rq H.size) (va_cwS 1 hts (tw_S tw_1147 tw_1148 tw_492 tw_1149) rfl rfl rfl (by decide +kernel) ⟨Nat.le_of_ble_eq_true rfl, Nat.le_of_ble_eq_true rfl⟩) ⟨pq_blind, pq_pre hK hN hP hD⟩ rfl rfl hl.1 rfl (lv_room (Nat.le_of_ble_eq_true rfl)) dX2_countArea_81 ⟨Nat.le_of_ble_eq_true rfl, Nat.le_of_ble_eq_true rfl⟩) hD hS hA (fun r_133 σ1 μ1 H locs hw_134 hP hD hS => ?_)
  obtain ⟨hu_135, hr_136⟩ := hw_134
  obtain ⟨hu_135a, hu_135b⟩ := Prod.mk.inj hu_135
  rw [hu_135a, hu_135b] at hP hD
  subst hr_136
  refine lv_iadd hx hb dX2_countArea_84 ?_
  refine lv_tov 0 (by decide) ?_
  refine lv_istore (lv' := [(4, .int 0), (5, .int 24), (0, .ref this), (1, .long ofc), (3, .int 3)]) hx hb dX2_countArea_85 hl (by decide) rfl (fun ls hl => ?_)
  refine lv_iinc (v := 25) (lv' := [(5, .int 25), (4, .int 0), (0, .ref this), (1, .long ofc), (3, .int 3)]) hx hb dX2_countArea_87 hl (k := 1) rfl (by decide) (by decide) rfl (fun ls hl => ?_)
  refine lv_goto (tgt := 65) hx hb dX2_countArea_90 (by decide) ?_
  refine lv_iload hx hb dX2_countArea_65 (lv_at hl 0 rfl) ?_
  refine lv_bipush (v := 32) hx hb dX2_countArea_67 (by decide) ?_
  refine lv_icmp_ge (tgt := 93) hx hb dX2_countArea_69 (by decide) (fun c_137 => absurd c_137 (by decide)) (fun c_137 => ?_)
  refine lv_iload hx hb dX2_countArea_72 (lv_at hl 1 rfl) ?_
  refine lv_aload_n hx hb dX2_countArea_74 rfl (lv_at hl 2 rfl) ?_
  refine pg_f (v := .ref this_rows) (C := RX2) (T := TX2) (N := 20) hx hb hts (tw_i inlX2) hown hK hP hL_this hK_this (by decide) rfl 18 (by decide) (hts _ (tw_c tw_99)) (pq_hv rfl hR_this_rows) dX2_countArea_75 ?_
  refine lv_iload hx hb dX2_countArea_78 (lv_at hl 0 rfl) ?_
  refine pl_i hx hb hK hP hL_this_rows hK_this_rows hN_this_rows (vp_in_iff.mpr (by decide)) dX2_countArea_80 ?_
  refine lv_tov 0 ((congrFun (hu_9p0 this_rows hrw) _).trans (hu_4p0.1 _ (by decide))) ?_
  refine pk_i (va_runS (As := [.int 0]) (rest := [.int 0]) ⟨hx, hb, hml, hown, hts⟩ (c_J6_bitCount_0f7a4 l D t σ I J ri_8 rj rq H.size) (va_cwS 1 hts (tw_S tw_1147 tw_1148 tw_492 tw_1149) rfl rfl rfl (by decide +kernel) ⟨Nat.le_of_ble_eq_true rfl, Nat.le_of_ble_eq_true rfl⟩) ⟨pq_blind, pq_pre hK hN hP hD⟩ rfl rfl hl.1 rfl (lv_room (Nat.le_of_ble_eq_true rfl)) dX2_countArea_81 ⟨Nat.le_of_ble_eq_true rfl, Nat.le_of_ble_eq_true rfl⟩) hD hS hA (fun r_138 σ1 μ1 H locs hw_139 hP hD hS => ?_)
  obtain ⟨hu_140, hr_141⟩ := hw_139
  obtain ⟨hu_140a, hu_140b⟩ := Prod.mk.inj hu_140
  rw [hu_140a, hu_140b] at hP hD
  subst hr_141
  refine lv_iadd hx hb dX2_countArea_84 ?_
  refine lv_tov 0 (by decide) ?_
  refine lv_istore (lv' := [(4, .int 0), (5, .int 25), (0, .ref this), (1, .long ofc), (3, .int 3)]) hx hb dX2_countArea_85 hl (by decide) rfl (fun ls hl => ?_)
  refine lv_iinc (v := 26) (lv' := [(5, .int 26), (4, .int 0), (0, .ref this), (1, .long ofc), (3, .int 3)]) hx hb dX2_countArea_87 hl (k := 1) rfl (by decide) (by decide) rfl (fun ls hl => ?_)
  refine lv_goto (tgt := 65) hx hb dX2_countArea_90 (by decide) ?_
  refine lv_iload hx hb dX2_countArea_65 (lv_at hl 0 rfl) ?_
  refine lv_bipush (v := 32) hx hb dX2_countArea_67 (by decide) ?_
  refine lv_icmp_ge (tgt := 93) hx hb dX2_countArea_69 (by decide) (fun c_142 => absurd c_142 (by decide)) (fun c_142 => ?_)
  refine lv_iload hx hb dX2_countArea_72 (lv_at hl 1 rfl) ?_
  refine lv_aload_n hx hb dX2_countArea_74 rfl (lv_at hl 2 rfl) ?_
  refine pg_f (v := .ref this_rows) (C := RX2) (T := TX2) (N := 20) hx hb hts (tw_i inlX2) hown hK hP hL_this hK_this (by decide) rfl 18 (by decide) (hts _ (tw_c tw_99)) (pq_hv rfl hR_this_rows) dX2_countArea_75 ?_
  refine lv_iload hx hb dX2_countArea_78 (lv_at hl 0 rfl) ?_
  refine pl_i hx hb hK hP hL_this_rows hK_this_rows hN_this_rows (vp_in_iff.mpr (by decide)) dX2_countArea_80 ?_
  refine lv_tov 0 ((congrFun (hu_9p0 this_rows hrw) _).trans (hu_4p0.1 _ (by decide))) ?_
  refine pk_i (va_runS (As := [.int 0]) (rest := [.int 0]) ⟨hx, hb, hml, hown, hts⟩ (c_J6_bitCount_0f7a4 l D t σ I J ri_8 rj rq H.size) (va_cwS 1 hts (tw_S tw_1147 tw_1148 tw_492 tw_1149) rfl rfl rfl (by decide +kernel) ⟨Nat.le_of_ble_eq_true rfl, Nat.le_of_ble_eq_true rfl⟩) ⟨pq_blind, pq_pre hK hN hP hD⟩ rfl rfl hl.1 rfl (lv_room (Nat.le_of_ble_eq_true rfl)) dX2_countArea_81 ⟨Nat.le_of_ble_eq_true rfl, Nat.le_of_ble_eq_true rfl⟩) hD hS hA (fun r_143 σ1 μ1 H locs hw_144 hP hD hS => ?_)
  obtain ⟨hu_145, hr_146⟩ := hw_144
  obtain ⟨hu_145a, hu_145b⟩ := Prod.mk.inj hu_145
  rw [hu_145a, hu_145b] at hP hD
  subst hr_146
  refine lv_iadd hx hb dX2_countArea_84 ?_
  refine lv_tov 0 (by decide) ?_
  refine lv_istore (lv' := [(4, .int 0), (5, .int 26), (0, .ref this), (1, .long ofc), (3, .int 3)]) hx hb dX2_countArea_85 hl (by decide) rfl (fun ls hl => ?_)
  refine lv_iinc (v := 27) (lv' := [(5, .int 27), (4, .int 0), (0, .ref this), (1, .long ofc), (3, .int 3)]) hx hb dX2_countArea_87 hl (k := 1) rfl (by decide) (by decide) rfl (fun ls hl => ?_)
  refine lv_goto (tgt := 65) hx hb dX2_countArea_90 (by decide) ?_
  refine lv_iload hx hb dX2_countArea_65 (lv_at hl 0 rfl) ?_
  refine lv_bipush (v := 32) hx hb dX2_countArea_67 (by decide) ?_
  refine lv_icmp_ge (tgt := 93) hx hb dX2_countArea_69 (by decide) (fun c_147 => absurd c_147 (by decide)) (fun c_147 => ?_)
  refine lv_iload hx hb dX2_countArea_72 (lv_at hl 1 rfl) ?_
  refine lv_aload_n hx hb dX2_countArea_74 rfl (lv_at hl 2 rfl) ?_
  refine pg_f (v := .ref this_rows) (C := RX2) (T := TX2) (N := 20) hx hb hts (tw_i inlX2) hown hK hP hL_this hK_this (by decide) rfl 18 (by decide) (hts _ (tw_c tw_99)) (pq_hv rfl hR_this_rows) dX2_countArea_75 ?_
  refine lv_iload hx hb dX2_countArea_78 (lv_at hl 0 rfl) ?_
  refine pl_i hx hb hK hP hL_this_rows hK_this_rows hN_this_rows (vp_in_iff.mpr (by decide)) dX2_countArea_80 ?_
  refine lv_tov 0 ((congrFun (hu_9p0 this_rows hrw) _).trans (hu_4p0.1 _ (by decide))) ?_
  refine pk_i (va_runS (As := [.int 0]) (rest := [.int 0]) ⟨hx, hb, hml, hown, hts⟩ (c_J6_bitCount_0f7a4 l D t σ I J ri_8 rj rq H.size) (va_cwS 1 hts (tw_S tw_1147 tw_1148 tw_492 tw_1149) rfl rfl rfl (by decide +kernel) ⟨Nat.le_of_ble_eq_true rfl, Nat.le_of_ble_eq_true rfl⟩) ⟨pq_blind, pq_pre hK hN hP hD⟩ rfl rfl hl.1 rfl (lv_room (Nat.le_of_ble_eq_true rfl)) dX2_countArea_81 ⟨Nat.le_of_ble_eq_true rfl, Nat.le_of_ble_eq_true rfl⟩) hD hS hA (fun r_148 σ1 μ1 H locs hw_149 hP hD hS => ?_)
  obtain ⟨hu_150, hr_151⟩ := hw_149
  obtain ⟨hu_150a, hu_150b⟩ := Prod.mk.inj hu_150
  rw [hu_150a, hu_150b] at hP hD
  subst hr_151
  refine lv_iadd hx hb dX2_countArea_84 ?_
  refine lv_tov 0 (by decide) ?_
  refine lv_istore (lv' := [(4, .int 0), (5, .int 27), (0, .ref this), (1, .long ofc), (3, .int 3)]) hx hb dX2_countArea_85 hl (by decide) rfl (fun ls hl => ?_)
  refine lv_iinc (v := 28) (lv' := [(5, .int 28), (4, .int 0), (0, .ref this), (1, .long ofc), (3, .int 3)]) hx hb dX2_countArea_87 hl (k := 1) rfl (by decide) (by decide) rfl (fun ls hl => ?_)
  refine lv_goto (tgt := 65) hx hb dX2_countArea_90 (by decide) ?_
  refine lv_iload hx hb dX2_countArea_65 (lv_at hl 0 rfl) ?_
  refine lv_bipush (v := 32) hx hb dX2_countArea_67 (by decide) ?_
  refine lv_icmp_ge (tgt := 93) hx hb dX2_countArea_69 (by decide) (fun c_152 => absurd c_152 (by decide)) (fun c_152 => ?_)
  refine lv_iload hx hb dX2_countArea_72 (lv_at hl 1 rfl) ?_
  refine lv_aload_n hx hb dX2_countArea_74 rfl (lv_at hl 2 rfl) ?_
  refine pg_f (v := .ref this_rows) (C := RX2) (T := TX2) (N := 20) hx hb hts (tw_i inlX2) hown hK hP hL_this hK_this (by decide) rfl 18 (by decide) (hts _ (tw_c tw_99)) (pq_hv rfl hR_this_rows) dX2_countArea_75 ?_
  refine lv_iload hx hb dX2_countArea_78 (lv_at hl 0 rfl) ?_
  refine pl_i hx hb hK hP hL_this_rows hK_this_rows hN_this_rows (vp_in_iff.mpr (by decide)) dX2_countArea_80 ?_
  refine lv_tov 0 ((congrFun (hu_9p0 this_rows hrw) _).trans (hu_4p0.1 _ (by decide))) ?_
  refine pk_i (va_runS (As := [.int 0]) (rest := [.int 0]) ⟨hx, hb, hml, hown, hts⟩ (c_J6_bitCount_0f7a4 l D t σ I J ri_8 rj rq H.size) (va_cwS 1 hts (tw_S tw_1147 tw_1148 tw_492 tw_1149) rfl rfl rfl (by decide +kernel) ⟨Nat.le_of_ble_eq_true rfl, Nat.le_of_ble_eq_true rfl⟩) ⟨pq_blind, pq_pre hK hN hP hD⟩ rfl rfl hl.1 rfl (lv_room (Nat.le_of_ble_eq_true rfl)) dX2_countArea_81 ⟨Nat.le_of_ble_eq_true rfl, Nat.le_of_ble_eq_true rfl⟩) hD hS hA (fun r_153 σ1 μ1 H locs hw_154 hP hD hS => ?_)
  obtain ⟨hu_155, hr_156⟩ := hw_154
  obtain ⟨hu_155a, hu_155b⟩ := Prod.mk.inj hu_155
  rw [hu_155a, hu_155b] at hP hD
  subst hr_156
  refine lv_iadd hx hb dX2_countArea_84 ?_
  refine lv_tov 0 (by decide) ?_
  refine lv_istore (lv' := [(4, .int 0), (5, .int 28), (0, .ref this), (1, .long ofc), (3, .int 3)]) hx hb dX2_countArea_85 hl (by decide) rfl (fun ls hl => ?_)
  refine lv_iinc (v := 29) (lv' := [(5, .int 29), (4, .int 0), (0, .ref this), (1, .long ofc), (3, .int 3)]) hx hb dX2_countArea_87 hl (k := 1) rfl (by decide) (by decide) rfl (fun ls hl => ?_)
  refine lv_goto (tgt := 65) hx hb dX2_countArea_90 (by decide) ?_
  refine lv_iload hx hb dX2_countArea_65 (lv_at hl 0 rfl) ?_
  refine lv_bipush (v := 32) hx hb dX2_countArea_67 (by decide) ?_
  refine lv_icmp_ge (tgt := 93) hx hb dX2_countArea_69 (by decide) (fun c_157 => absurd c_157 (by decide)) (fun c_157 => ?_)
  refine lv_iload hx hb dX2_countArea_72 (lv_at hl 1 rfl) ?_
  refine lv_aload_n hx hb dX2_countArea_74 rfl (lv_at hl 2 rfl) ?_
  refine pg_f (v := .ref this_rows) (C := RX2) (T := TX2) (N := 20) hx hb hts (tw_i inlX2) hown hK hP hL_this hK_this (by decide) rfl 18 (by decide) (hts _ (tw_c tw_99)) (pq_hv rfl hR_this_rows) dX2_countArea_75 ?_
  refine lv_iload hx hb dX2_countArea_78 (lv_at hl 0 rfl) ?_
  refine pl_i hx hb hK hP hL_this_rows hK_this_rows hN_this_rows (vp_in_iff.mpr (by decide)) dX2_countArea_80 ?_
  refine lv_tov 0 ((congrFun (hu_9p0 this_rows hrw) _).trans (hu_4p0.1 _ (by decide))) ?_
  refine pk_i (va_runS (As := [.int 0]) (rest := [.int 0]) ⟨hx, hb, hml, hown, hts⟩ (c_J6_bitCount_0f7a4 l D t σ I J ri_8 rj rq H.size) (va_cwS 1 hts (tw_S tw_1147 tw_1148 tw_492 tw_1149) rfl rfl rfl (by decide +kernel) ⟨Nat.le_of_ble_eq_true rfl, Nat.le_of_ble_eq_true rfl⟩) ⟨pq_blind, pq_pre hK hN hP hD⟩ rfl rfl hl.1 rfl (lv_room (Nat.le_of_ble_eq_true rfl)) dX2_countArea_81 ⟨Nat.le_of_ble_eq_true rfl, Nat.le_of_ble_eq_true rfl⟩) hD hS hA (fun r_158 σ1 μ1 H locs hw_159 hP hD hS => ?_)
  obtain ⟨hu_160, hr_161⟩ := hw_159
  obtain ⟨hu_160a, hu_160b⟩ := Prod.mk.inj hu_160
  rw [hu_160a, hu_160b] at hP hD
  subst hr_161
  refine lv_iadd hx hb dX2_countArea_84 ?_
  refine lv_tov 0 (by decide) ?_
  refine lv_istore (lv' := [(4, .int 0), (5, .int 29), (0, .ref this), (1, .long ofc), (3, .int 3)]) hx hb dX2_countArea_85 hl (by decide) rfl (fun ls hl => ?_)
  refine lv_iinc (v := 30) (lv' := [(5, .int 30), (4, .int 0), (0, .ref this), (1, .long ofc), (3, .int 3)]) hx hb dX2_countArea_87 hl (k := 1) rfl (by decide) (by decide) rfl (fun ls hl => ?_)
  refine lv_goto (tgt := 65) hx hb dX2_countArea_90 (by decide) ?_
  refine lv_iload hx hb dX2_countArea_65 (lv_at hl 0 rfl) ?_
  refine lv_bipush (v := 32) hx hb dX2_countArea_67 (by decide) ?_
  refine lv_icmp_ge (tgt := 93) hx hb dX2_countArea_69 (by decide) (fun c_162 => absurd c_162 (by decide)) (fun c_162 => ?_)
  refine lv_iload hx hb dX2_countArea_72 (lv_at hl 1 rfl) ?_
  refine lv_aload_n hx hb dX2_countArea_74 rfl (lv_at hl 2 rfl) ?_
  refine pg_f (v := .ref this_rows) (C := RX2) (T := TX2) (N := 20) hx hb hts (tw_i inlX2) hown hK hP hL_this hK_this (by decide) rfl 18 (by decide) (hts _ (tw_c tw_99)) (pq_hv rfl hR_this_rows) dX2_countArea_75 ?_
  refine lv_iload hx hb dX2_countArea_78 (lv_at hl 0 rfl) ?_
  refine pl_i hx hb hK hP hL_this_rows hK_this_rows hN_this_rows (vp_in_iff.mpr (by decide)) dX2_countArea_80 ?_
  refine lv_tov 0 ((congrFun (hu_9p0 this_rows hrw) _).trans (hu_4p0.1 _ (by decide))) ?_
  refine pk_i (va_runS (As := [.int 0]) (rest := [.int 0]) ⟨hx, hb, hml, hown, hts⟩ (c_J6_bitCount_0f7a4 l D t σ I J ri_8 rj rq H.size) (va_cwS 1 hts (tw_S tw_1147 tw_1148 tw_492 tw_1149) rfl rfl rfl (by decide +kernel) ⟨Nat.le_of_ble_eq_true rfl, Nat.le_of_ble_eq_true rfl⟩) ⟨pq_blind, pq_pre hK hN hP hD⟩ rfl rfl hl.1 rfl (lv_room (Nat.le_of_ble_eq_true rfl)) dX2_countArea_81 ⟨Nat.le_of_ble_eq_true rfl, Nat.le_of_ble_eq_true rfl⟩) hD hS hA (fun r_163 σ1 μ1 H locs hw_164 hP hD hS => ?_)
  obtain ⟨hu_165, hr_166⟩ := hw_164
  obtain ⟨hu_165a, hu_165b⟩ := Prod.mk.inj hu_165
  rw [hu_165a, hu_165b] at hP hD
  subst hr_166
  refine lv_iadd hx hb dX2_countArea_84 ?_
  refine lv_tov 0 (by decide) ?_
  refine lv_istore (lv' := [(4, .int 0), (5, .int 30), (0, .ref this), (1, .long ofc), (3, .int 3)]) hx hb dX2_countArea_85 hl (by decide) rfl (fun ls hl => ?_)
  refine lv_iinc (v := 31) (lv' := [(5, .int 31), (4, .int 0), (0, .ref this), (1, .long ofc), (3, .int 3)]) hx hb dX2_countArea_87 hl (k := 1) rfl (by decide) (by decide) rfl (fun ls hl => ?_)
  refine lv_goto (tgt := 65) hx hb dX2_countArea_90 (by decide) ?_
  refine lv_iload hx hb dX2_countArea_65 (lv_at hl 0 rfl) ?_
  refine lv_bipush (v := 32) hx hb dX2_countArea_67 (by decide) ?_
  refine lv_icmp_ge (tgt := 93) hx hb dX2_countArea_69 (by decide) (fun c_167 => absurd c_167 (by decide)) (fun c_167 => ?_)
  refine lv_iload hx hb dX2_countArea_72 (lv_at hl 1 rfl) ?_
  refine lv_aload_n hx hb dX2_countArea_74 rfl (lv_at hl 2 rfl) ?_
  refine pg_f (v := .ref this_rows) (C := RX2) (T := TX2) (N := 20) hx hb hts (tw_i inlX2) hown hK hP hL_this hK_this (by decide) rfl 18 (by decide) (hts _ (tw_c tw_99)) (pq_hv rfl hR_this_rows) dX2_countArea_75 ?_
  refine lv_iload hx hb dX2_countArea_78 (lv_at hl 0 rfl) ?_
  refine pl_i hx hb hK hP hL_this_rows hK_this_rows hN_this_rows (vp_in_iff.mpr (by decide)) dX2_countArea_80 ?_
  refine lv_tov 0 ((congrFun (hu_9p0 this_rows hrw) _).trans (hu_4p0.1 _ (by decide))) ?_
  refine pk_i (va_runS (As := [.int 0]) (rest := [.int 0]) ⟨hx, hb, hml, hown, hts⟩ (c_J6_bitCount_0f7a4 l D t σ I J ri_8 rj rq H.size) (va_cwS 1 hts (tw_S tw_1147 tw_1148 tw_492 tw_1149) rfl rfl rfl (by decide +kernel) ⟨Nat.le_of_ble_eq_true rfl, Nat.le_of_ble_eq_true rfl⟩) ⟨pq_blind, pq_pre hK hN hP hD⟩ rfl rfl hl.1 rfl (lv_room (Nat.le_of_ble_eq_true rfl)) dX2_countArea_81 ⟨Nat.le_of_ble_eq_true rfl, Nat.le_of_ble_eq_true rfl⟩) hD hS hA (fun r_168 σ1 μ1 H locs hw_169 hP hD hS => ?_)
  obtain ⟨hu_170, hr_171⟩ := hw_169
  obtain ⟨hu_170a, hu_170b⟩ := Prod.mk.inj hu_170
  rw [hu_170a, hu_170b] at hP hD
  subst hr_171
  refine lv_iadd hx hb dX2_countArea_84 ?_
  refine lv_tov 0 (by decide) ?_
  refine lv_istore (lv' := [(4, .int 0), (5, .int 31), (0, .ref this), (1, .long ofc), (3, .int 3)]) hx hb dX2_countArea_85 hl (by decide) rfl (fun ls hl => ?_)
  refine lv_iinc (v := 32) (lv' := [(5, .int 32), (4, .int 0), (0, .ref this), (1, .long ofc), (3, .int 3)]) hx hb dX2_countArea_87 hl (k := 1) rfl (by decide) (by decide) rfl (fun ls hl => ?_)
  refine lv_goto (tgt := 65) hx hb dX2_countArea_90 (by decide) ?_
  refine lv_iload hx hb dX2_countArea_65 (lv_at hl 0 rfl) ?_
  refine lv_bipush (v := 32) hx hb dX2_countArea_67 (by decide) ?_
  refine lv_icmp_ge (tgt := 93) hx hb dX2_countArea_69 (by decide) (fun c_172 => ?_) (fun c_172 => absurd c_172 (by decide))
  refine lv_iload hx hb dX2_countArea_93 (lv_at hl 1 rfl) ?_
  exact W.iret (v := 0) hx hb hr (fun t1 ht hW => ⟨⟨0, (σ, I, J, ri_8, rj, rq), rfl, ⟨ri_8, rfl, rfl⟩, by rw [ht]; exact hP, va_K.moved hW.alike hK, hD⟩, hS.F ht⟩) hS.2.2 dX2_countArea_95

set_option maxHeartbeats 4000000 in
set_option maxRecDepth 100000 in
theorem c_X9_fillUp (l : Launch) (D : va_G) (t : pq_T) (σ : pq_S) (I : Nat → Nat → Int32) (J : Nat → Nat → Int64) (ri : Nat → Nat → Int32) (rj : Nat → Nat → Int64) (rq : Nat → Nat → Option Nat) (sz : Nat) (this : Nat) (dr : Int64) (ra : Int32) (hL_this : this ∈ σ.1) (hK_this : σ.2.1 this = 9) : MetV l yX9_fillUp (wa yX9_fillUp cX9_fillUp 6 none) ({ frames := 0, cells := 0, slots := 0, locals := 0 }) [.ref this, .int 0, .long dr, .int ra] D t σ (I, J, ri, rj, rq) sz 0 0 (fun (u : pq_S × pq_M) => u = (σ, I, J, ri, rj, rq)) := by
  refine Met.ofW (cc := cX9_fillUp) (maxL := 6) (ret := none) (by decide) rfl ?_
  intro p e s m args below meth c s₁ B hml hv
  obtain ⟨rfl, hsz, hP, hK, hD0, hN⟩ := hv
  have hx := B.exec
  have hb := B.bytes
  have hr := B.returns
  have hts := atoms_spec (ws := (wa yX9_fillUp cX9_fillUp 6 none)) B.pre
  have hown : s.vm.findClass RX9 = some m.cls := findClass_of_methodNamed B.named
  have hlocks := B.notSynchronized
  subst hsz
  have hD : va_D (pq_B t σ (I, J, ri, rj, rq) s.heap.size) (pq_P t σ (I, J, ri, rj, rq)) := hD0.self
  generalize hAe : pq_B t σ (I, J, ri, rj, rq) s.heap.size = A at hD ⊢
  have hA : ∀ q : Nat, s.heap.size ≤ q → A q := fun q h => by rw [← hAe]; exact Or.inr h
  have hS : va_S A s.heap s.heap [] := va_S.rf
  have hl := lv_entry ([.ref this, .int 0, .long dr, .int ra]) (n := 6) (Nat.le_of_ble_eq_true rfl)
  rw [lg_entry_eq]
  generalize (lg_sl ([.ref this, .int 0, .long dr, .int ra]) ++ List.replicate (6 - (lg_sl ([.ref this, .int 0, .long dr, .int ra])).length) Slot.unset).toArray = ls at hl ⊢
  have hl : lv_has ls 6 [(0, .ref this), (1, .int 0), (2, .long dr), (4, .int ra)] := hl
  refine lv_iconst (v := 0) hx hb dX9_fillUp_0 (by decide) ?_
  refine lv_istore (lv' := [(5, .int 0), (0, .ref this), (1, .int 0), (2, .long dr), (4, .int ra)]) hx hb dX9_fillUp_1 hl (by decide) rfl (fun ls hl => ?_)
  refine lv_iload hx hb dX9_fillUp_3 (lv_at hl 0 rfl) ?_
  refine lv_iload_n hx hb dX9_fillUp_5 rfl (lv_at hl 2 rfl) ?_
  refine lv_icmp_ge (tgt := 112) hx hb dX9_fillUp_6 (by decide) (fun c_1 => ?_) (fun c_1 => absurd c_1 (by decide))
  exact W.vret hx hb hr (fun t1 ht hW => ⟨⟨(σ, I, J, ri, rj, rq), rfl, rfl, by rw [ht]; exact hP, va_K.moved hW.alike hK, hD⟩, hS.F ht⟩) hS.2.2 dX9_fillUp_112

set_option maxHeartbeats 4000000 in
set_option maxRecDepth 100000 in
theorem c_X0_drink (l : Launch) (D : va_G) (t : pq_T) (σ : pq_S) (I : Nat → Nat → Int32) (J : Nat → Nat → Int64) (ri : Nat → Nat → Int32) (rj : Nat → Nat → Int64) (rq : Nat → Nat → Option Nat) (sz : Nat) (this : Nat) (land : Nat) (hL_this : this ∈ σ.1) (hK_this : σ.2.1 this = 0) (hL_land : land ∈ σ.1) (hK_land : σ.2.1 land = 2) (land_first : Nat) (hR_land_first : σ.2.2.1 80 land = some land_first) (hL_land_first : land_first ∈ σ.1) (hK_land_first : σ.2.1 land_first = 13) (hN_land_first : σ.2.2.2 land_first = 5) (this_ofRing : Nat) (hR_this_ofRing : σ.2.2.1 12 this = some this_ofRing) (hL_this_ofRing : this_ofRing ∈ σ.1) (hK_this_ofRing : σ.2.1 this_ofRing = 13) (hN_this_ofRing : σ.2.2.2 this_ofRing = 5) (hZ : pq_Z I) : MetI l yX0_drink (wa yX0_drink cX0_drink 5 (some .int)) ({ frames := 2, cells := 0, slots := 0, locals := 81 }) [.ref this, .ref land] D t σ (I, J, ri, rj, rq) sz 0 0 (fun (r : Int32) (u : pq_S × pq_M) => ∃ ri' : Nat → Nat → Int32, u = (σ, I, J, ri', rj, rq) ∧ ((r = 0))) := by
  refine Met.ofW (cc := cX0_drink) (maxL := 5) (ret := (some .int)) (by decide) rfl ?_
  intro p e s m args below meth c s₁ B hml hv
  obtain ⟨rfl, hsz, hP, hK, hD0, hN⟩ := hv
  have hx := B.exec
  have hb := B.bytes
  have hr := B.returns
  have hts := atoms_spec (ws := (wa yX0_drink cX0_drink 5 (some .int))) B.pre
  have hown : s.vm.findClass RX0 = some m.cls := findClass_of_methodNamed B.named
  have hlocks := B.notSynchronized
  subst hsz
  have hD : va_D (pq_B t σ (I, J, ri, rj, rq) s.heap.size) (pq_P t σ (I, J, ri, rj, rq)) := hD0.self
  generalize hAe : pq_B t σ (I, J, ri, rj, rq) s.heap.size = A at hD ⊢
  have hA : ∀ q : Nat, s.heap.size ≤ q → A q := fun q h => by rw [← hAe]; exact Or.inr h
  have hS : va_S A s.heap s.heap [] := va_S.rf
  have hl := lv_entry ([.ref this, .ref land]) (n := 5) (Nat.le_of_ble_eq_true rfl)
  rw [lg_entry_eq]
  generalize (lg_sl ([.ref this, .ref land]) ++ List.replicate (5 - (lg_sl ([.ref this, .ref land])).length) Slot.unset).toArray = ls at hl ⊢
  have hl : lv_has ls 5 [(0, .ref this), (1, .ref land)] := hl
  refine lv_aload_n hx hb dX0_drink_0 rfl (lv_at hl 1 rfl) ?_
  refine pg_f (v := .ref land_first) (C := RX2) (T := TX2) (N := 20) hx hb hts (tw_i inlX2) hown hK hP hL_land hK_land (by decide) rfl 16 (by decide) (hts _ (tw_c tw_1098)) (pq_hv rfl hR_land_first) dX0_drink_1 ?_
  refine lv_aload_n hx hb dX0_drink_4 rfl (lv_at hl 0 rfl) ?_
  refine pg_f (v := .ref this_ofRing) (C := RX0) (T := TX0) (N := 16) hx hb hts (tw_i inlX0) hown hK hP hL_this hK_this (by decide) rfl 12 (by decide) (hts _ (tw_c tw_120)) (pq_hv rfl hR_this_ofRing) dX0_drink_5 ?_
  refine pk_v (va_runSN (As := [.ref land_first, .ref this_ofRing]) (rest := []) ⟨hx, hb, hml, hown, hts⟩ (c_X11_copy l D t σ I J ri rj rq (Array.size s.heap) land_first this_ofRing 5 hL_land_first hK_land_first hN_land_first hL_this_ofRing hK_this_ofRing hN_this_ofRing (by omega)) ⟨va_cnB (host := "RingsUnder") 2 hts (tw_W tw_1102) rfl rfl rfl (hN.1 _ (List.mem_of_getElem? (i := 15) rfl)) (hts _ (tw_c tw_2)) (by decide +kernel) ⟨Nat.le_of_ble_eq_true rfl, Nat.le_of_ble_eq_true rfl⟩, hts (.static yX11_copy) (by decide +kernel), trivial⟩ ⟨pq_blind, pq_pre hK hN hP hD⟩ rfl rfl hl.1 rfl (lv_room (Nat.le_of_ble_eq_true rfl)) dX0_drink_8 ⟨Nat.le_of_ble_eq_true rfl, Nat.le_of_ble_eq_true rfl⟩) hD hS hA (fun σ1 μ1 H locs hw_2 hP hD hS => ?_)
  obtain ⟨ri_3, hu_4⟩ := hw_2
  obtain ⟨hu_4a, hu_4b⟩ := Prod.mk.inj hu_4
  rw [hu_4a, hu_4b] at hP hD
  refine lv_iconst (v := 0) hx hb dX0_drink_11 (by decide) ?_
  refine lv_istore_n (lv' := [(2, .int 0), (0, .ref this), (1, .ref land)]) hx hb dX0_drink_12 rfl hl (by decide) rfl (fun ls hl => ?_)
  refine lv_iconst (v := 0) hx hb dX0_drink_13 (by decide) ?_
  refine lv_istore_n (lv' := [(3, .int 0), (2, .int 0), (0, .ref this), (1, .ref land)]) hx hb dX0_drink_14 rfl hl (by decide) rfl (fun ls hl => ?_)
  refine lv_iload_n hx hb dX0_drink_15 rfl (lv_at hl 0 rfl) ?_
  refine lv_aload_n hx hb dX0_drink_16 rfl (lv_at hl 2 rfl) ?_
  refine pg_f (v := .int (I 0 this)) (C := RX0) (T := TX0) (N := 16) hx hb hts (tw_i inlX0) hown hK hP hL_this hK_this (by decide) rfl 0 (by decide) (hts _ (tw_c tw_395)) rfl dX0_drink_17 ?_
  refine lv_tov 0 (congrFun (hZ 0 (by decide)) this) ?_
  refine lv_icmp_ge (tgt := 104) hx hb dX0_drink_20 (by decide) (fun c_6 => ?_) (fun c_6 => absurd c_6 (by decide))
  refine lv_iload_n hx hb dX0_drink_104 rfl (lv_at hl 1 rfl) ?_
  exact W.iret (v := 0) hx hb hr (fun t1 ht hW => ⟨⟨0, (σ, I, J, ri_3, rj, rq), rfl, ⟨ri_3, rfl, rfl⟩, by rw [ht]; exact hP, va_K.moved hW.alike hK, hD⟩, hS.F ht⟩) hS.2.2 dX0_drink_105

set_option maxHeartbeats 4000000 in
set_option maxRecDepth 100000 in
theorem c_X0_sleep (l : Launch) (D : va_G) (t : pq_T) (σ : pq_S) (I : Nat → Nat → Int32) (J : Nat → Nat → Int64) (ri : Nat → Nat → Int32) (rj : Nat → Nat → Int64) (rq : Nat → Nat → Option Nat) (sz : Nat) (this : Nat) (bd : Nat) (g : Nat) (n_bd : Nat) (hL_this : this ∈ σ.1) (hK_this : σ.2.1 this = 0) (hL_bd : bd ∈ σ.1) (hK_bd : σ.2.1 bd = 13) (hN_bd : σ.2.2.2 bd = n_bd) (this_ofRing : Nat) (hR_this_ofRing : σ.2.2.1 12 this = some this_ofRing) (hL_this_ofRing : this_ofRing ∈ σ.1) (hK_this_ofRing : σ.2.1 this_ofRing = 13) (hN_this_ofRing : σ.2.2.2 this_ofRing = 5) (hZ : pq_Z I) (hg : g + 5 ≤ n_bd ∧ n_bd < 1000) : MetI l yX0_sleep (wa yX0_sleep cX0_sleep 5 (some .int)) ({ frames := 1, cells := 0, slots := 0, locals := 60 }) [.ref this, .ref bd, .int (nI g)] D t σ (I, J, ri, rj, rq) sz 0 0 (fun (r : Int32) (u : pq_S × pq_M) => ∃ ri' : Nat → Nat → Int32, u = (σ, I, J, ri', rj, rq) ∧ ((r = 0))) := by
  refine Met.ofW (cc := cX0_sleep) (maxL := 5) (ret := (some .int)) (by decide) rfl ?_
  intro p e s m args below meth c s₁ B hml hv
  obtain ⟨rfl, hsz, hP, hK, hD0, hN⟩ := hv
  have hx := B.exec
  have hb := B.bytes
  have hr := B.returns
  have hts := atoms_spec (ws := (wa yX0_sleep cX0_sleep 5 (some .int))) B.pre
  have hown : s.vm.findClass RX0 = some m.cls := findClass_of_methodNamed B.named
  have hlocks := B.notSynchronized
  subst hsz
  have hD : va_D (pq_B t σ (I, J, ri, rj, rq) s.heap.size) (pq_P t σ (I, J, ri, rj, rq)) := hD0.self
  generalize hAe : pq_B t σ (I, J, ri, rj, rq) s.heap.size = A at hD ⊢
  have hA : ∀ q : Nat, s.heap.size ≤ q → A q := fun q h => by rw [← hAe]; exact Or.inr h
  have hS : va_S A s.heap s.heap [] := va_S.rf
  have hl := lv_entry ([.ref this, .ref bd, .int (nI g)]) (n := 5) (Nat.le_of_ble_eq_true rfl)
  rw [lg_entry_eq]
  generalize (lg_sl ([.ref this, .ref bd, .int (nI g)]) ++ List.replicate (5 - (lg_sl ([.ref this, .ref bd, .int (nI g)])).length) Slot.unset).toArray = ls at hl ⊢
  have hl : lv_has ls 5 [(0, .ref this), (1, .ref bd), (2, .int (nI g))] := hl
  refine lv_iload_n hx hb dX0_sleep_0 rfl (lv_at hl 2 rfl) ?_
  refine lv_if_lt (tgt := 12) hx hb dX0_sleep_1 (by decide) (fun c_1 => (nI_nlt (a := g) (b := 0) (by omega) (by omega) c_1).elim) (fun c_1 => ?_)
  refine lv_iload_n hx hb dX0_sleep_4 rfl (lv_at hl 2 rfl) ?_
  refine lv_iconst (v := 5) hx hb dX0_sleep_5 (by decide) ?_
  refine lv_iadd hx hb dX0_sleep_6 ?_
  refine lv_tov (nI (g + 5)) (nI_add g 5) ?_
  refine lv_aload_n hx hb dX0_sleep_7 rfl (lv_at hl 1 rfl) ?_
  refine pn_i (v := nI n_bd) hx hb hK hP hL_bd hK_bd hN_bd rfl dX0_sleep_8 ?_
  refine lv_icmp_le (tgt := 14) hx hb dX0_sleep_9 (by decide) (fun c_2 => ?_) (fun c_2 => (c_2 (nI_le (a := (g + 5)) (b := n_bd) (by omega) (by omega))).elim)
  refine lv_aload_n hx hb dX0_sleep_14 rfl (lv_at hl 1 rfl) ?_
  refine lv_iload_n hx hb dX0_sleep_15 rfl (lv_at hl 2 rfl) ?_
  refine lv_aload_n hx hb dX0_sleep_16 rfl (lv_at hl 0 rfl) ?_
  refine pg_f (v := .ref this_ofRing) (C := RX0) (T := TX0) (N := 16) hx hb hts (tw_i inlX0) hown hK hP hL_this hK_this (by decide) rfl 12 (by decide) (hts _ (tw_c tw_120)) (pq_hv rfl hR_this_ofRing) dX0_sleep_17 ?_
  refine lv_iconst (v := 0) hx hb dX0_sleep_20 (by decide) ?_
  refine lv_iconst (v := 5) hx hb dX0_sleep_21 (by decide) ?_
  refine pc_i hx hb (hml.trans hl.1.symm) hown (hts _ (tw_c tw_1124)) (hts _ (tw_c tw_1105)) (hts _ (tw_c tw_1106)) (hts _ (tw_c tw_1107)) hK hP hD hS hL_bd hK_bd hN_bd hL_this_ofRing hK_this_ofRing hN_this_ofRing (nI_pos (n := g) (by omega)) (by decide) (by rw [nI_clamp (n := g) (by omega)]; exact (show g + 5 ≤ n_bd by omega)) (by decide) (Nat.le_of_ble_eq_true rfl) (Nat.le_of_ble_eq_true rfl) dX0_sleep_22 (fun r_3 H locs er_3 hP hD hS => ?_)
  refine lv_iconst (v := 0) hx hb dX0_sleep_25 (by decide) ?_
  refine lv_istore_n (lv' := [(3, .int 0), (0, .ref this), (1, .ref bd), (2, .int (nI g))]) hx hb dX0_sleep_26 rfl hl (by decide) rfl (fun ls hl => ?_)
  refine lv_iconst (v := 0) hx hb dX0_sleep_27 (by decide) ?_
  refine lv_istore (lv' := [(4, .int 0), (3, .int 0), (0, .ref this), (1, .ref bd), (2, .int (nI g))]) hx hb dX0_sleep_28 hl (by decide) rfl (fun ls hl => ?_)
  refine lv_iload hx hb dX0_sleep_30 (lv_at hl 0 rfl) ?_
  refine lv_aload_n hx hb dX0_sleep_32 rfl (lv_at hl 2 rfl) ?_
  refine pg_f (v := .int (I 0 this)) (C := RX0) (T := TX0) (N := 16) hx hb hts (tw_i inlX0) hown hK hP hL_this hK_this (by decide) rfl 0 (by decide) (hts _ (tw_c tw_395)) rfl dX0_sleep_33 ?_
  refine lv_tov 0 (congrFun (hZ 0 (by decide)) this) ?_
  refine lv_icmp_ge (tgt := 102) hx hb dX0_sleep_36 (by decide) (fun c_4 => ?_) (fun c_4 => absurd c_4 (by decide))
  refine lv_iload_n hx hb dX0_sleep_102 rfl (lv_at hl 1 rfl) ?_
  exact W.iret (v := 0) hx hb hr (fun t1 ht hW => ⟨⟨0, (σ, I, J, r_3, rj, rq), rfl, ⟨r_3, rfl, rfl⟩, by rw [ht]; exact hP, va_K.moved hW.alike hK, hD⟩, hS.F ht⟩) hS.2.2 dX0_sleep_103

set_option maxHeartbeats 4000000 in
set_option maxRecDepth 100000 in
theorem c_X0_sendings (l : Launch) (D : va_G) (t : pq_T) (σ : pq_S) (I : Nat → Nat → Int32) (J : Nat → Nat → Int64) (ri : Nat → Nat → Int32) (rj : Nat → Nat → Int64) (rq : Nat → Nat → Option Nat) (sz : Nat) (this : Nat) (hL_this : this ∈ σ.1) (hK_this : σ.2.1 this = 0) (hZ : pq_Z I) : MetI l yX0_sendings (wa yX0_sendings cX0_sendings 3 (some .int)) ({ frames := 0, cells := 0, slots := 0, locals := 0 }) [.ref this] D t σ (I, J, ri, rj, rq) sz 0 0 (fun (r : Int32) (u : pq_S × pq_M) => u = (σ, I, J, ri, rj, rq) ∧ ((r = 0))) := by
  refine Met.ofW (cc := cX0_sendings) (maxL := 3) (ret := (some .int)) (by decide) rfl ?_
  intro p e s m args below meth c s₁ B hml hv
  obtain ⟨rfl, hsz, hP, hK, hD0, hN⟩ := hv
  have hx := B.exec
  have hb := B.bytes
  have hr := B.returns
  have hts := atoms_spec (ws := (wa yX0_sendings cX0_sendings 3 (some .int))) B.pre
  have hown : s.vm.findClass RX0 = some m.cls := findClass_of_methodNamed B.named
  have hlocks := B.notSynchronized
  subst hsz
  have hD : va_D (pq_B t σ (I, J, ri, rj, rq) s.heap.size) (pq_P t σ (I, J, ri, rj, rq)) := hD0.self
  generalize hAe : pq_B t σ (I, J, ri, rj, rq) s.heap.size = A at hD ⊢
  have hA : ∀ q : Nat, s.heap.size ≤ q → A q := fun q h => by rw [← hAe]; exact Or.inr h
  have hS : va_S A s.heap s.heap [] := va_S.rf
  have hl := lv_entry ([.ref this]) (n := 3) (Nat.le_of_ble_eq_true rfl)
  rw [lg_entry_eq]
  generalize (lg_sl ([.ref this]) ++ List.replicate (3 - (lg_sl ([.ref this])).length) Slot.unset).toArray = ls at hl ⊢
  have hl : lv_has ls 3 [(0, .ref this)] := hl
  refine lv_iconst (v := 0) hx hb dX0_sendings_0 (by decide) ?_
  refine lv_istore_n (lv' := [(1, .int 0), (0, .ref this)]) hx hb dX0_sendings_1 rfl hl (by decide) rfl (fun ls hl => ?_)
  refine lv_iconst (v := 0) hx hb dX0_sendings_2 (by decide) ?_
  refine lv_istore_n (lv' := [(2, .int 0), (1, .int 0), (0, .ref this)]) hx hb dX0_sendings_3 rfl hl (by decide) rfl (fun ls hl => ?_)
  refine lv_iload_n hx hb dX0_sendings_4 rfl (lv_at hl 0 rfl) ?_
  refine lv_aload_n hx hb dX0_sendings_5 rfl (lv_at hl 2 rfl) ?_
  refine pg_f (v := .int (I 0 this)) (C := RX0) (T := TX0) (N := 16) hx hb hts (tw_i inlX0) hown hK hP hL_this hK_this (by decide) rfl 0 (by decide) (hts _ (tw_c tw_395)) rfl dX0_sendings_6 ?_
  refine lv_tov 0 (congrFun (hZ 0 (by decide)) this) ?_
  refine lv_icmp_ge (tgt := 39) hx hb dX0_sendings_9 (by decide) (fun c_1 => ?_) (fun c_1 => absurd c_1 (by decide))
  refine lv_iload_n hx hb dX0_sendings_39 rfl (lv_at hl 1 rfl) ?_
  exact W.iret (v := 0) hx hb hr (fun t1 ht hW => ⟨⟨0, (σ, I, J, ri, rj, rq), rfl, ⟨rfl, rfl⟩, by rw [ht]; exact hP, va_K.moved hW.alike hK, hD⟩, hS.F ht⟩) hS.2.2 dX0_sendings_40

set_option maxHeartbeats 4000000 in
set_option maxRecDepth 100000 in
theorem c_X0_onRings (l : Launch) (D : va_G) (t : pq_T) (σ : pq_S) (I : Nat → Nat → Int32) (J : Nat → Nat → Int64) (ri : Nat → Nat → Int32) (rj : Nat → Nat → Int64) (rq : Nat → Nat → Option Nat) (sz : Nat) (this : Nat) (hL_this : this ∈ σ.1) (hK_this : σ.2.1 this = 0) (hZ : pq_Z I) : MetL l yX0_onRings (wa yX0_onRings cX0_onRings 4 (some .long)) ({ frames := 0, cells := 0, slots := 0, locals := 0 }) [.ref this] D t σ (I, J, ri, rj, rq) sz 0 0 (fun (r : Int64) (u : pq_S × pq_M) => u = (σ, I, J, ri, rj, rq) ∧ ((r = 0))) := by
  refine Met.ofW (cc := cX0_onRings) (maxL := 4) (ret := (some .long)) (by decide) rfl ?_
  intro p e s m args below meth c s₁ B hml hv
  obtain ⟨rfl, hsz, hP, hK, hD0, hN⟩ := hv
  have hx := B.exec
  have hb := B.bytes
  have hr := B.returns
  have hts := atoms_spec (ws := (wa yX0_onRings cX0_onRings 4 (some .long))) B.pre
  have hown : s.vm.findClass RX0 = some m.cls := findClass_of_methodNamed B.named
  have hlocks := B.notSynchronized
  subst hsz
  have hD : va_D (pq_B t σ (I, J, ri, rj, rq) s.heap.size) (pq_P t σ (I, J, ri, rj, rq)) := hD0.self
  generalize hAe : pq_B t σ (I, J, ri, rj, rq) s.heap.size = A at hD ⊢
  have hA : ∀ q : Nat, s.heap.size ≤ q → A q := fun q h => by rw [← hAe]; exact Or.inr h
  have hS : va_S A s.heap s.heap [] := va_S.rf
  have hl := lv_entry ([.ref this]) (n := 4) (Nat.le_of_ble_eq_true rfl)
  rw [lg_entry_eq]
  generalize (lg_sl ([.ref this]) ++ List.replicate (4 - (lg_sl ([.ref this])).length) Slot.unset).toArray = ls at hl ⊢
  have hl : lv_has ls 4 [(0, .ref this)] := hl
  refine lv_lconst (v := 0) hx hb dX0_onRings_0 (by decide) ?_
  refine lv_lstore_n (lv' := [(1, .long 0), (0, .ref this)]) hx hb dX0_onRings_1 rfl hl (by decide) rfl (fun ls hl => ?_)
  refine lv_iconst (v := 0) hx hb dX0_onRings_2 (by decide) ?_
  refine lv_istore_n (lv' := [(3, .int 0), (1, .long 0), (0, .ref this)]) hx hb dX0_onRings_3 rfl hl (by decide) rfl (fun ls hl => ?_)
  refine lv_iload_n hx hb dX0_onRings_4 rfl (lv_at hl 0 rfl) ?_
  refine lv_aload_n hx hb dX0_onRings_5 rfl (lv_at hl 2 rfl) ?_
  refine pg_f (v := .int (I 0 this)) (C := RX0) (T := TX0) (N := 16) hx hb hts (tw_i inlX0) hown hK hP hL_this hK_this (by decide) rfl 0 (by decide) (hts _ (tw_c tw_395)) rfl dX0_onRings_6 ?_
  refine lv_tov 0 (congrFun (hZ 0 (by decide)) this) ?_
  refine lv_icmp_ge (tgt := 32) hx hb dX0_onRings_9 (by decide) (fun c_1 => ?_) (fun c_1 => absurd c_1 (by decide))
  refine lv_lload_n hx hb dX0_onRings_32 rfl (lv_at hl 1 rfl) ?_
  exact W.lret (v := 0) hx hb hr (fun t1 ht hW => ⟨⟨0, (σ, I, J, ri, rj, rq), rfl, ⟨rfl, rfl⟩, by rw [ht]; exact hP, va_K.moved hW.alike hK, hD⟩, hS.F ht⟩) hS.2.2 dX0_onRings_33

set_option maxHeartbeats 4000000 in
set_option maxRecDepth 100000 in
theorem c_X0_notDead (l : Launch) (D : va_G) (t : pq_T) (σ : pq_S) (I : Nat → Nat → Int32) (J : Nat → Nat → Int64) (ri : Nat → Nat → Int32) (rj : Nat → Nat → Int64) (rq : Nat → Nat → Option Nat) (sz : Nat) (this : Nat) (hL_this : this ∈ σ.1) (hK_this : σ.2.1 this = 0) (hZ : pq_Z I) : MetL l yX0_notDead (wa yX0_notDead cX0_notDead 4 (some .long)) ({ frames := 0, cells := 0, slots := 0, locals := 0 }) [.ref this] D t σ (I, J, ri, rj, rq) sz 0 0 (fun (r : Int64) (u : pq_S × pq_M) => u = (σ, I, J, ri, rj, rq) ∧ ((r = 0))) := by
  refine Met.ofW (cc := cX0_notDead) (maxL := 4) (ret := (some .long)) (by decide) rfl ?_
  intro p e s m args below meth c s₁ B hml hv
  obtain ⟨rfl, hsz, hP, hK, hD0, hN⟩ := hv
  have hx := B.exec
  have hb := B.bytes
  have hr := B.returns
  have hts := atoms_spec (ws := (wa yX0_notDead cX0_notDead 4 (some .long))) B.pre
  have hown : s.vm.findClass RX0 = some m.cls := findClass_of_methodNamed B.named
  have hlocks := B.notSynchronized
  subst hsz
  have hD : va_D (pq_B t σ (I, J, ri, rj, rq) s.heap.size) (pq_P t σ (I, J, ri, rj, rq)) := hD0.self
  generalize hAe : pq_B t σ (I, J, ri, rj, rq) s.heap.size = A at hD ⊢
  have hA : ∀ q : Nat, s.heap.size ≤ q → A q := fun q h => by rw [← hAe]; exact Or.inr h
  have hS : va_S A s.heap s.heap [] := va_S.rf
  have hl := lv_entry ([.ref this]) (n := 4) (Nat.le_of_ble_eq_true rfl)
  rw [lg_entry_eq]
  generalize (lg_sl ([.ref this]) ++ List.replicate (4 - (lg_sl ([.ref this])).length) Slot.unset).toArray = ls at hl ⊢
  have hl : lv_has ls 4 [(0, .ref this)] := hl
  refine lv_lconst (v := 0) hx hb dX0_notDead_0 (by decide) ?_
  refine lv_lstore_n (lv' := [(1, .long 0), (0, .ref this)]) hx hb dX0_notDead_1 rfl hl (by decide) rfl (fun ls hl => ?_)
  refine lv_iconst (v := 0) hx hb dX0_notDead_2 (by decide) ?_
  refine lv_istore_n (lv' := [(3, .int 0), (1, .long 0), (0, .ref this)]) hx hb dX0_notDead_3 rfl hl (by decide) rfl (fun ls hl => ?_)
  refine lv_iload_n hx hb dX0_notDead_4 rfl (lv_at hl 0 rfl) ?_
  refine lv_aload_n hx hb dX0_notDead_5 rfl (lv_at hl 2 rfl) ?_
  refine pg_f (v := .int (I 0 this)) (C := RX0) (T := TX0) (N := 16) hx hb hts (tw_i inlX0) hown hK hP hL_this hK_this (by decide) rfl 0 (by decide) (hts _ (tw_c tw_395)) rfl dX0_notDead_6 ?_
  refine lv_tov 0 (congrFun (hZ 0 (by decide)) this) ?_
  refine lv_icmp_ge (tgt := 36) hx hb dX0_notDead_9 (by decide) (fun c_1 => ?_) (fun c_1 => absurd c_1 (by decide))
  refine lv_lload_n hx hb dX0_notDead_36 rfl (lv_at hl 1 rfl) ?_
  exact W.lret (v := 0) hx hb hr (fun t1 ht hW => ⟨⟨0, (σ, I, J, ri, rj, rq), rfl, ⟨rfl, rfl⟩, by rw [ht]; exact hP, va_K.moved hW.alike hK, hD⟩, hS.F ht⟩) hS.2.2 dX0_notDead_37

set_option maxHeartbeats 4000000 in
set_option maxRecDepth 100000 in
theorem c_X0_countVotes (l : Launch) (D : va_G) (t : pq_T) (σ : pq_S) (I : Nat → Nat → Int32) (J : Nat → Nat → Int64) (ri : Nat → Nat → Int32) (rj : Nat → Nat → Int64) (rq : Nat → Nat → Option Nat) (sz : Nat) (this : Nat) (of_ : Int64) (v : Int32) (hL_this : this ∈ σ.1) (hK_this : σ.2.1 this = 0) (hZ : pq_Z I) : MetI l yX0_countVotes (wa yX0_countVotes cX0_countVotes 6 (some .int)) ({ frames := 0, cells := 0, slots := 0, locals := 0 }) [.ref this, .long of_, .int v] D t σ (I, J, ri, rj, rq) sz 0 0 (fun (r : Int32) (u : pq_S × pq_M) => u = (σ, I, J, ri, rj, rq) ∧ ((r = 0))) := by
  refine Met.ofW (cc := cX0_countVotes) (maxL := 6) (ret := (some .int)) (by decide) rfl ?_
  intro p e s m args below meth c s₁ B hml hv
  obtain ⟨rfl, hsz, hP, hK, hD0, hN⟩ := hv
  have hx := B.exec
  have hb := B.bytes
  have hr := B.returns
  have hts := atoms_spec (ws := (wa yX0_countVotes cX0_countVotes 6 (some .int))) B.pre
  have hown : s.vm.findClass RX0 = some m.cls := findClass_of_methodNamed B.named
  have hlocks := B.notSynchronized
  subst hsz
  have hD : va_D (pq_B t σ (I, J, ri, rj, rq) s.heap.size) (pq_P t σ (I, J, ri, rj, rq)) := hD0.self
  generalize hAe : pq_B t σ (I, J, ri, rj, rq) s.heap.size = A at hD ⊢
  have hA : ∀ q : Nat, s.heap.size ≤ q → A q := fun q h => by rw [← hAe]; exact Or.inr h
  have hS : va_S A s.heap s.heap [] := va_S.rf
  have hl := lv_entry ([.ref this, .long of_, .int v]) (n := 6) (Nat.le_of_ble_eq_true rfl)
  rw [lg_entry_eq]
  generalize (lg_sl ([.ref this, .long of_, .int v]) ++ List.replicate (6 - (lg_sl ([.ref this, .long of_, .int v])).length) Slot.unset).toArray = ls at hl ⊢
  have hl : lv_has ls 6 [(0, .ref this), (1, .long of_), (3, .int v)] := hl
  refine lv_iconst (v := 0) hx hb dX0_countVotes_0 (by decide) ?_
  refine lv_istore (lv' := [(4, .int 0), (0, .ref this), (1, .long of_), (3, .int v)]) hx hb dX0_countVotes_1 hl (by decide) rfl (fun ls hl => ?_)
  refine lv_iconst (v := 0) hx hb dX0_countVotes_3 (by decide) ?_
  refine lv_istore (lv' := [(5, .int 0), (4, .int 0), (0, .ref this), (1, .long of_), (3, .int v)]) hx hb dX0_countVotes_4 hl (by decide) rfl (fun ls hl => ?_)
  refine lv_iload hx hb dX0_countVotes_6 (lv_at hl 0 rfl) ?_
  refine lv_aload_n hx hb dX0_countVotes_8 rfl (lv_at hl 2 rfl) ?_
  refine pg_f (v := .int (I 0 this)) (C := RX0) (T := TX0) (N := 16) hx hb hts (tw_i inlX0) hown hK hP hL_this hK_this (by decide) rfl 0 (by decide) (hts _ (tw_c tw_395)) rfl dX0_countVotes_9 ?_
  refine lv_tov 0 (congrFun (hZ 0 (by decide)) this) ?_
  refine lv_icmp_ge (tgt := 44) hx hb dX0_countVotes_12 (by decide) (fun c_1 => ?_) (fun c_1 => absurd c_1 (by decide))
  refine lv_iload hx hb dX0_countVotes_44 (lv_at hl 1 rfl) ?_
  exact W.iret (v := 0) hx hb hr (fun t1 ht hW => ⟨⟨0, (σ, I, J, ri, rj, rq), rfl, ⟨rfl, rfl⟩, by rw [ht]; exact hP, va_K.moved hW.alike hK, hD⟩, hS.F ht⟩) hS.2.2 dX0_countVotes_46

set_option maxHeartbeats 4000000 in
set_option maxRecDepth 100000 in
theorem c_X0_countAt (l : Launch) (D : va_G) (t : pq_T) (σ : pq_S) (I : Nat → Nat → Int32) (J : Nat → Nat → Int64) (ri : Nat → Nat → Int32) (rj : Nat → Nat → Int64) (rq : Nat → Nat → Option Nat) (sz : Nat) (this : Nat) (wh : Int32) (hL_this : this ∈ σ.1) (hK_this : σ.2.1 this = 0) (hZ : pq_Z I) : MetI l yX0_countAt (wa yX0_countAt cX0_countAt 4 (some .int)) ({ frames := 0, cells := 0, slots := 0, locals := 0 }) [.ref this, .int wh] D t σ (I, J, ri, rj, rq) sz 0 0 (fun (r : Int32) (u : pq_S × pq_M) => u = (σ, I, J, ri, rj, rq) ∧ ((r = 0))) := by
  refine Met.ofW (cc := cX0_countAt) (maxL := 4) (ret := (some .int)) (by decide) rfl ?_
  intro p e s m args below meth c s₁ B hml hv
  obtain ⟨rfl, hsz, hP, hK, hD0, hN⟩ := hv
  have hx := B.exec
  have hb := B.bytes
  have hr := B.returns
  have hts := atoms_spec (ws := (wa yX0_countAt cX0_countAt 4 (some .int))) B.pre
  have hown : s.vm.findClass RX0 = some m.cls := findClass_of_methodNamed B.named
  have hlocks := B.notSynchronized
  subst hsz
  have hD : va_D (pq_B t σ (I, J, ri, rj, rq) s.heap.size) (pq_P t σ (I, J, ri, rj, rq)) := hD0.self
  generalize hAe : pq_B t σ (I, J, ri, rj, rq) s.heap.size = A at hD ⊢
  have hA : ∀ q : Nat, s.heap.size ≤ q → A q := fun q h => by rw [← hAe]; exact Or.inr h
  have hS : va_S A s.heap s.heap [] := va_S.rf
  have hl := lv_entry ([.ref this, .int wh]) (n := 4) (Nat.le_of_ble_eq_true rfl)
  rw [lg_entry_eq]
  generalize (lg_sl ([.ref this, .int wh]) ++ List.replicate (4 - (lg_sl ([.ref this, .int wh])).length) Slot.unset).toArray = ls at hl ⊢
  have hl : lv_has ls 4 [(0, .ref this), (1, .int wh)] := hl
  refine lv_iconst (v := 0) hx hb dX0_countAt_0 (by decide) ?_
  refine lv_istore_n (lv' := [(2, .int 0), (0, .ref this), (1, .int wh)]) hx hb dX0_countAt_1 rfl hl (by decide) rfl (fun ls hl => ?_)
  refine lv_iconst (v := 0) hx hb dX0_countAt_2 (by decide) ?_
  refine lv_istore_n (lv' := [(3, .int 0), (2, .int 0), (0, .ref this), (1, .int wh)]) hx hb dX0_countAt_3 rfl hl (by decide) rfl (fun ls hl => ?_)
  refine lv_iload_n hx hb dX0_countAt_4 rfl (lv_at hl 0 rfl) ?_
  refine lv_aload_n hx hb dX0_countAt_5 rfl (lv_at hl 2 rfl) ?_
  refine pg_f (v := .int (I 0 this)) (C := RX0) (T := TX0) (N := 16) hx hb hts (tw_i inlX0) hown hK hP hL_this hK_this (by decide) rfl 0 (by decide) (hts _ (tw_c tw_395)) rfl dX0_countAt_6 ?_
  refine lv_tov 0 (congrFun (hZ 0 (by decide)) this) ?_
  refine lv_icmp_ge (tgt := 31) hx hb dX0_countAt_9 (by decide) (fun c_1 => ?_) (fun c_1 => absurd c_1 (by decide))
  refine lv_iload_n hx hb dX0_countAt_31 rfl (lv_at hl 1 rfl) ?_
  exact W.iret (v := 0) hx hb hr (fun t1 ht hW => ⟨⟨0, (σ, I, J, ri, rj, rq), rfl, ⟨rfl, rfl⟩, by rw [ht]; exact hP, va_K.moved hW.alike hK, hD⟩, hS.F ht⟩) hS.2.2 dX0_countAt_32

set_option maxHeartbeats 4000000 in
set_option maxRecDepth 100000 in
theorem c_X3_textFor (l : Launch) (D : va_G) (t : pq_T) (σ : pq_S) (I : Nat → Nat → Int32) (J : Nat → Nat → Int64) (ri : Nat → Nat → Int32) (rj : Nat → Nat → Int64) (rq : Nat → Nat → Option Nat) (sz : Nat) (this : Nat) (so : Int32) (mo : Int32) (hL_this : this ∈ σ.1) (hK_this : σ.2.1 this = 3) (hZ : pq_Z I) : MetQ l yX3_textFor (wa yX3_textFor cX3_textFor 5 (some (.object "RingsUnder$Text"))) ({ frames := 0, cells := 0, slots := 0, locals := 0 }) [.ref this, .int so, .int mo] D t σ (I, J, ri, rj, rq) sz 0 0 (fun (r : Option Nat) (u : pq_S × pq_M) => u = (σ, I, J, ri, rj, rq) ∧ (r = none)) := by
  refine Met.ofW (cc := cX3_textFor) (maxL := 5) (ret := (some (.object "RingsUnder$Text"))) (by decide) rfl ?_
  intro p e s m args below meth c s₁ B hml hv
  obtain ⟨rfl, hsz, hP, hK, hD0, hN⟩ := hv
  have hx := B.exec
  have hb := B.bytes
  have hr := B.returns
  have hts := atoms_spec (ws := (wa yX3_textFor cX3_textFor 5 (some (.object "RingsUnder$Text")))) B.pre
  have hown : s.vm.findClass RX3 = some m.cls := findClass_of_methodNamed B.named
  have hlocks := B.notSynchronized
  subst hsz
  have hD : va_D (pq_B t σ (I, J, ri, rj, rq) s.heap.size) (pq_P t σ (I, J, ri, rj, rq)) := hD0.self
  generalize hAe : pq_B t σ (I, J, ri, rj, rq) s.heap.size = A at hD ⊢
  have hA : ∀ q : Nat, s.heap.size ≤ q → A q := fun q h => by rw [← hAe]; exact Or.inr h
  have hS : va_S A s.heap s.heap [] := va_S.rf
  have hl := lv_entry ([.ref this, .int so, .int mo]) (n := 5) (Nat.le_of_ble_eq_true rfl)
  rw [lg_entry_eq]
  generalize (lg_sl ([.ref this, .int so, .int mo]) ++ List.replicate (5 - (lg_sl ([.ref this, .int so, .int mo])).length) Slot.unset).toArray = ls at hl ⊢
  have hl : lv_has ls 5 [(0, .ref this), (1, .int so), (2, .int mo)] := hl
  refine lv_aload_n hx hb dX3_textFor_0 rfl (lv_at hl 0 rfl) ?_
  refine pg_f (v := .int (I 98 this)) (C := RX3) (T := TX3) (N := 8) hx hb hts (tw_i inlX3) hown hK hP hL_this hK_this (by decide) rfl 2 (by decide) (hts _ (tw_c tw_473)) rfl dX3_textFor_1 ?_
  refine lv_tov 0 (congrFun (hZ 98 (by decide)) this) ?_
  refine lv_iconst (v := 1) hx hb dX3_textFor_4 (by decide) ?_
  refine lv_isub hx hb dX3_textFor_5 ?_
  refine lv_tov (-1) (by decide) ?_
  refine lv_istore_n (lv' := [(3, .int (-1)), (0, .ref this), (1, .int so), (2, .int mo)]) hx hb dX3_textFor_6 rfl hl (by decide) rfl (fun ls hl => ?_)
  refine lv_iload_n hx hb dX3_textFor_7 rfl (lv_at hl 0 rfl) ?_
  refine lv_if_lt (tgt := 68) hx hb dX3_textFor_8 (by decide) (fun c_1 => ?_) (fun c_1 => absurd c_1 (by decide))
  refine lv_null hx hb dX3_textFor_68 ?_
  exact W.aret (v := .null) hx hb hr (Or.inl ⟨_, rfl⟩) (Or.inl rfl) (fun t1 ht hW => ⟨⟨none, (σ, I, J, ri, rj, rq), rfl, ⟨rfl, rfl⟩, by rw [ht]; exact hP, va_K.moved hW.alike hK, hD⟩, hS.F ht⟩) hS.2.2 dX3_textFor_69

set_option maxHeartbeats 4000000 in
set_option maxRecDepth 100000 in
theorem c_X3_numberIn (l : Launch) (D : va_G) (t : pq_T) (σ : pq_S) (I : Nat → Nat → Int32) (J : Nat → Nat → Int64) (ri : Nat → Nat → Int32) (rj : Nat → Nat → Int64) (rq : Nat → Nat → Option Nat) (sz : Nat) (this : Nat) (so : Int32) (mo : Int32) (wo : Int32) (hL_this : this ∈ σ.1) (hK_this : σ.2.1 this = 3) (hZ : pq_Z I) : MetI l yX3_numberIn (wa yX3_numberIn cX3_numberIn 5 (some .int)) ({ frames := 1, cells := 0, slots := 0, locals := 24 }) [.ref this, .int so, .int mo, .int wo] D t σ (I, J, ri, rj, rq) sz 0 0 (fun (r : Int32) (u : pq_S × pq_M) => u = (σ, I, J, ri, rj, rq) ∧ (r = wo)) := by
  refine Met.ofW (cc := cX3_numberIn) (maxL := 5) (ret := (some .int)) (by decide) rfl ?_
  intro p e s m args below meth c s₁ B hml hv
  obtain ⟨rfl, hsz, hP, hK, hD0, hN⟩ := hv
  have hx := B.exec
  have hb := B.bytes
  have hr := B.returns
  have hts := atoms_spec (ws := (wa yX3_numberIn cX3_numberIn 5 (some .int))) B.pre
  have hown : s.vm.findClass RX3 = some m.cls := findClass_of_methodNamed B.named
  have hlocks := B.notSynchronized
  subst hsz
  have hD : va_D (pq_B t σ (I, J, ri, rj, rq) s.heap.size) (pq_P t σ (I, J, ri, rj, rq)) := hD0.self
  generalize hAe : pq_B t σ (I, J, ri, rj, rq) s.heap.size = A at hD ⊢
  have hA : ∀ q : Nat, s.heap.size ≤ q → A q := fun q h => by rw [← hAe]; exact Or.inr h
  have hS : va_S A s.heap s.heap [] := va_S.rf
  have hl := lv_entry ([.ref this, .int so, .int mo, .int wo]) (n := 5) (Nat.le_of_ble_eq_true rfl)
  rw [lg_entry_eq]
  generalize (lg_sl ([.ref this, .int so, .int mo, .int wo]) ++ List.replicate (5 - (lg_sl ([.ref this, .int so, .int mo, .int wo])).length) Slot.unset).toArray = ls at hl ⊢
  have hl : lv_has ls 5 [(0, .ref this), (1, .int so), (2, .int mo), (3, .int wo)] := hl
  refine lv_aload_n hx hb dX3_numberIn_0 rfl (lv_at hl 0 rfl) ?_
  refine lv_iload_n hx hb dX3_numberIn_1 rfl (lv_at hl 1 rfl) ?_
  refine lv_iload_n hx hb dX3_numberIn_2 rfl (lv_at hl 2 rfl) ?_
  refine pk_q (va_runV (As := [.int so, .int mo]) (rest := []) ⟨hx, hb, hml, hown, hts⟩ (c_X3_textFor l D t σ I J ri rj rq (Array.size s.heap) this so mo hL_this hK_this hZ) (cwV 2 hts (tw_V tw_469 tw_470 tw_471 tw_49 tw_472) rfl rfl rfl (by decide +kernel) ⟨Nat.le_of_ble_eq_true rfl, Nat.le_of_ble_eq_true rfl⟩) ⟨pq_blind, pq_recv hK hP hL_this hK_this (by decide) rfl, pq_pre hK hN hP hD⟩ rfl rfl hl.1 rfl (lv_room (Nat.le_of_ble_eq_true rfl)) dX3_numberIn_3 ⟨Nat.le_of_ble_eq_true rfl, Nat.le_of_ble_eq_true rfl⟩) hD hS hA (fun r_1 σ1 μ1 H locs hw_2 hP hD hS => ?_)
  obtain ⟨hu_3, hr_4⟩ := hw_2
  obtain ⟨hu_3a, hu_3b⟩ := Prod.mk.inj hu_3
  rw [hu_3a, hu_3b] at hP hD
  subst hr_4
  refine lv_astoreN (lv' := [(4, .null), (0, .ref this), (1, .int so), (2, .int mo), (3, .int wo)]) hx hb dX3_numberIn_6 hl (by decide) rfl (fun ls hl => ?_)
  refine lv_aloadN hx hb dX3_numberIn_8 (lv_at hl 0 rfl) ?_
  refine lv_ifnonnullN hx hb dX3_numberIn_10 ?_
  refine lv_iload_n hx hb dX3_numberIn_13 rfl (lv_at hl 4 rfl) ?_
  refine lv_goto (tgt := 24) hx hb dX3_numberIn_14 (by decide) ?_
  exact W.iret (v := wo) hx hb hr (fun t1 ht hW => ⟨⟨wo, (σ, I, J, ri, rj, rq), rfl, ⟨rfl, rfl⟩, by rw [ht]; exact hP, va_K.moved hW.alike hK, hD⟩, hS.F ht⟩) hS.2.2 dX3_numberIn_24

set_option maxHeartbeats 4000000 in
set_option maxRecDepth 100000 in
theorem c_X3_councilIn (l : Launch) (D : va_G) (t : pq_T) (σ : pq_S) (I : Nat → Nat → Int32) (J : Nat → Nat → Int64) (ri : Nat → Nat → Int32) (rj : Nat → Nat → Int64) (rq : Nat → Nat → Option Nat) (sz : Nat) (this : Nat) (mo : Int32) (hL_this : this ∈ σ.1) (hK_this : σ.2.1 this = 3) (hZ : pq_Z I) : MetI l yX3_councilIn (wa yX3_councilIn cX3_councilIn 2 (some .int)) ({ frames := 2, cells := 0, slots := 0, locals := 48 }) [.ref this, .int mo] D t σ (I, J, ri, rj, rq) sz 0 0 (fun (r : Int32) (u : pq_S × pq_M) => u = (σ, I, J, ri, rj, rq) ∧ ((r = 50))) := by
  refine Met.ofW (cc := cX3_councilIn) (maxL := 2) (ret := (some .int)) (by decide) rfl ?_
  intro p e s m args below meth c s₁ B hml hv
  obtain ⟨rfl, hsz, hP, hK, hD0, hN⟩ := hv
  have hx := B.exec
  have hb := B.bytes
  have hr := B.returns
  have hts := atoms_spec (ws := (wa yX3_councilIn cX3_councilIn 2 (some .int))) B.pre
  have hown : s.vm.findClass RX3 = some m.cls := findClass_of_methodNamed B.named
  have hlocks := B.notSynchronized
  subst hsz
  have hD : va_D (pq_B t σ (I, J, ri, rj, rq) s.heap.size) (pq_P t σ (I, J, ri, rj, rq)) := hD0.self
  generalize hAe : pq_B t σ (I, J, ri, rj, rq) s.heap.size = A at hD ⊢
  have hA : ∀ q : Nat, s.heap.size ≤ q → A q := fun q h => by rw [← hAe]; exact Or.inr h
  have hS : va_S A s.heap s.heap [] := va_S.rf
  have hl := lv_entry ([.ref this, .int mo]) (n := 2) (Nat.le_of_ble_eq_true rfl)
  rw [lg_entry_eq]
  generalize (lg_sl ([.ref this, .int mo]) ++ List.replicate (2 - (lg_sl ([.ref this, .int mo])).length) Slot.unset).toArray = ls at hl ⊢
  have hl : lv_has ls 2 [(0, .ref this), (1, .int mo)] := hl
  refine lv_aload_n hx hb dX3_councilIn_0 rfl (lv_at hl 0 rfl) ?_
  refine lv_bipush (v := 6) hx hb dX3_councilIn_1 (by decide) ?_
  refine lv_iload_n hx hb dX3_councilIn_3 rfl (lv_at hl 1 rfl) ?_
  refine lv_bipush (v := 50) hx hb dX3_councilIn_4 (by decide) ?_
  refine pk_i (va_runV (As := [.int 6, .int mo, .int 50]) (rest := []) ⟨hx, hb, hml, hown, hts⟩ (c_X3_numberIn l D t σ I J ri rj rq (Array.size s.heap) this (6 : Int32) mo (50 : Int32) hL_this hK_this hZ) (cwV 3 hts (tw_V tw_995 tw_996 tw_997 tw_49 tw_998) rfl rfl rfl (by decide +kernel) ⟨Nat.le_of_ble_eq_true rfl, Nat.le_of_ble_eq_true rfl⟩) ⟨pq_blind, pq_recv hK hP hL_this hK_this (by decide) rfl, pq_pre hK hN hP hD⟩ rfl rfl hl.1 rfl (lv_room (Nat.le_of_ble_eq_true rfl)) dX3_councilIn_6 ⟨Nat.le_of_ble_eq_true rfl, Nat.le_of_ble_eq_true rfl⟩) hD hS hA (fun r_1 σ1 μ1 H locs hw_2 hP hD hS => ?_)
  obtain ⟨hu_3, hr_4⟩ := hw_2
  obtain ⟨hu_3a, hu_3b⟩ := Prod.mk.inj hu_3
  rw [hu_3a, hu_3b] at hP hD
  refine lv_tov (50 : Int32) hr_4 ?_
  exact W.iret (v := 50) hx hb hr (fun t1 ht hW => ⟨⟨50, (σ, I, J, ri, rj, rq), rfl, ⟨rfl, rfl⟩, by rw [ht]; exact hP, va_K.moved hW.alike hK, hD⟩, hS.F ht⟩) hS.2.2 dX3_councilIn_9

set_option maxHeartbeats 4000000 in
set_option maxRecDepth 100000 in
theorem c_X3_leaveIn (l : Launch) (D : va_G) (t : pq_T) (σ : pq_S) (I : Nat → Nat → Int32) (J : Nat → Nat → Int64) (ri : Nat → Nat → Int32) (rj : Nat → Nat → Int64) (rq : Nat → Nat → Option Nat) (sz : Nat) (this : Nat) (mo : Int32) (hL_this : this ∈ σ.1) (hK_this : σ.2.1 this = 3) (hZ : pq_Z I) : MetI l yX3_leaveIn (wa yX3_leaveIn cX3_leaveIn 2 (some .int)) ({ frames := 2, cells := 0, slots := 0, locals := 48 }) [.ref this, .int mo] D t σ (I, J, ri, rj, rq) sz 0 0 (fun (r : Int32) (u : pq_S × pq_M) => u = (σ, I, J, ri, rj, rq) ∧ ((r = 10))) := by
  refine Met.ofW (cc := cX3_leaveIn) (maxL := 2) (ret := (some .int)) (by decide) rfl ?_
  intro p e s m args below meth c s₁ B hml hv
  obtain ⟨rfl, hsz, hP, hK, hD0, hN⟩ := hv
  have hx := B.exec
  have hb := B.bytes
  have hr := B.returns
  have hts := atoms_spec (ws := (wa yX3_leaveIn cX3_leaveIn 2 (some .int))) B.pre
  have hown : s.vm.findClass RX3 = some m.cls := findClass_of_methodNamed B.named
  have hlocks := B.notSynchronized
  subst hsz
  have hD : va_D (pq_B t σ (I, J, ri, rj, rq) s.heap.size) (pq_P t σ (I, J, ri, rj, rq)) := hD0.self
  generalize hAe : pq_B t σ (I, J, ri, rj, rq) s.heap.size = A at hD ⊢
  have hA : ∀ q : Nat, s.heap.size ≤ q → A q := fun q h => by rw [← hAe]; exact Or.inr h
  have hS : va_S A s.heap s.heap [] := va_S.rf
  have hl := lv_entry ([.ref this, .int mo]) (n := 2) (Nat.le_of_ble_eq_true rfl)
  rw [lg_entry_eq]
  generalize (lg_sl ([.ref this, .int mo]) ++ List.replicate (2 - (lg_sl ([.ref this, .int mo])).length) Slot.unset).toArray = ls at hl ⊢
  have hl : lv_has ls 2 [(0, .ref this), (1, .int mo)] := hl
  refine lv_aload_n hx hb dX3_leaveIn_0 rfl (lv_at hl 0 rfl) ?_
  refine lv_bipush (v := 8) hx hb dX3_leaveIn_1 (by decide) ?_
  refine lv_iload_n hx hb dX3_leaveIn_3 rfl (lv_at hl 1 rfl) ?_
  refine lv_bipush (v := 10) hx hb dX3_leaveIn_4 (by decide) ?_
  refine pk_i (va_runV (As := [.int 8, .int mo, .int 10]) (rest := []) ⟨hx, hb, hml, hown, hts⟩ (c_X3_numberIn l D t σ I J ri rj rq (Array.size s.heap) this (8 : Int32) mo (10 : Int32) hL_this hK_this hZ) (cwV 3 hts (tw_V tw_995 tw_996 tw_997 tw_49 tw_998) rfl rfl rfl (by decide +kernel) ⟨Nat.le_of_ble_eq_true rfl, Nat.le_of_ble_eq_true rfl⟩) ⟨pq_blind, pq_recv hK hP hL_this hK_this (by decide) rfl, pq_pre hK hN hP hD⟩ rfl rfl hl.1 rfl (lv_room (Nat.le_of_ble_eq_true rfl)) dX3_leaveIn_6 ⟨Nat.le_of_ble_eq_true rfl, Nat.le_of_ble_eq_true rfl⟩) hD hS hA (fun r_1 σ1 μ1 H locs hw_2 hP hD hS => ?_)
  obtain ⟨hu_3, hr_4⟩ := hw_2
  obtain ⟨hu_3a, hu_3b⟩ := Prod.mk.inj hu_3
  rw [hu_3a, hu_3b] at hP hD
  refine lv_tov (10 : Int32) hr_4 ?_
  exact W.iret (v := 10) hx hb hr (fun t1 ht hW => ⟨⟨10, (σ, I, J, ri, rj, rq), rfl, ⟨rfl, rfl⟩, by rw [ht]; exact hP, va_K.moved hW.alike hK, hD⟩, hS.F ht⟩) hS.2.2 dX3_leaveIn_9

set_option maxHeartbeats 4000000 in
set_option maxRecDepth 100000 in
theorem c_X3_fixIn (l : Launch) (D : va_G) (t : pq_T) (σ : pq_S) (I : Nat → Nat → Int32) (J : Nat → Nat → Int64) (ri : Nat → Nat → Int32) (rj : Nat → Nat → Int64) (rq : Nat → Nat → Option Nat) (sz : Nat) (this : Nat) (mo : Int32) (hL_this : this ∈ σ.1) (hK_this : σ.2.1 this = 3) (hZ : pq_Z I) : MetI l yX3_fixIn (wa yX3_fixIn cX3_fixIn 2 (some .int)) ({ frames := 2, cells := 0, slots := 0, locals := 48 }) [.ref this, .int mo] D t σ (I, J, ri, rj, rq) sz 0 0 (fun (r : Int32) (u : pq_S × pq_M) => u = (σ, I, J, ri, rj, rq) ∧ ((r = (-1)))) := by
  refine Met.ofW (cc := cX3_fixIn) (maxL := 2) (ret := (some .int)) (by decide) rfl ?_
  intro p e s m args below meth c s₁ B hml hv
  obtain ⟨rfl, hsz, hP, hK, hD0, hN⟩ := hv
  have hx := B.exec
  have hb := B.bytes
  have hr := B.returns
  have hts := atoms_spec (ws := (wa yX3_fixIn cX3_fixIn 2 (some .int))) B.pre
  have hown : s.vm.findClass RX3 = some m.cls := findClass_of_methodNamed B.named
  have hlocks := B.notSynchronized
  subst hsz
  have hD : va_D (pq_B t σ (I, J, ri, rj, rq) s.heap.size) (pq_P t σ (I, J, ri, rj, rq)) := hD0.self
  generalize hAe : pq_B t σ (I, J, ri, rj, rq) s.heap.size = A at hD ⊢
  have hA : ∀ q : Nat, s.heap.size ≤ q → A q := fun q h => by rw [← hAe]; exact Or.inr h
  have hS : va_S A s.heap s.heap [] := va_S.rf
  have hl := lv_entry ([.ref this, .int mo]) (n := 2) (Nat.le_of_ble_eq_true rfl)
  rw [lg_entry_eq]
  generalize (lg_sl ([.ref this, .int mo]) ++ List.replicate (2 - (lg_sl ([.ref this, .int mo])).length) Slot.unset).toArray = ls at hl ⊢
  have hl : lv_has ls 2 [(0, .ref this), (1, .int mo)] := hl
  refine lv_aload_n hx hb dX3_fixIn_0 rfl (lv_at hl 0 rfl) ?_
  refine lv_bipush (v := 7) hx hb dX3_fixIn_1 (by decide) ?_
  refine lv_iload_n hx hb dX3_fixIn_3 rfl (lv_at hl 1 rfl) ?_
  refine lv_iconst (v := (-1)) hx hb dX3_fixIn_4 (by decide) ?_
  refine pk_i (va_runV (As := [.int 7, .int mo, .int (-1)]) (rest := []) ⟨hx, hb, hml, hown, hts⟩ (c_X3_numberIn l D t σ I J ri rj rq (Array.size s.heap) this (7 : Int32) mo (-1 : Int32) hL_this hK_this hZ) (cwV 3 hts (tw_V tw_995 tw_996 tw_997 tw_49 tw_998) rfl rfl rfl (by decide +kernel) ⟨Nat.le_of_ble_eq_true rfl, Nat.le_of_ble_eq_true rfl⟩) ⟨pq_blind, pq_recv hK hP hL_this hK_this (by decide) rfl, pq_pre hK hN hP hD⟩ rfl rfl hl.1 rfl (lv_room (Nat.le_of_ble_eq_true rfl)) dX3_fixIn_5 ⟨Nat.le_of_ble_eq_true rfl, Nat.le_of_ble_eq_true rfl⟩) hD hS hA (fun r_1 σ1 μ1 H locs hw_2 hP hD hS => ?_)
  obtain ⟨hu_3, hr_4⟩ := hw_2
  obtain ⟨hu_3a, hu_3b⟩ := Prod.mk.inj hu_3
  rw [hu_3a, hu_3b] at hP hD
  refine lv_tov (-1 : Int32) hr_4 ?_
  exact W.iret (v := (-1)) hx hb hr (fun t1 ht hW => ⟨⟨(-1), (σ, I, J, ri, rj, rq), rfl, ⟨rfl, rfl⟩, by rw [ht]; exact hP, va_K.moved hW.alike hK, hD⟩, hS.F ht⟩) hS.2.2 dX3_fixIn_8

set_option maxHeartbeats 4000000 in
set_option maxRecDepth 100000 in
theorem c_X3_whoIsSo (l : Launch) (D : va_G) (t : pq_T) (σ : pq_S) (I : Nat → Nat → Int32) (J : Nat → Nat → Int64) (ri : Nat → Nat → Int32) (rj : Nat → Nat → Int64) (rq : Nat → Nat → Option Nat) (sz : Nat) (this : Nat) (so : Int32) (mo : Int32) (folk : Nat) (asked : Int64) (hL_this : this ∈ σ.1) (hK_this : σ.2.1 this = 3) (hL_folk : folk ∈ σ.1) (hK_folk : σ.2.1 folk = 0) (hZ : pq_Z I) : MetL l yX3_whoIsSo (wa yX3_whoIsSo cX3_whoIsSo 10 (some .long)) ({ frames := 1, cells := 0, slots := 0, locals := 24 }) [.ref this, .int so, .int mo, .ref folk, .long asked] D t σ (I, J, ri, rj, rq) sz 0 0 (fun (r : Int64) (u : pq_S × pq_M) => u = (σ, I, J, ri, rj, rq) ∧ (r = asked)) := by
  refine Met.ofW (cc := cX3_whoIsSo) (maxL := 10) (ret := (some .long)) (by decide) rfl ?_
  intro p e s m args below meth c s₁ B hml hv
  obtain ⟨rfl, hsz, hP, hK, hD0, hN⟩ := hv
  have hx := B.exec
  have hb := B.bytes
  have hr := B.returns
  have hts := atoms_spec (ws := (wa yX3_whoIsSo cX3_whoIsSo 10 (some .long))) B.pre
  have hown : s.vm.findClass RX3 = some m.cls := findClass_of_methodNamed B.named
  have hlocks := B.notSynchronized
  subst hsz
  have hD : va_D (pq_B t σ (I, J, ri, rj, rq) s.heap.size) (pq_P t σ (I, J, ri, rj, rq)) := hD0.self
  generalize hAe : pq_B t σ (I, J, ri, rj, rq) s.heap.size = A at hD ⊢
  have hA : ∀ q : Nat, s.heap.size ≤ q → A q := fun q h => by rw [← hAe]; exact Or.inr h
  have hS : va_S A s.heap s.heap [] := va_S.rf
  have hl := lv_entry ([.ref this, .int so, .int mo, .ref folk, .long asked]) (n := 10) (Nat.le_of_ble_eq_true rfl)
  rw [lg_entry_eq]
  generalize (lg_sl ([.ref this, .int so, .int mo, .ref folk, .long asked]) ++ List.replicate (10 - (lg_sl ([.ref this, .int so, .int mo, .ref folk, .long asked])).length) Slot.unset).toArray = ls at hl ⊢
  have hl : lv_has ls 10 [(0, .ref this), (1, .int so), (2, .int mo), (3, .ref folk), (4, .long asked)] := hl
  refine lv_aload_n hx hb dX3_whoIsSo_0 rfl (lv_at hl 0 rfl) ?_
  refine lv_iload_n hx hb dX3_whoIsSo_1 rfl (lv_at hl 1 rfl) ?_
  refine lv_iload_n hx hb dX3_whoIsSo_2 rfl (lv_at hl 2 rfl) ?_
  refine pk_q (va_runV (As := [.int so, .int mo]) (rest := []) ⟨hx, hb, hml, hown, hts⟩ (c_X3_textFor l D t σ I J ri rj rq (Array.size s.heap) this so mo hL_this hK_this hZ) (cwV 2 hts (tw_V tw_469 tw_470 tw_471 tw_49 tw_472) rfl rfl rfl (by decide +kernel) ⟨Nat.le_of_ble_eq_true rfl, Nat.le_of_ble_eq_true rfl⟩) ⟨pq_blind, pq_recv hK hP hL_this hK_this (by decide) rfl, pq_pre hK hN hP hD⟩ rfl rfl hl.1 rfl (lv_room (Nat.le_of_ble_eq_true rfl)) dX3_whoIsSo_3 ⟨Nat.le_of_ble_eq_true rfl, Nat.le_of_ble_eq_true rfl⟩) hD hS hA (fun r_1 σ1 μ1 H locs hw_2 hP hD hS => ?_)
  obtain ⟨hu_3, hr_4⟩ := hw_2
  obtain ⟨hu_3a, hu_3b⟩ := Prod.mk.inj hu_3
  rw [hu_3a, hu_3b] at hP hD
  subst hr_4
  refine lv_astoreN (lv' := [(6, .null), (0, .ref this), (1, .int so), (2, .int mo), (3, .ref folk), (4, .long asked)]) hx hb dX3_whoIsSo_6 hl (by decide) rfl (fun ls hl => ?_)
  refine lv_aloadN hx hb dX3_whoIsSo_8 (lv_at hl 0 rfl) ?_
  refine lv_ifnonnullN hx hb dX3_whoIsSo_10 ?_
  refine lv_lload hx hb dX3_whoIsSo_13 (lv_at hl 5 rfl) ?_
  exact W.lret (v := asked) hx hb hr (fun t1 ht hW => ⟨⟨asked, (σ, I, J, ri, rj, rq), rfl, ⟨rfl, rfl⟩, by rw [ht]; exact hP, va_K.moved hW.alike hK, hD⟩, hS.F ht⟩) hS.2.2 dX3_whoIsSo_15
